section
-- ===== PART A: goes FIRST, ahead of the names: the tables' words, and 'selects' of the private methods out of them =====
/-- a private method of a class that the tables say can be made, by its rows of tables_1 -/
def lw_okq (q : MethodName × Nat) : Prop := (q.1.cls ≠ "java/lang/invoke/MethodHandle" ∧ q.1.cls ≠ "java/lang/invoke/VarHandle") ∧ Cond.instantiable q.1.cls q.2 ∈ tables_1 ∧ Cond.privateMethod q.1 ∈ tables_1 ∧ Cond.instanceMethod q.1 ∈ tables_1
theorem lw_p0 : lw_okq (⟨"AsWithTheLast$Reader", "readItem", "(I)I"⟩, 3) := ⟨⟨by decide +kernel, by decide +kernel⟩, List.mem_of_getElem? (i := 97) (by decide +kernel), List.mem_of_getElem? (i := 297) (by decide +kernel), List.mem_of_getElem? (i := 298) (by decide +kernel)⟩
theorem lw_p1 : lw_okq (⟨"AsWithTheLast$Reader", "readNumber", "(I)I"⟩, 3) := ⟨⟨by decide +kernel, by decide +kernel⟩, List.mem_of_getElem? (i := 97) (by decide +kernel), List.mem_of_getElem? (i := 309) (by decide +kernel), List.mem_of_getElem? (i := 310) (by decide +kernel)⟩
theorem lw_p2 : lw_okq (⟨"AsWithTheLast$Reader", "takeItem", "(I)Z"⟩, 3) := ⟨⟨by decide +kernel, by decide +kernel⟩, List.mem_of_getElem? (i := 97) (by decide +kernel), List.mem_of_getElem? (i := 317) (by decide +kernel), List.mem_of_getElem? (i := 318) (by decide +kernel)⟩
theorem lw_p3 : lw_okq (⟨"AsWithTheLast$Reader", "takeKind", "()Z"⟩, 3) := ⟨⟨by decide +kernel, by decide +kernel⟩, List.mem_of_getElem? (i := 97) (by decide +kernel), List.mem_of_getElem? (i := 321) (by decide +kernel), List.mem_of_getElem? (i := 322) (by decide +kernel)⟩
theorem lw_p4 : lw_okq (⟨"AsWithTheLast$Reader", "takeErrand", "(I)Z"⟩, 3) := ⟨⟨by decide +kernel, by decide +kernel⟩, List.mem_of_getElem? (i := 97) (by decide +kernel), List.mem_of_getElem? (i := 339) (by decide +kernel), List.mem_of_getElem? (i := 340) (by decide +kernel)⟩
theorem lw_p5 : lw_okq (⟨"AsWithTheLast", "learnerNow", "(I)LAsWithTheLast$Learner;"⟩, 12) := ⟨⟨by decide +kernel, by decide +kernel⟩, List.mem_of_getElem? (i := 18) (by decide +kernel), List.mem_of_getElem? (i := 464) (by decide +kernel), List.mem_of_getElem? (i := 465) (by decide +kernel)⟩
theorem lw_p6 : lw_okq (⟨"AsWithTheLast$Learner", "likestDoing", "(I)I"⟩, 9) := ⟨⟨by decide +kernel, by decide +kernel⟩, List.mem_of_getElem? (i := 169) (by decide +kernel), List.mem_of_getElem? (i := 491) (by decide +kernel), List.mem_of_getElem? (i := 492) (by decide +kernel)⟩
theorem lw_p7 : lw_okq (⟨"AsWithTheLast$Learner", "keeps", "(I)Z"⟩, 9) := ⟨⟨by decide +kernel, by decide +kernel⟩, List.mem_of_getElem? (i := 169) (by decide +kernel), List.mem_of_getElem? (i := 497) (by decide +kernel), List.mem_of_getElem? (i := 498) (by decide +kernel)⟩
theorem lw_p8 : lw_okq (⟨"AsWithTheLast$Shelf", "dropOldest", "()V"⟩, 2) := ⟨⟨by decide +kernel, by decide +kernel⟩, List.mem_of_getElem? (i := 152) (by decide +kernel), List.mem_of_getElem? (i := 514) (by decide +kernel), List.mem_of_getElem? (i := 515) (by decide +kernel)⟩
theorem lw_p9 : lw_okq (⟨"AsWithTheLast$Shelf", "placeAt", "(I)LAsWithTheLast$Memory;"⟩, 2) := ⟨⟨by decide +kernel, by decide +kernel⟩, List.mem_of_getElem? (i := 152) (by decide +kernel), List.mem_of_getElem? (i := 518) (by decide +kernel), List.mem_of_getElem? (i := 519) (by decide +kernel)⟩
theorem lw_p10 : lw_okq (⟨"AsWithTheLast", "fillTimes", "(LAsWithTheLast$Learner;)V"⟩, 12) := ⟨⟨by decide +kernel, by decide +kernel⟩, List.mem_of_getElem? (i := 18) (by decide +kernel), List.mem_of_getElem? (i := 609) (by decide +kernel), List.mem_of_getElem? (i := 610) (by decide +kernel)⟩
theorem lw_p11 : lw_okq (⟨"AsWithTheLast", "comesRoundAfter", "(I)Z"⟩, 12) := ⟨⟨by decide +kernel, by decide +kernel⟩, List.mem_of_getElem? (i := 18) (by decide +kernel), List.mem_of_getElem? (i := 617) (by decide +kernel), List.mem_of_getElem? (i := 618) (by decide +kernel)⟩
theorem lw_p12 : lw_okq (⟨"AsWithTheLast$Orders", "addLeft", "(II)V"⟩, 5) := ⟨⟨by decide +kernel, by decide +kernel⟩, List.mem_of_getElem? (i := 205) (by decide +kernel), List.mem_of_getElem? (i := 632) (by decide +kernel), List.mem_of_getElem? (i := 633) (by decide +kernel)⟩
theorem lw_p13 : lw_okq (⟨"AsWithTheLast$Orders", "tryFrom", "(LAsWithTheLast$Learner;II)V"⟩, 5) := ⟨⟨by decide +kernel, by decide +kernel⟩, List.mem_of_getElem? (i := 205) (by decide +kernel), List.mem_of_getElem? (i := 638) (by decide +kernel), List.mem_of_getElem? (i := 639) (by decide +kernel)⟩
theorem lw_p14 : lw_okq (⟨"AsWithTheLast$Learner", "copyFrom", "(LAsWithTheLast$Learner;)V"⟩, 9) := ⟨⟨by decide +kernel, by decide +kernel⟩, List.mem_of_getElem? (i := 169) (by decide +kernel), List.mem_of_getElem? (i := 648) (by decide +kernel), List.mem_of_getElem? (i := 649) (by decide +kernel)⟩
theorem lw_p15 : lw_okq (⟨"AsWithTheLast", "canBe", "(II)Z"⟩, 12) := ⟨⟨by decide +kernel, by decide +kernel⟩, List.mem_of_getElem? (i := 18) (by decide +kernel), List.mem_of_getElem? (i := 673) (by decide +kernel), List.mem_of_getElem? (i := 674) (by decide +kernel)⟩
def lw_privs_1 : List (MethodName × Nat) := [(⟨"AsWithTheLast$Reader", "readItem", "(I)I"⟩, 3), (⟨"AsWithTheLast$Reader", "readNumber", "(I)I"⟩, 3), (⟨"AsWithTheLast$Reader", "takeItem", "(I)Z"⟩, 3), (⟨"AsWithTheLast$Reader", "takeKind", "()Z"⟩, 3), (⟨"AsWithTheLast$Reader", "takeErrand", "(I)Z"⟩, 3), (⟨"AsWithTheLast", "learnerNow", "(I)LAsWithTheLast$Learner;"⟩, 12), (⟨"AsWithTheLast$Learner", "likestDoing", "(I)I"⟩, 9), (⟨"AsWithTheLast$Learner", "keeps", "(I)Z"⟩, 9), (⟨"AsWithTheLast$Shelf", "dropOldest", "()V"⟩, 2), (⟨"AsWithTheLast$Shelf", "placeAt", "(I)LAsWithTheLast$Memory;"⟩, 2), (⟨"AsWithTheLast", "fillTimes", "(LAsWithTheLast$Learner;)V"⟩, 12), (⟨"AsWithTheLast", "comesRoundAfter", "(I)Z"⟩, 12), (⟨"AsWithTheLast$Orders", "addLeft", "(II)V"⟩, 5), (⟨"AsWithTheLast$Orders", "tryFrom", "(LAsWithTheLast$Learner;II)V"⟩, 5), (⟨"AsWithTheLast$Learner", "copyFrom", "(LAsWithTheLast$Learner;)V"⟩, 9), (⟨"AsWithTheLast", "canBe", "(II)Z"⟩, 12)]
theorem lw_r1 : ∀ q ∈ lw_privs_1, lw_okq q := List.forall_mem_cons.mpr ⟨lw_p0, List.forall_mem_cons.mpr ⟨lw_p1, List.forall_mem_cons.mpr ⟨lw_p2, List.forall_mem_cons.mpr ⟨lw_p3, List.forall_mem_cons.mpr ⟨lw_p4, List.forall_mem_cons.mpr ⟨lw_p5, List.forall_mem_cons.mpr ⟨lw_p6, List.forall_mem_cons.mpr ⟨lw_p7, List.forall_mem_cons.mpr ⟨lw_p8, List.forall_mem_cons.mpr ⟨lw_p9, List.forall_mem_cons.mpr ⟨lw_p10, List.forall_mem_cons.mpr ⟨lw_p11, List.forall_mem_cons.mpr ⟨lw_p12, List.forall_mem_cons.mpr ⟨lw_p13, List.forall_mem_cons.mpr ⟨lw_p14, List.forall_mem_cons.mpr ⟨lw_p15, fun _ h => absurd h List.not_mem_nil⟩⟩⟩⟩⟩⟩⟩⟩⟩⟩⟩⟩⟩⟩⟩⟩
theorem lw_p16 : lw_okq (⟨"AsWithTheLast", "speaksAgainst", "(II)Z"⟩, 12) := ⟨⟨by decide +kernel, by decide +kernel⟩, List.mem_of_getElem? (i := 18) (by decide +kernel), List.mem_of_getElem? (i := 677) (by decide +kernel), List.mem_of_getElem? (i := 678) (by decide +kernel)⟩
theorem lw_p17 : lw_okq (⟨"AsWithTheLast", "mostAlike", "(II)I"⟩, 12) := ⟨⟨by decide +kernel, by decide +kernel⟩, List.mem_of_getElem? (i := 18) (by decide +kernel), List.mem_of_getElem? (i := 690) (by decide +kernel), List.mem_of_getElem? (i := 691) (by decide +kernel)⟩
theorem lw_p18 : lw_okq (⟨"AsWithTheLast", "firstWrong", "(IIZ)I"⟩, 12) := ⟨⟨by decide +kernel, by decide +kernel⟩, List.mem_of_getElem? (i := 18) (by decide +kernel), List.mem_of_getElem? (i := 702) (by decide +kernel), List.mem_of_getElem? (i := 703) (by decide +kernel)⟩
theorem lw_p19 : lw_okq (⟨"AsWithTheLast", "drawnKind", "(II)I"⟩, 12) := ⟨⟨by decide +kernel, by decide +kernel⟩, List.mem_of_getElem? (i := 18) (by decide +kernel), List.mem_of_getElem? (i := 744) (by decide +kernel), List.mem_of_getElem? (i := 745) (by decide +kernel)⟩
theorem lw_p20 : lw_okq (⟨"AsWithTheLastModel", "tellKind", "(IIIII)V"⟩, 33) := ⟨⟨by decide +kernel, by decide +kernel⟩, List.mem_of_getElem? (i := 765) (by decide +kernel), List.mem_of_getElem? (i := 771) (by decide +kernel), List.mem_of_getElem? (i := 772) (by decide +kernel)⟩
theorem lw_p21 : lw_okq (⟨"AsWithTheLastModel", "readItem", "()Z"⟩, 33) := ⟨⟨by decide +kernel, by decide +kernel⟩, List.mem_of_getElem? (i := 765) (by decide +kernel), List.mem_of_getElem? (i := 892) (by decide +kernel), List.mem_of_getElem? (i := 893) (by decide +kernel)⟩
theorem lw_p22 : lw_okq (⟨"AsWithTheLastModel", "readNumbers", "(I)Z"⟩, 33) := ⟨⟨by decide +kernel, by decide +kernel⟩, List.mem_of_getElem? (i := 765) (by decide +kernel), List.mem_of_getElem? (i := 896) (by decide +kernel), List.mem_of_getElem? (i := 897) (by decide +kernel)⟩
theorem lw_p23 : lw_okq (⟨"AsWithTheLastModel", "readKind", "()Z"⟩, 33) := ⟨⟨by decide +kernel, by decide +kernel⟩, List.mem_of_getElem? (i := 765) (by decide +kernel), List.mem_of_getElem? (i := 902) (by decide +kernel), List.mem_of_getElem? (i := 903) (by decide +kernel)⟩
theorem lw_p24 : lw_okq (⟨"AsWithTheLastModel", "isKind", "(I)Z"⟩, 33) := ⟨⟨by decide +kernel, by decide +kernel⟩, List.mem_of_getElem? (i := 765) (by decide +kernel), List.mem_of_getElem? (i := 923) (by decide +kernel), List.mem_of_getElem? (i := 924) (by decide +kernel)⟩
theorem lw_p25 : lw_okq (⟨"AsWithTheLastModel", "unlikeOf", "(II)I"⟩, 33) := ⟨⟨by decide +kernel, by decide +kernel⟩, List.mem_of_getElem? (i := 765) (by decide +kernel), List.mem_of_getElem? (i := 939) (by decide +kernel), List.mem_of_getElem? (i := 940) (by decide +kernel)⟩
theorem lw_p26 : lw_okq (⟨"AsWithTheLastModel", "doesBy", "(III)I"⟩, 33) := ⟨⟨by decide +kernel, by decide +kernel⟩, List.mem_of_getElem? (i := 765) (by decide +kernel), List.mem_of_getElem? (i := 951) (by decide +kernel), List.mem_of_getElem? (i := 952) (by decide +kernel)⟩
theorem lw_p27 : lw_okq (⟨"AsWithTheLastModel", "note", "()V"⟩, 33) := ⟨⟨by decide +kernel, by decide +kernel⟩, List.mem_of_getElem? (i := 765) (by decide +kernel), List.mem_of_getElem? (i := 959) (by decide +kernel), List.mem_of_getElem? (i := 960) (by decide +kernel)⟩
theorem lw_p28 : lw_okq (⟨"AsWithTheLastModel", "day", "(III)I"⟩, 33) := ⟨⟨by decide +kernel, by decide +kernel⟩, List.mem_of_getElem? (i := 765) (by decide +kernel), List.mem_of_getElem? (i := 963) (by decide +kernel), List.mem_of_getElem? (i := 964) (by decide +kernel)⟩
theorem lw_p29 : lw_okq (⟨"AsWithTheLastModel", "goes", "(II)I"⟩, 33) := ⟨⟨by decide +kernel, by decide +kernel⟩, List.mem_of_getElem? (i := 765) (by decide +kernel), List.mem_of_getElem? (i := 967) (by decide +kernel), List.mem_of_getElem? (i := 968) (by decide +kernel)⟩
theorem lw_p30 : lw_okq (⟨"AsWithTheLastModel", "hear", "(II)V"⟩, 33) := ⟨⟨by decide +kernel, by decide +kernel⟩, List.mem_of_getElem? (i := 765) (by decide +kernel), List.mem_of_getElem? (i := 974) (by decide +kernel), List.mem_of_getElem? (i := 975) (by decide +kernel)⟩
theorem lw_p31 : lw_okq (⟨"AsWithTheLastModel", "tryRow", "(I)I"⟩, 33) := ⟨⟨by decide +kernel, by decide +kernel⟩, List.mem_of_getElem? (i := 765) (by decide +kernel), List.mem_of_getElem? (i := 999) (by decide +kernel), List.mem_of_getElem? (i := 1000) (by decide +kernel)⟩
def lw_privs_2 : List (MethodName × Nat) := [(⟨"AsWithTheLast", "speaksAgainst", "(II)Z"⟩, 12), (⟨"AsWithTheLast", "mostAlike", "(II)I"⟩, 12), (⟨"AsWithTheLast", "firstWrong", "(IIZ)I"⟩, 12), (⟨"AsWithTheLast", "drawnKind", "(II)I"⟩, 12), (⟨"AsWithTheLastModel", "tellKind", "(IIIII)V"⟩, 33), (⟨"AsWithTheLastModel", "readItem", "()Z"⟩, 33), (⟨"AsWithTheLastModel", "readNumbers", "(I)Z"⟩, 33), (⟨"AsWithTheLastModel", "readKind", "()Z"⟩, 33), (⟨"AsWithTheLastModel", "isKind", "(I)Z"⟩, 33), (⟨"AsWithTheLastModel", "unlikeOf", "(II)I"⟩, 33), (⟨"AsWithTheLastModel", "doesBy", "(III)I"⟩, 33), (⟨"AsWithTheLastModel", "note", "()V"⟩, 33), (⟨"AsWithTheLastModel", "day", "(III)I"⟩, 33), (⟨"AsWithTheLastModel", "goes", "(II)I"⟩, 33), (⟨"AsWithTheLastModel", "hear", "(II)V"⟩, 33), (⟨"AsWithTheLastModel", "tryRow", "(I)I"⟩, 33)]
theorem lw_r2 : ∀ q ∈ lw_privs_2, lw_okq q := List.forall_mem_cons.mpr ⟨lw_p16, List.forall_mem_cons.mpr ⟨lw_p17, List.forall_mem_cons.mpr ⟨lw_p18, List.forall_mem_cons.mpr ⟨lw_p19, List.forall_mem_cons.mpr ⟨lw_p20, List.forall_mem_cons.mpr ⟨lw_p21, List.forall_mem_cons.mpr ⟨lw_p22, List.forall_mem_cons.mpr ⟨lw_p23, List.forall_mem_cons.mpr ⟨lw_p24, List.forall_mem_cons.mpr ⟨lw_p25, List.forall_mem_cons.mpr ⟨lw_p26, List.forall_mem_cons.mpr ⟨lw_p27, List.forall_mem_cons.mpr ⟨lw_p28, List.forall_mem_cons.mpr ⟨lw_p29, List.forall_mem_cons.mpr ⟨lw_p30, List.forall_mem_cons.mpr ⟨lw_p31, fun _ h => absurd h List.not_mem_nil⟩⟩⟩⟩⟩⟩⟩⟩⟩⟩⟩⟩⟩⟩⟩⟩
theorem lw_p32 : lw_okq (⟨"AsWithTheLastModel", "putAside", "()V"⟩, 33) := ⟨⟨by decide +kernel, by decide +kernel⟩, List.mem_of_getElem? (i := 765) (by decide +kernel), List.mem_of_getElem? (i := 1003) (by decide +kernel), List.mem_of_getElem? (i := 1004) (by decide +kernel)⟩
theorem lw_p33 : lw_okq (⟨"AsWithTheLastModel", "runRow", "(II)I"⟩, 33) := ⟨⟨by decide +kernel, by decide +kernel⟩, List.mem_of_getElem? (i := 765) (by decide +kernel), List.mem_of_getElem? (i := 1007) (by decide +kernel), List.mem_of_getElem? (i := 1008) (by decide +kernel)⟩
theorem lw_p34 : lw_okq (⟨"AsWithTheLastModel", "takeBack", "()V"⟩, 33) := ⟨⟨by decide +kernel, by decide +kernel⟩, List.mem_of_getElem? (i := 765) (by decide +kernel), List.mem_of_getElem? (i := 1011) (by decide +kernel), List.mem_of_getElem? (i := 1012) (by decide +kernel)⟩
theorem lw_p35 : lw_okq (⟨"AsWithTheLastModel", "isRound", "(I)Z"⟩, 33) := ⟨⟨by decide +kernel, by decide +kernel⟩, List.mem_of_getElem? (i := 765) (by decide +kernel), List.mem_of_getElem? (i := 1019) (by decide +kernel), List.mem_of_getElem? (i := 1020) (by decide +kernel)⟩
theorem lw_p36 : lw_okq (⟨"AsWithTheLastModel", "exchange", "(II)V"⟩, 33) := ⟨⟨by decide +kernel, by decide +kernel⟩, List.mem_of_getElem? (i := 765) (by decide +kernel), List.mem_of_getElem? (i := 1027) (by decide +kernel), List.mem_of_getElem? (i := 1028) (by decide +kernel)⟩
theorem lw_p37 : lw_okq (⟨"AsWithTheLastModel", "nextRow", "()Z"⟩, 33) := ⟨⟨by decide +kernel, by decide +kernel⟩, List.mem_of_getElem? (i := 765) (by decide +kernel), List.mem_of_getElem? (i := 1031) (by decide +kernel), List.mem_of_getElem? (i := 1032) (by decide +kernel)⟩
theorem lw_p38 : lw_okq (⟨"AsWithTheLastModel", "tryTaught", "(II)I"⟩, 33) := ⟨⟨by decide +kernel, by decide +kernel⟩, List.mem_of_getElem? (i := 765) (by decide +kernel), List.mem_of_getElem? (i := 1039) (by decide +kernel), List.mem_of_getElem? (i := 1040) (by decide +kernel)⟩
theorem lw_p39 : lw_okq (⟨"AsWithTheLastModel", "isFit", "(II)Z"⟩, 33) := ⟨⟨by decide +kernel, by decide +kernel⟩, List.mem_of_getElem? (i := 765) (by decide +kernel), List.mem_of_getElem? (i := 1055) (by decide +kernel), List.mem_of_getElem? (i := 1056) (by decide +kernel)⟩
theorem lw_p40 : lw_okq (⟨"AsWithTheLastModel", "holds", "(II)Z"⟩, 33) := ⟨⟨by decide +kernel, by decide +kernel⟩, List.mem_of_getElem? (i := 765) (by decide +kernel), List.mem_of_getElem? (i := 1072) (by decide +kernel), List.mem_of_getElem? (i := 1073) (by decide +kernel)⟩
theorem lw_p41 : lw_okq (⟨"AsWithTheLastModel", "oneRound", "()I"⟩, 33) := ⟨⟨by decide +kernel, by decide +kernel⟩, List.mem_of_getElem? (i := 765) (by decide +kernel), List.mem_of_getElem? (i := 1085) (by decide +kernel), List.mem_of_getElem? (i := 1086) (by decide +kernel)⟩
theorem lw_p42 : lw_okq (⟨"AsWithTheLastModel", "copyTo", "([I[I)V"⟩, 33) := ⟨⟨by decide +kernel, by decide +kernel⟩, List.mem_of_getElem? (i := 765) (by decide +kernel), List.mem_of_getElem? (i := 1089) (by decide +kernel), List.mem_of_getElem? (i := 1090) (by decide +kernel)⟩
theorem lw_p43 : lw_okq (⟨"AsWithTheLastModel", "worstDay", "()I"⟩, 33) := ⟨⟨by decide +kernel, by decide +kernel⟩, List.mem_of_getElem? (i := 765) (by decide +kernel), List.mem_of_getElem? (i := 1093) (by decide +kernel), List.mem_of_getElem? (i := 1094) (by decide +kernel)⟩
theorem lw_p44 : lw_okq (⟨"AsWithTheLastModel", "twoRounds", "()I"⟩, 33) := ⟨⟨by decide +kernel, by decide +kernel⟩, List.mem_of_getElem? (i := 765) (by decide +kernel), List.mem_of_getElem? (i := 1097) (by decide +kernel), List.mem_of_getElem? (i := 1098) (by decide +kernel)⟩
theorem lw_p45 : lw_okq (⟨"AsWithTheLastModel", "worstTwo", "()I"⟩, 33) := ⟨⟨by decide +kernel, by decide +kernel⟩, List.mem_of_getElem? (i := 765) (by decide +kernel), List.mem_of_getElem? (i := 1101) (by decide +kernel), List.mem_of_getElem? (i := 1102) (by decide +kernel)⟩
def lw_privs_3 : List (MethodName × Nat) := [(⟨"AsWithTheLastModel", "putAside", "()V"⟩, 33), (⟨"AsWithTheLastModel", "runRow", "(II)I"⟩, 33), (⟨"AsWithTheLastModel", "takeBack", "()V"⟩, 33), (⟨"AsWithTheLastModel", "isRound", "(I)Z"⟩, 33), (⟨"AsWithTheLastModel", "exchange", "(II)V"⟩, 33), (⟨"AsWithTheLastModel", "nextRow", "()Z"⟩, 33), (⟨"AsWithTheLastModel", "tryTaught", "(II)I"⟩, 33), (⟨"AsWithTheLastModel", "isFit", "(II)Z"⟩, 33), (⟨"AsWithTheLastModel", "holds", "(II)Z"⟩, 33), (⟨"AsWithTheLastModel", "oneRound", "()I"⟩, 33), (⟨"AsWithTheLastModel", "copyTo", "([I[I)V"⟩, 33), (⟨"AsWithTheLastModel", "worstDay", "()I"⟩, 33), (⟨"AsWithTheLastModel", "twoRounds", "()I"⟩, 33), (⟨"AsWithTheLastModel", "worstTwo", "()I"⟩, 33)]
theorem lw_r3 : ∀ q ∈ lw_privs_3, lw_okq q := List.forall_mem_cons.mpr ⟨lw_p32, List.forall_mem_cons.mpr ⟨lw_p33, List.forall_mem_cons.mpr ⟨lw_p34, List.forall_mem_cons.mpr ⟨lw_p35, List.forall_mem_cons.mpr ⟨lw_p36, List.forall_mem_cons.mpr ⟨lw_p37, List.forall_mem_cons.mpr ⟨lw_p38, List.forall_mem_cons.mpr ⟨lw_p39, List.forall_mem_cons.mpr ⟨lw_p40, List.forall_mem_cons.mpr ⟨lw_p41, List.forall_mem_cons.mpr ⟨lw_p42, List.forall_mem_cons.mpr ⟨lw_p43, List.forall_mem_cons.mpr ⟨lw_p44, List.forall_mem_cons.mpr ⟨lw_p45, fun _ h => absurd h List.not_mem_nil⟩⟩⟩⟩⟩⟩⟩⟩⟩⟩⟩⟩⟩⟩
def lw_privs : List (MethodName × Nat) := lw_privs_1 ++ (lw_privs_2 ++ (lw_privs_3))
def lw_tbl : List Cond := k2_sels lw_privs ++ tables_1
theorem lw_privs_ok : ∀ q ∈ lw_privs, lw_okq q := by
  show ∀ q ∈ lw_privs_1 ++ (lw_privs_2 ++ (lw_privs_3)), lw_okq q
  exact List.forall_mem_append.mpr ⟨lw_r1, List.forall_mem_append.mpr ⟨lw_r2, lw_r3⟩⟩
-- ===== end of PART A; then your names; then what follows =====
def RX0 : String := "AsWithTheLast$Learner"
def TX0 : u_T := fun k => match k with
  | 0 => ("AsWithTheLast$Learner", "lesson", "LAsWithTheLast$Lesson;", true)
  | 1 => ("AsWithTheLast$Learner", "below", "LAsWithTheLast$Learner;", true)
  | 2 => ("AsWithTheLast$Learner", "latest", "LAsWithTheLast$Numbers;", true)
  | 3 => ("AsWithTheLast$Learner", "latestDoing", "LAsWithTheLast$Numbers;", true)
  | 4 => ("AsWithTheLast$Learner", "sort", "I", false)
  | 5 => ("AsWithTheLast$Learner", "first", "I", false)
  | 6 => ("AsWithTheLast$Learner", "heard", "I", false)
  | 7 => ("AsWithTheLast$Learner", "last", "I", false)
  | _ => ("AsWithTheLast$Learner", "before", "I", false)
def tyX0 : Nat → FieldType := fun k => match k with
  | 0 => .object "AsWithTheLast$Lesson"
  | 1 => .object "AsWithTheLast$Learner"
  | 2 => .object "AsWithTheLast$Numbers"
  | 3 => .object "AsWithTheLast$Numbers"
  | 4 => .int
  | 5 => .int
  | 6 => .int
  | 7 => .int
  | _ => .int
abbrev wsX00 : List Cond := u_ws RX0 TX0 9
theorem nmX0 : ∀ a, a < 9 → ∀ b, b < 9 → a ≠ b → (TX0 a).2.1 ≠ (TX0 b).2.1 := by decide +kernel
theorem tyX0_ok : ∀ k, k < 9 → parseFieldDescriptor (TX0 k).2.2.1 = some (tyX0 k) := by decide +kernel
abbrev cX0_init : ByteArray := prog_2_method_1_code
def yX0_init : MethodName := ⟨RX0, "<init>", "(LAsWithTheLast$Lesson;LAsWithTheLast$Learner;)V"⟩
abbrev cX0_begin : ByteArray := prog_2_method_2_code
def yX0_begin : MethodName := ⟨RX0, "begin", "(II)V"⟩
abbrev cX0_hear : ByteArray := prog_2_method_3_code
def yX0_hear : MethodName := ⟨RX0, "hear", "(II)V"⟩
abbrev cX0_hearAll : ByteArray := prog_2_method_4_code
def yX0_hearAll : MethodName := ⟨RX0, "hearAll", "(LAsWithTheLast$Numbers;)V"⟩
abbrev cX0_willDo : ByteArray := prog_2_method_5_code
def yX0_willDo : MethodName := ⟨RX0, "willDo", "(I)I"⟩
abbrev cX0_keeps : ByteArray := prog_2_method_6_code
def yX0_keeps : MethodName := ⟨RX0, "keeps", "(I)Z"⟩
abbrev cX0_likestDoing : ByteArray := prog_2_method_7_code
def yX0_likestDoing : MethodName := ⟨RX0, "likestDoing", "(I)I"⟩
abbrev cX0_day : ByteArray := prog_2_method_8_code
def yX0_day : MethodName := ⟨RX0, "day", "(I)I"⟩
abbrev cX0_lossOfRow : ByteArray := prog_2_method_9_code
def yX0_lossOfRow : MethodName := ⟨RX0, "lossOfRow", "()I"⟩
abbrev cX0_firstGoodOfRow : ByteArray := prog_2_method_10_code
def yX0_firstGoodOfRow : MethodName := ⟨RX0, "firstGoodOfRow", "()I"⟩
abbrev cX0_doingsOfRow : ByteArray := prog_2_method_11_code
def yX0_doingsOfRow : MethodName := ⟨RX0, "doingsOfRow", "()I"⟩
abbrev cX0_stepDown : ByteArray := prog_2_method_12_code
def yX0_stepDown : MethodName := ⟨RX0, "stepDown", "()LAsWithTheLast$Learner;"⟩
abbrev cX0_copyFrom : ByteArray := prog_2_method_13_code
def yX0_copyFrom : MethodName := ⟨RX0, "copyFrom", "(LAsWithTheLast$Learner;)V"⟩
def RX1 : String := "AsWithTheLast$Lesson"
def TX1 : u_T := fun k => match k with
  | 0 => ("AsWithTheLast$Lesson", "marks", "LAsWithTheLast$Numbers;", true)
  | 1 => ("AsWithTheLast$Lesson", "right", "LAsWithTheLast$Numbers;", true)
  | 2 => ("AsWithTheLast$Lesson", "spoilers", "LAsWithTheLast$Numbers;", true)
  | 3 => ("AsWithTheLast$Lesson", "worth", "LAsWithTheLast$Numbers;", true)
  | 4 => ("AsWithTheLast$Lesson", "chance", "LAsWithTheLast$Numbers;", true)
  | 5 => ("AsWithTheLast$Lesson", "errands", "LAsWithTheLast$Numbers;", true)
  | 6 => ("AsWithTheLast$Lesson", "sort", "I", false)
  | _ => ("AsWithTheLast$Lesson", "first", "I", false)
def tyX1 : Nat → FieldType := fun k => match k with
  | 0 => .object "AsWithTheLast$Numbers"
  | 1 => .object "AsWithTheLast$Numbers"
  | 2 => .object "AsWithTheLast$Numbers"
  | 3 => .object "AsWithTheLast$Numbers"
  | 4 => .object "AsWithTheLast$Numbers"
  | 5 => .object "AsWithTheLast$Numbers"
  | 6 => .int
  | _ => .int
abbrev wsX10 : List Cond := u_ws RX1 TX1 8
theorem nmX1 : ∀ a, a < 8 → ∀ b, b < 8 → a ≠ b → (TX1 a).2.1 ≠ (TX1 b).2.1 := by decide +kernel
theorem tyX1_ok : ∀ k, k < 8 → parseFieldDescriptor (TX1 k).2.2.1 = some (tyX1 k) := by decide +kernel
abbrev cX1_init : ByteArray := prog_3_method_1_code
def yX1_init : MethodName := ⟨RX1, "<init>", "()V"⟩
abbrev cX1_kinds : ByteArray := prog_3_method_2_code
def yX1_kinds : MethodName := ⟨RX1, "kinds", "()I"⟩
abbrev cX1_isKind : ByteArray := prog_3_method_3_code
def yX1_isKind : MethodName := ⟨RX1, "isKind", "(I)Z"⟩
abbrev cX1_allChances : ByteArray := prog_3_method_4_code
def yX1_allChances : MethodName := ⟨RX1, "allChances", "()I"⟩
abbrev cX1_outcome : ByteArray := prog_3_method_5_code
def yX1_outcome : MethodName := ⟨RX1, "outcome", "(II)I"⟩
abbrev cX1_lost : ByteArray := prog_3_method_6_code
def yX1_lost : MethodName := ⟨RX1, "lost", "(II)I"⟩
abbrev cX1_clear : ByteArray := prog_3_method_7_code
def yX1_clear : MethodName := ⟨RX1, "clear", "()V"⟩
abbrev cX1_copyFrom : ByteArray := prog_3_method_8_code
def yX1_copyFrom : MethodName := ⟨RX1, "copyFrom", "(LAsWithTheLast$Lesson;)V"⟩
def RX2 : String := "AsWithTheLast$Memory"
def TX2 : u_T := fun k => match k with
  | 0 => ("AsWithTheLast$Memory", "words", "LAsWithTheLast$Numbers;", true)
  | 1 => ("AsWithTheLast$Memory", "handed", "LAsWithTheLast$Numbers;", true)
  | 2 => ("AsWithTheLast$Memory", "days", "I", false)
  | 3 => ("AsWithTheLast$Memory", "lost", "I", false)
  | _ => ("AsWithTheLast$Memory", "good", "I", false)
def tyX2 : Nat → FieldType := fun k => match k with
  | 0 => .object "AsWithTheLast$Numbers"
  | 1 => .object "AsWithTheLast$Numbers"
  | 2 => .int
  | 3 => .int
  | _ => .int
abbrev wsX20 : List Cond := u_ws RX2 TX2 5
theorem nmX2 : ∀ a, a < 5 → ∀ b, b < 5 → a ≠ b → (TX2 a).2.1 ≠ (TX2 b).2.1 := by decide +kernel
theorem tyX2_ok : ∀ k, k < 5 → parseFieldDescriptor (TX2 k).2.2.1 = some (tyX2 k) := by decide +kernel
abbrev cX2_init : ByteArray := prog_4_method_1_code
def yX2_init : MethodName := ⟨RX2, "<init>", "()V"⟩
abbrev cX2_clear : ByteArray := prog_4_method_2_code
def yX2_clear : MethodName := ⟨RX2, "clear", "()V"⟩
abbrev cX2_addWord : ByteArray := prog_4_method_3_code
def yX2_addWord : MethodName := ⟨RX2, "addWord", "(II)V"⟩
abbrev cX2_addDay : ByteArray := prog_4_method_4_code
def yX2_addDay : MethodName := ⟨RX2, "addDay", "(LAsWithTheLast$Lesson;II)V"⟩
abbrev cX2_copyFrom : ByteArray := prog_4_method_5_code
def yX2_copyFrom : MethodName := ⟨RX2, "copyFrom", "(LAsWithTheLast$Memory;)V"⟩
def RX3 : String := "AsWithTheLast$Numbers"
def TX3 : u_T := fun k => match k with
  | 0 => ("AsWithTheLast$Numbers", "items", "[I", true)
  | _ => ("AsWithTheLast$Numbers", "size", "I", false)
def tyX3 : Nat → FieldType := fun k => match k with
  | 0 => .array .int
  | _ => .int
abbrev wsX30 : List Cond := u_ws RX3 TX3 2
theorem nmX3 : ∀ a, a < 2 → ∀ b, b < 2 → a ≠ b → (TX3 a).2.1 ≠ (TX3 b).2.1 := by decide +kernel
theorem tyX3_ok : ∀ k, k < 2 → parseFieldDescriptor (TX3 k).2.2.1 = some (tyX3 k) := by decide +kernel
abbrev cX3_init : ByteArray := prog_5_method_1_code
def yX3_init : MethodName := ⟨RX3, "<init>", "(I)V"⟩
abbrev cX3_size : ByteArray := prog_5_method_2_code
def yX3_size : MethodName := ⟨RX3, "size", "()I"⟩
abbrev cX3_isFull : ByteArray := prog_5_method_3_code
def yX3_isFull : MethodName := ⟨RX3, "isFull", "()Z"⟩
abbrev cX3_at : ByteArray := prog_5_method_4_code
def yX3_at : MethodName := ⟨RX3, "at", "(I)I"⟩
abbrev cX3_put : ByteArray := prog_5_method_5_code
def yX3_put : MethodName := ⟨RX3, "put", "(II)V"⟩
abbrev cX3_add : ByteArray := prog_5_method_6_code
def yX3_add : MethodName := ⟨RX3, "add", "(I)V"⟩
abbrev cX3_clear : ByteArray := prog_5_method_7_code
def yX3_clear : MethodName := ⟨RX3, "clear", "()V"⟩
abbrev cX3_fill : ByteArray := prog_5_method_8_code
def yX3_fill : MethodName := ⟨RX3, "fill", "(II)V"⟩
abbrev cX3_dropFirst : ByteArray := prog_5_method_9_code
def yX3_dropFirst : MethodName := ⟨RX3, "dropFirst", "()V"⟩
abbrev cX3_copyFrom : ByteArray := prog_5_method_10_code
def yX3_copyFrom : MethodName := ⟨RX3, "copyFrom", "(LAsWithTheLast$Numbers;)V"⟩
def RX4 : String := "AsWithTheLast$Orders"
def TX4 : u_T := fun k => match k with
  | 0 => ("AsWithTheLast$Orders", "lesson", "LAsWithTheLast$Lesson;", true)
  | 1 => ("AsWithTheLast$Orders", "left", "LAsWithTheLast$Numbers;", true)
  | 2 => ("AsWithTheLast$Orders", "tried", "LAsWithTheLast$Numbers;", true)
  | 3 => ("AsWithTheLast$Orders", "best", "LAsWithTheLast$Numbers;", true)
  | _ => ("AsWithTheLast$Orders", "least", "I", false)
def tyX4 : Nat → FieldType := fun k => match k with
  | 0 => .object "AsWithTheLast$Lesson"
  | 1 => .object "AsWithTheLast$Numbers"
  | 2 => .object "AsWithTheLast$Numbers"
  | 3 => .object "AsWithTheLast$Numbers"
  | _ => .int
abbrev wsX40 : List Cond := u_ws RX4 TX4 5
theorem nmX4 : ∀ a, a < 5 → ∀ b, b < 5 → a ≠ b → (TX4 a).2.1 ≠ (TX4 b).2.1 := by decide +kernel
theorem tyX4_ok : ∀ k, k < 5 → parseFieldDescriptor (TX4 k).2.2.1 = some (tyX4 k) := by decide +kernel
abbrev cX4_init : ByteArray := prog_6_method_1_code
def yX4_init : MethodName := ⟨RX4, "<init>", "(LAsWithTheLast$Lesson;)V"⟩
abbrev cX4_seek : ByteArray := prog_6_method_2_code
def yX4_seek : MethodName := ⟨RX4, "seek", "(LAsWithTheLast$Learner;)V"⟩
abbrev cX4_addLeft : ByteArray := prog_6_method_3_code
def yX4_addLeft : MethodName := ⟨RX4, "addLeft", "(II)V"⟩
abbrev cX4_tryFrom : ByteArray := prog_6_method_4_code
def yX4_tryFrom : MethodName := ⟨RX4, "tryFrom", "(LAsWithTheLast$Learner;II)V"⟩
def RX5 : String := "AsWithTheLast$Reader"
def TX5 : u_T := fun k => match k with
  | 0 => ("AsWithTheLast$Reader", "text", "LAsWithTheLast$Numbers;", true)
  | 1 => ("AsWithTheLast$Reader", "lesson", "LAsWithTheLast$Lesson;", true)
  | _ => ("AsWithTheLast$Reader", "numbers", "LAsWithTheLast$Numbers;", true)
def tyX5 : Nat → FieldType := fun k => match k with
  | 0 => .object "AsWithTheLast$Numbers"
  | 1 => .object "AsWithTheLast$Lesson"
  | _ => .object "AsWithTheLast$Numbers"
abbrev wsX50 : List Cond := u_ws RX5 TX5 3
theorem nmX5 : ∀ a, a < 3 → ∀ b, b < 3 → a ≠ b → (TX5 a).2.1 ≠ (TX5 b).2.1 := by decide +kernel
theorem tyX5_ok : ∀ k, k < 3 → parseFieldDescriptor (TX5 k).2.2.1 = some (tyX5 k) := by decide +kernel
abbrev cX5_init : ByteArray := prog_7_method_1_code
def yX5_init : MethodName := ⟨RX5, "<init>", "(LAsWithTheLast$Numbers;LAsWithTheLast$Lesson;)V"⟩
abbrev cX5_readAll : ByteArray := prog_7_method_2_code
def yX5_readAll : MethodName := ⟨RX5, "readAll", "()I"⟩
abbrev cX5_readItem : ByteArray := prog_7_method_3_code
def yX5_readItem : MethodName := ⟨RX5, "readItem", "(I)I"⟩
abbrev cX5_numbersBehind : ByteArray := prog_7_method_4_code
def yX5_numbersBehind : MethodName := ⟨RX5, "numbersBehind", "(I)I"⟩
abbrev cX5_readNumber : ByteArray := prog_7_method_5_code
def yX5_readNumber : MethodName := ⟨RX5, "readNumber", "(I)I"⟩
abbrev cX5_isFigure : ByteArray := prog_7_method_6_code
def yX5_isFigure : MethodName := ⟨RX5, "isFigure", "(I)Z"⟩
abbrev cX5_takeItem : ByteArray := prog_7_method_7_code
def yX5_takeItem : MethodName := ⟨RX5, "takeItem", "(I)Z"⟩
abbrev cX5_takeKind : ByteArray := prog_7_method_8_code
def yX5_takeKind : MethodName := ⟨RX5, "takeKind", "()Z"⟩
abbrev cX5_takeErrand : ByteArray := prog_7_method_9_code
def yX5_takeErrand : MethodName := ⟨RX5, "takeErrand", "(I)Z"⟩
def RX6 : String := "AsWithTheLast$Shelf"
def TX6 : u_T := fun k => match k with
  | 0 => ("AsWithTheLast$Shelf", "places", "[LAsWithTheLast$Memory;", true)
  | _ => ("AsWithTheLast$Shelf", "size", "I", false)
def tyX6 : Nat → FieldType := fun k => match k with
  | 0 => .array (.object "AsWithTheLast$Memory")
  | _ => .int
abbrev wsX60 : List Cond := u_ws RX6 TX6 2
theorem nmX6 : ∀ a, a < 2 → ∀ b, b < 2 → a ≠ b → (TX6 a).2.1 ≠ (TX6 b).2.1 := by decide +kernel
theorem tyX6_ok : ∀ k, k < 2 → parseFieldDescriptor (TX6 k).2.2.1 = some (tyX6 k) := by decide +kernel
abbrev cX6_init : ByteArray := prog_8_method_1_code
def yX6_init : MethodName := ⟨RX6, "<init>", "(I)V"⟩
abbrev cX6_size : ByteArray := prog_8_method_2_code
def yX6_size : MethodName := ⟨RX6, "size", "()I"⟩
abbrev cX6_isFull : ByteArray := prog_8_method_3_code
def yX6_isFull : MethodName := ⟨RX6, "isFull", "()Z"⟩
abbrev cX6_clear : ByteArray := prog_8_method_4_code
def yX6_clear : MethodName := ⟨RX6, "clear", "()V"⟩
abbrev cX6_add : ByteArray := prog_8_method_5_code
def yX6_add : MethodName := ⟨RX6, "add", "(LAsWithTheLast$Memory;)V"⟩
abbrev cX6_takeLast : ByteArray := prog_8_method_6_code
def yX6_takeLast : MethodName := ⟨RX6, "takeLast", "(LAsWithTheLast$Memory;)V"⟩
abbrev cX6_placeAt : ByteArray := prog_8_method_7_code
def yX6_placeAt : MethodName := ⟨RX6, "placeAt", "(I)LAsWithTheLast$Memory;"⟩
abbrev cX6_dropOldest : ByteArray := prog_8_method_8_code
def yX6_dropOldest : MethodName := ⟨RX6, "dropOldest", "()V"⟩
def RX7 : String := "AsWithTheLast"
def TX7 : u_T := fun k => match k with
  | 0 => ("AsWithTheLast", "text", "LAsWithTheLast$Numbers;", true)
  | 1 => ("AsWithTheLast", "told", "LAsWithTheLast$Lesson;", true)
  | 2 => ("AsWithTheLast", "reader", "LAsWithTheLast$Reader;", true)
  | 3 => ("AsWithTheLast", "laid", "LAsWithTheLast$Lesson;", true)
  | 4 => ("AsWithTheLast", "memory", "LAsWithTheLast$Memory;", true)
  | 5 => ("AsWithTheLast", "past", "LAsWithTheLast$Shelf;", true)
  | 6 => ("AsWithTheLast", "kept", "LAsWithTheLast$Shelf;", true)
  | 7 => ("AsWithTheLast", "seenThings", "LAsWithTheLast$Numbers;", true)
  | 8 => ("AsWithTheLast", "times", "LAsWithTheLast$Numbers;", true)
  | 9 => ("AsWithTheLast", "alike", "LAsWithTheLast$Numbers;", true)
  | 10 => ("AsWithTheLast", "learner", "LAsWithTheLast$Learner;", true)
  | _ => ("AsWithTheLast", "orders", "LAsWithTheLast$Orders;", true)
def tyX7 : Nat → FieldType := fun k => match k with
  | 0 => .object "AsWithTheLast$Numbers"
  | 1 => .object "AsWithTheLast$Lesson"
  | 2 => .object "AsWithTheLast$Reader"
  | 3 => .object "AsWithTheLast$Lesson"
  | 4 => .object "AsWithTheLast$Memory"
  | 5 => .object "AsWithTheLast$Shelf"
  | 6 => .object "AsWithTheLast$Shelf"
  | 7 => .object "AsWithTheLast$Numbers"
  | 8 => .object "AsWithTheLast$Numbers"
  | 9 => .object "AsWithTheLast$Numbers"
  | 10 => .object "AsWithTheLast$Learner"
  | _ => .object "AsWithTheLast$Orders"
abbrev wsX70 : List Cond := u_ws RX7 TX7 12
theorem nmX7 : ∀ a, a < 12 → ∀ b, b < 12 → a ≠ b → (TX7 a).2.1 ≠ (TX7 b).2.1 := by decide +kernel
theorem tyX7_ok : ∀ k, k < 12 → parseFieldDescriptor (TX7 k).2.2.1 = some (tyX7 k) := by decide +kernel
abbrev cX7_init : ByteArray := prog_1_method_1_code
def yX7_init : MethodName := ⟨RX7, "<init>", "()V"⟩
abbrev cX7_write : ByteArray := prog_1_method_2_code
def yX7_write : MethodName := ⟨RX7, "write", "(I)I"⟩
abbrev cX7_wipe : ByteArray := prog_1_method_3_code
def yX7_wipe : MethodName := ⟨RX7, "wipe", "()I"⟩
abbrev cX7_fault : ByteArray := prog_1_method_4_code
def yX7_fault : MethodName := ⟨RX7, "fault", "()I"⟩
abbrev cX7_lay : ByteArray := prog_1_method_5_code
def yX7_lay : MethodName := ⟨RX7, "lay", "()I"⟩
abbrev cX7_kind : ByteArray := prog_1_method_6_code
def yX7_kind : MethodName := ⟨RX7, "kind", "(II)I"⟩
abbrev cX7_errand : ByteArray := prog_1_method_7_code
def yX7_errand : MethodName := ⟨RX7, "errand", "(I)I"⟩
abbrev cX7_word : ByteArray := prog_1_method_8_code
def yX7_word : MethodName := ⟨RX7, "word", "(I)I"⟩
abbrev cX7_unlike : ByteArray := prog_1_method_9_code
def yX7_unlike : MethodName := ⟨RX7, "unlike", "(II)I"⟩
abbrev cX7_does : ByteArray := prog_1_method_10_code
def yX7_does : MethodName := ⟨RX7, "does", "(II)I"⟩
abbrev cX7_hand : ByteArray := prog_1_method_11_code
def yX7_hand : MethodName := ⟨RX7, "hand", "(I)I"⟩
abbrev cX7_teach : ByteArray := prog_1_method_12_code
def yX7_teach : MethodName := ⟨RX7, "teach", "(II)I"⟩
abbrev cX7_undo : ByteArray := prog_1_method_13_code
def yX7_undo : MethodName := ⟨RX7, "undo", "()I"⟩
abbrev cX7_tell : ByteArray := prog_1_method_14_code
def yX7_tell : MethodName := ⟨RX7, "tell", "(I)I"⟩
abbrev cX7_noRow : ByteArray := prog_1_method_15_code
def yX7_noRow : MethodName := ⟨RX7, "noRow", "()I"⟩
abbrev cX7_run : ByteArray := prog_1_method_16_code
def yX7_run : MethodName := ⟨RX7, "run", "(III)I"⟩
abbrev cX7_round : ByteArray := prog_1_method_17_code
def yX7_round : MethodName := ⟨RX7, "round", "()I"⟩
abbrev cX7_order : ByteArray := prog_1_method_18_code
def yX7_order : MethodName := ⟨RX7, "order", "(I)I"⟩
abbrev cX7_best : ByteArray := prog_1_method_19_code
def yX7_best : MethodName := ⟨RX7, "best", "(I)I"⟩
abbrev cX7_seen : ByteArray := prog_1_method_20_code
def yX7_seen : MethodName := ⟨RX7, "seen", "(II)I"⟩
abbrev cX7_forget : ByteArray := prog_1_method_21_code
def yX7_forget : MethodName := ⟨RX7, "forget", "()I"⟩
abbrev cX7_fits : ByteArray := prog_1_method_22_code
def yX7_fits : MethodName := ⟨RX7, "fits", "()I"⟩
abbrev cX7_firsts : ByteArray := prog_1_method_23_code
def yX7_firsts : MethodName := ⟨RX7, "firsts", "(I)I"⟩
abbrev cX7_ask : ByteArray := prog_1_method_24_code
def yX7_ask : MethodName := ⟨RX7, "ask", "(I)I"⟩
abbrev cX7_rule : ByteArray := prog_1_method_25_code
def yX7_rule : MethodName := ⟨RX7, "rule", "(I)I"⟩
abbrev cX7_wrong : ByteArray := prog_1_method_26_code
def yX7_wrong : MethodName := ⟨RX7, "wrong", "(IIZ)I"⟩
abbrev cX7_byTurns : ByteArray := prog_1_method_27_code
def yX7_byTurns : MethodName := ⟨RX7, "byTurns", "(I)I"⟩
abbrev cX7_mean : ByteArray := prog_1_method_28_code
def yX7_mean : MethodName := ⟨RX7, "mean", "(II)I"⟩
abbrev cX7_year : ByteArray := prog_1_method_29_code
def yX7_year : MethodName := ⟨RX7, "year", "(III)I"⟩
abbrev cX7_keep : ByteArray := prog_1_method_30_code
def yX7_keep : MethodName := ⟨RX7, "keep", "()I"⟩
abbrev cX7_back : ByteArray := prog_1_method_31_code
def yX7_back : MethodName := ⟨RX7, "back", "()I"⟩
abbrev cX7_count : ByteArray := prog_1_method_32_code
def yX7_count : MethodName := ⟨RX7, "count", "(I)I"⟩
abbrev cX7_isWithin : ByteArray := prog_1_method_33_code
def yX7_isWithin : MethodName := ⟨RX7, "isWithin", "(III)Z"⟩
abbrev cX7_isSort : ByteArray := prog_1_method_34_code
def yX7_isSort : MethodName := ⟨RX7, "isSort", "(I)Z"⟩
abbrev cX7_isDoing : ByteArray := prog_1_method_35_code
def yX7_isDoing : MethodName := ⟨RX7, "isDoing", "(I)Z"⟩
abbrev cX7_wordOf : ByteArray := prog_1_method_36_code
def yX7_wordOf : MethodName := ⟨RX7, "wordOf", "(II)I"⟩
abbrev cX7_marksApart : ByteArray := prog_1_method_37_code
def yX7_marksApart : MethodName := ⟨RX7, "marksApart", "(II)I"⟩
abbrev cX7_learnerNow : ByteArray := prog_1_method_38_code
def yX7_learnerNow : MethodName := ⟨RX7, "learnerNow", "(I)LAsWithTheLast$Learner;"⟩
abbrev cX7_fillTimes : ByteArray := prog_1_method_39_code
def yX7_fillTimes : MethodName := ⟨RX7, "fillTimes", "(LAsWithTheLast$Learner;)V"⟩
abbrev cX7_comesRoundAfter : ByteArray := prog_1_method_40_code
def yX7_comesRoundAfter : MethodName := ⟨RX7, "comesRoundAfter", "(I)Z"⟩
abbrev cX7_canBe : ByteArray := prog_1_method_41_code
def yX7_canBe : MethodName := ⟨RX7, "canBe", "(II)Z"⟩
abbrev cX7_speaksAgainst : ByteArray := prog_1_method_42_code
def yX7_speaksAgainst : MethodName := ⟨RX7, "speaksAgainst", "(II)Z"⟩
abbrev cX7_mostAlike : ByteArray := prog_1_method_43_code
def yX7_mostAlike : MethodName := ⟨RX7, "mostAlike", "(II)I"⟩
abbrev cX7_firstWrong : ByteArray := prog_1_method_44_code
def yX7_firstWrong : MethodName := ⟨RX7, "firstWrong", "(IIZ)I"⟩
abbrev cX7_drawnKind : ByteArray := prog_1_method_45_code
def yX7_drawnKind : MethodName := ⟨RX7, "drawnKind", "(II)I"⟩
abbrev cX7_lossAtMothersTurn : ByteArray := prog_1_method_46_code
def yX7_lossAtMothersTurn : MethodName := ⟨RX7, "lossAtMothersTurn", "(LAsWithTheLast$Lesson;LAsWithTheLast$Learner;II)I"⟩
abbrev cX7_lossAtOthersTurn : ByteArray := prog_1_method_47_code
def yX7_lossAtOthersTurn : MethodName := ⟨RX7, "lossAtOthersTurn", "(LAsWithTheLast$Lesson;LAsWithTheLast$Learner;II)I"⟩
abbrev cX7_lossByChances : ByteArray := prog_1_method_48_code
def yX7_lossByChances : MethodName := ⟨RX7, "lossByChances", "(LAsWithTheLast$Lesson;LAsWithTheLast$Learner;II)I"⟩
abbrev cX7_power : ByteArray := prog_1_method_49_code
def yX7_power : MethodName := ⟨RX7, "power", "(II)I"⟩
abbrev cX7_greatestDivisor : ByteArray := prog_1_method_50_code
def yX7_greatestDivisor : MethodName := ⟨RX7, "greatestDivisor", "(II)I"⟩
def RX8 : String := "AsWithTheLastModel"
def TX8 : u_T := fun k => match k with
  | 0 => ("AsWithTheLastModel", "told", "[I", true)
  | 1 => ("AsWithTheLastModel", "kinds", "I", false)
  | 2 => ("AsWithTheLastModel", "sort", "I", false)
  | 3 => ("AsWithTheLastModel", "firstDoing", "I", false)
  | 4 => ("AsWithTheLastModel", "errands", "[I", true)
  | 5 => ("AsWithTheLastModel", "rowLong", "I", false)
  | 6 => ("AsWithTheLastModel", "st", "[I", true)
  | 7 => ("AsWithTheLastModel", "text", "[I", true)
  | 8 => ("AsWithTheLastModel", "letters", "I", false)
  | 9 => ("AsWithTheLastModel", "place", "I", false)
  | 10 => ("AsWithTheLastModel", "number", "[I", true)
  | 11 => ("AsWithTheLastModel", "readTold", "[I", true)
  | 12 => ("AsWithTheLastModel", "readKinds", "I", false)
  | 13 => ("AsWithTheLastModel", "readSort", "I", false)
  | 14 => ("AsWithTheLastModel", "readFirst", "I", false)
  | 15 => ("AsWithTheLastModel", "readErrands", "[I", true)
  | 16 => ("AsWithTheLastModel", "readLong", "I", false)
  | 17 => ("AsWithTheLastModel", "did", "I", false)
  | 18 => ("AsWithTheLastModel", "ahead", "[I", true)
  | 19 => ("AsWithTheLastModel", "undoMany", "I", false)
  | 20 => ("AsWithTheLastModel", "aside", "[I", true)
  | 21 => ("AsWithTheLastModel", "done", "[I", true)
  | 22 => ("AsWithTheLastModel", "went", "[I", true)
  | 23 => ("AsWithTheLastModel", "passes", "[I", true)
  | 24 => ("AsWithTheLastModel", "had", "[I", true)
  | 25 => ("AsWithTheLastModel", "bestRow", "[I", true)
  | 26 => ("AsWithTheLastModel", "seenAt", "[I", true)
  | 27 => ("AsWithTheLastModel", "seenDid", "[I", true)
  | 28 => ("AsWithTheLastModel", "seenMany", "I", false)
  | 29 => ("AsWithTheLastModel", "ahead1", "[I", true)
  | 30 => ("AsWithTheLastModel", "ahead2", "[I", true)
  | 31 => ("AsWithTheLastModel", "kept", "[I", true)
  | _ => ("AsWithTheLastModel", "keptMany", "I", false)
def tyX8 : Nat → FieldType := fun k => match k with
  | 0 => .array .int
  | 1 => .int
  | 2 => .int
  | 3 => .int
  | 4 => .array .int
  | 5 => .int
  | 6 => .array .int
  | 7 => .array .int
  | 8 => .int
  | 9 => .int
  | 10 => .array .int
  | 11 => .array .int
  | 12 => .int
  | 13 => .int
  | 14 => .int
  | 15 => .array .int
  | 16 => .int
  | 17 => .int
  | 18 => .array .int
  | 19 => .int
  | 20 => .array .int
  | 21 => .array .int
  | 22 => .array .int
  | 23 => .array .int
  | 24 => .array .int
  | 25 => .array .int
  | 26 => .array .int
  | 27 => .array .int
  | 28 => .int
  | 29 => .array .int
  | 30 => .array .int
  | 31 => .array .int
  | _ => .int
abbrev wsX80 : List Cond := u_ws RX8 TX8 33
theorem nmX8 : ∀ a, a < 33 → ∀ b, b < 33 → a ≠ b → (TX8 a).2.1 ≠ (TX8 b).2.1 := by decide +kernel
theorem tyX8_ok : ∀ k, k < 33 → parseFieldDescriptor (TX8 k).2.2.1 = some (tyX8 k) := by decide +kernel
abbrev cX8_init : ByteArray := prog_10_method_1_code
def yX8_init : MethodName := ⟨RX8, "<init>", "()V"⟩
abbrev cX8_tellKind : ByteArray := prog_10_method_2_code
def yX8_tellKind : MethodName := ⟨RX8, "tellKind", "(IIIII)V"⟩
abbrev cX8_in : ByteArray := prog_10_method_3_code
def yX8_in : MethodName := ⟨RX8, "in", "(JJJ)Z"⟩
abbrev cX8_has : ByteArray := prog_10_method_4_code
def yX8_has : MethodName := ⟨RX8, "has", "(II)Z"⟩
abbrev cX8_ones : ByteArray := prog_10_method_5_code
def yX8_ones : MethodName := ⟨RX8, "ones", "(I)I"⟩
abbrev cX8_isKind : ByteArray := prog_10_method_6_code
def yX8_isKind : MethodName := ⟨RX8, "isKind", "(I)Z"⟩
abbrev cX8_isDoing : ByteArray := prog_10_method_7_code
def yX8_isDoing : MethodName := ⟨RX8, "isDoing", "(I)Z"⟩
abbrev cX8_write : ByteArray := prog_10_method_8_code
def yX8_write : MethodName := ⟨RX8, "write", "(I)I"⟩
abbrev cX8_wipe : ByteArray := prog_10_method_9_code
def yX8_wipe : MethodName := ⟨RX8, "wipe", "()I"⟩
abbrev cX8_readNumbers : ByteArray := prog_10_method_10_code
def yX8_readNumbers : MethodName := ⟨RX8, "readNumbers", "(I)Z"⟩
abbrev cX8_readKind : ByteArray := prog_10_method_11_code
def yX8_readKind : MethodName := ⟨RX8, "readKind", "()Z"⟩
abbrev cX8_readItem : ByteArray := prog_10_method_12_code
def yX8_readItem : MethodName := ⟨RX8, "readItem", "()Z"⟩
abbrev cX8_fault : ByteArray := prog_10_method_13_code
def yX8_fault : MethodName := ⟨RX8, "fault", "()I"⟩
abbrev cX8_lay : ByteArray := prog_10_method_14_code
def yX8_lay : MethodName := ⟨RX8, "lay", "()I"⟩
abbrev cX8_kind : ByteArray := prog_10_method_15_code
def yX8_kind : MethodName := ⟨RX8, "kind", "(II)I"⟩
abbrev cX8_errand : ByteArray := prog_10_method_16_code
def yX8_errand : MethodName := ⟨RX8, "errand", "(I)I"⟩
abbrev cX8_word : ByteArray := prog_10_method_17_code
def yX8_word : MethodName := ⟨RX8, "word", "(I)I"⟩
abbrev cX8_unlikeOf : ByteArray := prog_10_method_18_code
def yX8_unlikeOf : MethodName := ⟨RX8, "unlikeOf", "(II)I"⟩
abbrev cX8_unlike : ByteArray := prog_10_method_19_code
def yX8_unlike : MethodName := ⟨RX8, "unlike", "(II)I"⟩
abbrev cX8_doesBy : ByteArray := prog_10_method_20_code
def yX8_doesBy : MethodName := ⟨RX8, "doesBy", "(III)I"⟩
abbrev cX8_goes : ByteArray := prog_10_method_21_code
def yX8_goes : MethodName := ⟨RX8, "goes", "(II)I"⟩
abbrev cX8_hear : ByteArray := prog_10_method_22_code
def yX8_hear : MethodName := ⟨RX8, "hear", "(II)V"⟩
abbrev cX8_day : ByteArray := prog_10_method_23_code
def yX8_day : MethodName := ⟨RX8, "day", "(III)I"⟩
abbrev cX8_does : ByteArray := prog_10_method_24_code
def yX8_does : MethodName := ⟨RX8, "does", "(II)I"⟩
abbrev cX8_note : ByteArray := prog_10_method_25_code
def yX8_note : MethodName := ⟨RX8, "note", "()V"⟩
abbrev cX8_hand : ByteArray := prog_10_method_26_code
def yX8_hand : MethodName := ⟨RX8, "hand", "(I)I"⟩
abbrev cX8_teach : ByteArray := prog_10_method_27_code
def yX8_teach : MethodName := ⟨RX8, "teach", "(II)I"⟩
abbrev cX8_undo : ByteArray := prog_10_method_28_code
def yX8_undo : MethodName := ⟨RX8, "undo", "()I"⟩
abbrev cX8_tell : ByteArray := prog_10_method_29_code
def yX8_tell : MethodName := ⟨RX8, "tell", "(I)I"⟩
abbrev cX8_noRow : ByteArray := prog_10_method_30_code
def yX8_noRow : MethodName := ⟨RX8, "noRow", "()I"⟩
abbrev cX8_putAside : ByteArray := prog_10_method_31_code
def yX8_putAside : MethodName := ⟨RX8, "putAside", "()V"⟩
abbrev cX8_takeBack : ByteArray := prog_10_method_32_code
def yX8_takeBack : MethodName := ⟨RX8, "takeBack", "()V"⟩
abbrev cX8_runRow : ByteArray := prog_10_method_33_code
def yX8_runRow : MethodName := ⟨RX8, "runRow", "(II)I"⟩
abbrev cX8_tryRow : ByteArray := prog_10_method_34_code
def yX8_tryRow : MethodName := ⟨RX8, "tryRow", "(I)I"⟩
abbrev cX8_run : ByteArray := prog_10_method_35_code
def yX8_run : MethodName := ⟨RX8, "run", "(III)I"⟩
abbrev cX8_isRound : ByteArray := prog_10_method_36_code
def yX8_isRound : MethodName := ⟨RX8, "isRound", "(I)Z"⟩
abbrev cX8_round : ByteArray := prog_10_method_37_code
def yX8_round : MethodName := ⟨RX8, "round", "()I"⟩
abbrev cX8_nextRow : ByteArray := prog_10_method_38_code
def yX8_nextRow : MethodName := ⟨RX8, "nextRow", "()Z"⟩
abbrev cX8_exchange : ByteArray := prog_10_method_39_code
def yX8_exchange : MethodName := ⟨RX8, "exchange", "(II)V"⟩
abbrev cX8_order : ByteArray := prog_10_method_40_code
def yX8_order : MethodName := ⟨RX8, "order", "(I)I"⟩
abbrev cX8_tryTaught : ByteArray := prog_10_method_41_code
def yX8_tryTaught : MethodName := ⟨RX8, "tryTaught", "(II)I"⟩
abbrev cX8_best : ByteArray := prog_10_method_42_code
def yX8_best : MethodName := ⟨RX8, "best", "(I)I"⟩
abbrev cX8_seen : ByteArray := prog_10_method_43_code
def yX8_seen : MethodName := ⟨RX8, "seen", "(II)I"⟩
abbrev cX8_forget : ByteArray := prog_10_method_44_code
def yX8_forget : MethodName := ⟨RX8, "forget", "()I"⟩
abbrev cX8_isFit : ByteArray := prog_10_method_45_code
def yX8_isFit : MethodName := ⟨RX8, "isFit", "(II)Z"⟩
abbrev cX8_fits : ByteArray := prog_10_method_46_code
def yX8_fits : MethodName := ⟨RX8, "fits", "()I"⟩
abbrev cX8_firsts : ByteArray := prog_10_method_47_code
def yX8_firsts : MethodName := ⟨RX8, "firsts", "(I)I"⟩
abbrev cX8_ask : ByteArray := prog_10_method_48_code
def yX8_ask : MethodName := ⟨RX8, "ask", "(I)I"⟩
abbrev cX8_holds : ByteArray := prog_10_method_49_code
def yX8_holds : MethodName := ⟨RX8, "holds", "(II)Z"⟩
abbrev cX8_rule : ByteArray := prog_10_method_50_code
def yX8_rule : MethodName := ⟨RX8, "rule", "(I)I"⟩
abbrev cX8_wrong : ByteArray := prog_10_method_51_code
def yX8_wrong : MethodName := ⟨RX8, "wrong", "(IIZ)I"⟩
abbrev cX8_copyTo : ByteArray := prog_10_method_52_code
def yX8_copyTo : MethodName := ⟨RX8, "copyTo", "([I[I)V"⟩
abbrev cX8_worstDay : ByteArray := prog_10_method_53_code
def yX8_worstDay : MethodName := ⟨RX8, "worstDay", "()I"⟩
abbrev cX8_oneRound : ByteArray := prog_10_method_54_code
def yX8_oneRound : MethodName := ⟨RX8, "oneRound", "()I"⟩
abbrev cX8_worstTwo : ByteArray := prog_10_method_55_code
def yX8_worstTwo : MethodName := ⟨RX8, "worstTwo", "()I"⟩
abbrev cX8_twoRounds : ByteArray := prog_10_method_56_code
def yX8_twoRounds : MethodName := ⟨RX8, "twoRounds", "()I"⟩
abbrev cX8_byTurns : ByteArray := prog_10_method_57_code
def yX8_byTurns : MethodName := ⟨RX8, "byTurns", "(I)I"⟩
abbrev cX8_common : ByteArray := prog_10_method_58_code
def yX8_common : MethodName := ⟨RX8, "common", "(JJ)J"⟩
abbrev cX8_mean : ByteArray := prog_10_method_59_code
def yX8_mean : MethodName := ⟨RX8, "mean", "(II)I"⟩
abbrev cX8_year : ByteArray := prog_10_method_60_code
def yX8_year : MethodName := ⟨RX8, "year", "(III)I"⟩
abbrev cX8_keep : ByteArray := prog_10_method_61_code
def yX8_keep : MethodName := ⟨RX8, "keep", "()I"⟩
abbrev cX8_back : ByteArray := prog_10_method_62_code
def yX8_back : MethodName := ⟨RX8, "back", "()I"⟩
abbrev cX8_count : ByteArray := prog_10_method_63_code
def yX8_count : MethodName := ⟨RX8, "count", "(I)I"⟩
def RJ6 : String := "java/lang/Integer"
def TJ6 : u_T := fun k => match k with
  | _ => ("", "", "", false)
def tyJ6 : Nat → FieldType := fun k => match k with
  | _ => .int
abbrev wsJ60 : List Cond := u_ws RJ6 TJ6 0
theorem nmJ6 : ∀ a, a < 0 → ∀ b, b < 0 → a ≠ b → (TJ6 a).2.1 ≠ (TJ6 b).2.1 := by decide +kernel
theorem tyJ6_ok : ∀ k, k < 0 → parseFieldDescriptor (TJ6 k).2.2.1 = some (tyJ6 k) := by decide +kernel
abbrev cJ6_bitCount_0f7a4 : ByteArray := prog_11_method_49_code
def yJ6_bitCount_0f7a4 : MethodName := ⟨RJ6, "bitCount", "(I)I"⟩
def RJ9 : String := "java/lang/Math"
def TJ9 : u_T := fun k => match k with
  | _ => ("", "", "", false)
def tyJ9 : Nat → FieldType := fun k => match k with
  | _ => .int
abbrev wsJ90 : List Cond := u_ws RJ9 TJ9 0
theorem nmJ9 : ∀ a, a < 0 → ∀ b, b < 0 → a ≠ b → (TJ9 a).2.1 ≠ (TJ9 b).2.1 := by decide +kernel
theorem tyJ9_ok : ∀ k, k < 0 → parseFieldDescriptor (TJ9 k).2.2.1 = some (tyJ9 k) := by decide +kernel
abbrev cJ9_max_7cf53 : ByteArray := prog_12_method_65_code
def yJ9_max_7cf53 : MethodName := ⟨RJ9, "max", "(II)I"⟩
abbrev cJ9_min_7cf53 : ByteArray := prog_12_method_69_code
def yJ9_min_7cf53 : MethodName := ⟨RJ9, "min", "(II)I"⟩
def RJ0 : String := "java/lang/String"
def TJ0 : u_T := fun k => match k with
  | _ => ("", "", "", false)
def tyJ0 : Nat → FieldType := fun k => match k with
  | _ => .int
abbrev wsJ00 : List Cond := u_ws RJ0 TJ0 0
theorem nmJ0 : ∀ a, a < 0 → ∀ b, b < 0 → a ≠ b → (TJ0 a).2.1 ≠ (TJ0 b).2.1 := by decide +kernel
theorem tyJ0_ok : ∀ k, k < 0 → parseFieldDescriptor (TJ0 k).2.2.1 = some (tyJ0 k) := by decide +kernel
abbrev cJ0_length_8abf5 : ByteArray := prog_13_method_54_code
def yJ0_length_8abf5 : MethodName := ⟨RJ0, "length", "()I"⟩
abbrev cJ0_charAt_5068e : ByteArray := prog_13_method_56_code
def yJ0_charAt_5068e : MethodName := ⟨RJ0, "charAt", "(I)C"⟩
abbrev cJ0_coder_7d493 : ByteArray := prog_13_method_152_code
def yJ0_coder_7d493 : MethodName := ⟨RJ0, "coder", "()B"⟩
abbrev cJ0_isLatin1_aae02 : ByteArray := prog_13_method_154_code
def yJ0_isLatin1_aae02 : MethodName := ⟨RJ0, "isLatin1", "()Z"⟩
abbrev cJ0_checkIndex_df160 : ByteArray := prog_13_method_155_code
def yJ0_checkIndex_df160 : MethodName := ⟨RJ0, "checkIndex", "(II)V"⟩
def RJ1 : String := "java/lang/StringLatin1"
def TJ1 : u_T := fun k => match k with
  | _ => ("", "", "", false)
def tyJ1 : Nat → FieldType := fun k => match k with
  | _ => .int
abbrev wsJ10 : List Cond := u_ws RJ1 TJ1 0
theorem nmJ1 : ∀ a, a < 0 → ∀ b, b < 0 → a ≠ b → (TJ1 a).2.1 ≠ (TJ1 b).2.1 := by decide +kernel
theorem tyJ1_ok : ∀ k, k < 0 → parseFieldDescriptor (TJ1 k).2.2.1 = some (tyJ1 k) := by decide +kernel
abbrev cJ1_charAt_3b067 : ByteArray := prog_14_method_2_code
def yJ1_charAt_3b067 : MethodName := ⟨RJ1, "charAt", "([BI)C"⟩
def RJ2 : String := "java/lang/StringUTF16"
def TJ2 : u_T := fun k => match k with
  | _ => ("", "", "", false)
def tyJ2 : Nat → FieldType := fun k => match k with
  | _ => .int
abbrev wsJ20 : List Cond := u_ws RJ2 TJ2 0
theorem nmJ2 : ∀ a, a < 0 → ∀ b, b < 0 → a ≠ b → (TJ2 a).2.1 ≠ (TJ2 b).2.1 := by decide +kernel
theorem tyJ2_ok : ∀ k, k < 0 → parseFieldDescriptor (TJ2 k).2.2.1 = some (tyJ2 k) := by decide +kernel
abbrev cJ2_getChar_3b067 : ByteArray := prog_15_method_5_code
def yJ2_getChar_3b067 : MethodName := ⟨RJ2, "getChar", "([BI)C"⟩
abbrev cJ2_length_9d52b : ByteArray := prog_15_method_6_code
def yJ2_length_9d52b : MethodName := ⟨RJ2, "length", "([B)I"⟩
abbrev cJ2_charAt_3b067 : ByteArray := prog_15_method_83_code
def yJ2_charAt_3b067 : MethodName := ⟨RJ2, "charAt", "([BI)C"⟩
abbrev cJ2_checkIndex_2214a : ByteArray := prog_15_method_91_code
def yJ2_checkIndex_2214a : MethodName := ⟨RJ2, "checkIndex", "(I[B)V"⟩
def RJ10 : String := "java/lang/System"
def TJ10 : u_T := fun k => match k with
  | _ => ("", "", "", false)
def tyJ10 : Nat → FieldType := fun k => match k with
  | _ => .int
abbrev wsJ100 : List Cond := u_ws RJ10 TJ10 0
theorem nmJ10 : ∀ a, a < 0 → ∀ b, b < 0 → a ≠ b → (TJ10 a).2.1 ≠ (TJ10 b).2.1 := by decide +kernel
theorem tyJ10_ok : ∀ k, k < 0 → parseFieldDescriptor (TJ10 k).2.2.1 = some (tyJ10 k) := by decide +kernel
def RJ3 : String := "jdk/internal/util/Preconditions"
def TJ3 : u_T := fun k => match k with
  | _ => ("", "", "", false)
def tyJ3 : Nat → FieldType := fun k => match k with
  | _ => .int
abbrev wsJ30 : List Cond := u_ws RJ3 TJ3 0
theorem nmJ3 : ∀ a, a < 0 → ∀ b, b < 0 → a ≠ b → (TJ3 a).2.1 ≠ (TJ3 b).2.1 := by decide +kernel
theorem tyJ3_ok : ∀ k, k < 0 → parseFieldDescriptor (TJ3 k).2.2.1 = some (tyJ3 k) := by decide +kernel
abbrev cJ3_checkIndex_8e157 : ByteArray := prog_17_method_11_code
def yJ3_checkIndex_8e157 : MethodName := ⟨RJ3, "checkIndex", "(IILjava/util/function/BiFunction;)I"⟩
def RL : String := "AsWithTheLastLaw"
abbrev cL_law : ByteArray := code
def yL_law : MethodName := ⟨RL, "law", "([I)Z"⟩
abbrev vwCl : List vw_C := [(RX0, TX0, 9), (RX1, TX1, 8), (RX2, TX2, 5), (RX3, TX3, 2), (RX4, TX4, 5), (RX5, TX5, 3), (RX6, TX6, 2), (RX7, TX7, 12), (RX8, TX8, 33)]
end
section
theorem dX0_init_0 : decode cX0_init 0 = .ok (.aload_n 0, 1) := by decide +kernel
theorem dX0_init_1 : decode cX0_init 1 = .ok (.invokespecial 3, 3) := by decide +kernel
theorem dX0_init_4 : decode cX0_init 4 = .ok (.aload_n 0, 1) := by decide +kernel
theorem dX0_init_5 : decode cX0_init 5 = .ok (.new 9, 3) := by decide +kernel
theorem dX0_init_8 : decode cX0_init 8 = .ok (.dup, 1) := by decide +kernel
theorem dX0_init_9 : decode cX0_init 9 = .ok (.bipush 6, 2) := by decide +kernel
theorem dX0_init_11 : decode cX0_init 11 = .ok (.invokespecial 11, 3) := by decide +kernel
theorem dX0_init_14 : decode cX0_init 14 = .ok (.putfield 14, 3) := by decide +kernel
theorem dX0_init_17 : decode cX0_init 17 = .ok (.aload_n 0, 1) := by decide +kernel
theorem dX0_init_18 : decode cX0_init 18 = .ok (.new 9, 3) := by decide +kernel
theorem dX0_init_21 : decode cX0_init 21 = .ok (.dup, 1) := by decide +kernel
theorem dX0_init_22 : decode cX0_init 22 = .ok (.bipush 6, 2) := by decide +kernel
theorem dX0_init_24 : decode cX0_init 24 = .ok (.invokespecial 11, 3) := by decide +kernel
theorem dX0_init_27 : decode cX0_init 27 = .ok (.putfield 20, 3) := by decide +kernel
theorem dX0_init_30 : decode cX0_init 30 = .ok (.aload_n 0, 1) := by decide +kernel
theorem dX0_init_31 : decode cX0_init 31 = .ok (.aload_n 1, 1) := by decide +kernel
theorem dX0_init_32 : decode cX0_init 32 = .ok (.putfield 23, 3) := by decide +kernel
theorem dX0_init_35 : decode cX0_init 35 = .ok (.aload_n 0, 1) := by decide +kernel
theorem dX0_init_36 : decode cX0_init 36 = .ok (.aload_n 2, 1) := by decide +kernel
theorem dX0_init_37 : decode cX0_init 37 = .ok (.putfield 27, 3) := by decide +kernel
theorem dX0_init_40 : decode cX0_init 40 = .ok (.return_, 1) := by decide +kernel
theorem dX0_begin_0 : decode cX0_begin 0 = .ok (.aload_n 0, 1) := by decide +kernel
theorem dX0_begin_1 : decode cX0_begin 1 = .ok (.iload_n 1, 1) := by decide +kernel
theorem dX0_begin_2 : decode cX0_begin 2 = .ok (.putfield 31, 3) := by decide +kernel
theorem dX0_begin_5 : decode cX0_begin 5 = .ok (.aload_n 0, 1) := by decide +kernel
theorem dX0_begin_6 : decode cX0_begin 6 = .ok (.iload_n 2, 1) := by decide +kernel
theorem dX0_begin_7 : decode cX0_begin 7 = .ok (.putfield 35, 3) := by decide +kernel
theorem dX0_begin_10 : decode cX0_begin 10 = .ok (.aload_n 0, 1) := by decide +kernel
theorem dX0_begin_11 : decode cX0_begin 11 = .ok (.iconst 0, 1) := by decide +kernel
theorem dX0_begin_12 : decode cX0_begin 12 = .ok (.putfield 38, 3) := by decide +kernel
theorem dX0_begin_15 : decode cX0_begin 15 = .ok (.aload_n 0, 1) := by decide +kernel
theorem dX0_begin_16 : decode cX0_begin 16 = .ok (.iload_n 2, 1) := by decide +kernel
theorem dX0_begin_17 : decode cX0_begin 17 = .ok (.putfield 41, 3) := by decide +kernel
theorem dX0_begin_20 : decode cX0_begin 20 = .ok (.aload_n 0, 1) := by decide +kernel
theorem dX0_begin_21 : decode cX0_begin 21 = .ok (.iload_n 2, 1) := by decide +kernel
theorem dX0_begin_22 : decode cX0_begin 22 = .ok (.putfield 44, 3) := by decide +kernel
theorem dX0_begin_25 : decode cX0_begin 25 = .ok (.aload_n 0, 1) := by decide +kernel
theorem dX0_begin_26 : decode cX0_begin 26 = .ok (.getfield 14, 3) := by decide +kernel
theorem dX0_begin_29 : decode cX0_begin 29 = .ok (.bipush 6, 2) := by decide +kernel
theorem dX0_begin_31 : decode cX0_begin 31 = .ok (.iconst 0, 1) := by decide +kernel
theorem dX0_begin_32 : decode cX0_begin 32 = .ok (.invokevirtual 47, 3) := by decide +kernel
theorem dX0_begin_35 : decode cX0_begin 35 = .ok (.aload_n 0, 1) := by decide +kernel
theorem dX0_begin_36 : decode cX0_begin 36 = .ok (.getfield 20, 3) := by decide +kernel
theorem dX0_begin_39 : decode cX0_begin 39 = .ok (.bipush 6, 2) := by decide +kernel
theorem dX0_begin_41 : decode cX0_begin 41 = .ok (.iload_n 2, 1) := by decide +kernel
theorem dX0_begin_42 : decode cX0_begin 42 = .ok (.invokevirtual 47, 3) := by decide +kernel
theorem dX0_begin_45 : decode cX0_begin 45 = .ok (.return_, 1) := by decide +kernel
theorem dX0_hear_0 : decode cX0_hear 0 = .ok (.aload_n 0, 1) := by decide +kernel
theorem dX0_hear_1 : decode cX0_hear 1 = .ok (.dup, 1) := by decide +kernel
theorem dX0_hear_2 : decode cX0_hear 2 = .ok (.getfield 38, 3) := by decide +kernel
theorem dX0_hear_5 : decode cX0_hear 5 = .ok (.iconst 1, 1) := by decide +kernel
theorem dX0_hear_6 : decode cX0_hear 6 = .ok (.iadd, 1) := by decide +kernel
theorem dX0_hear_7 : decode cX0_hear 7 = .ok (.putfield 38, 3) := by decide +kernel
theorem dX0_hear_10 : decode cX0_hear 10 = .ok (.aload_n 0, 1) := by decide +kernel
theorem dX0_hear_11 : decode cX0_hear 11 = .ok (.aload_n 0, 1) := by decide +kernel
theorem dX0_hear_12 : decode cX0_hear 12 = .ok (.getfield 41, 3) := by decide +kernel
theorem dX0_hear_15 : decode cX0_hear 15 = .ok (.putfield 44, 3) := by decide +kernel
theorem dX0_hear_18 : decode cX0_hear 18 = .ok (.aload_n 0, 1) := by decide +kernel
theorem dX0_hear_19 : decode cX0_hear 19 = .ok (.iload_n 2, 1) := by decide +kernel
theorem dX0_hear_20 : decode cX0_hear 20 = .ok (.putfield 41, 3) := by decide +kernel
theorem dX0_hear_23 : decode cX0_hear 23 = .ok (.aload_n 0, 1) := by decide +kernel
theorem dX0_hear_24 : decode cX0_hear 24 = .ok (.getfield 14, 3) := by decide +kernel
theorem dX0_hear_27 : decode cX0_hear 27 = .ok (.iload_n 1, 1) := by decide +kernel
theorem dX0_hear_28 : decode cX0_hear 28 = .ok (.aload_n 0, 1) := by decide +kernel
theorem dX0_hear_29 : decode cX0_hear 29 = .ok (.getfield 38, 3) := by decide +kernel
theorem dX0_hear_32 : decode cX0_hear 32 = .ok (.invokevirtual 51, 3) := by decide +kernel
theorem dX0_hear_35 : decode cX0_hear 35 = .ok (.aload_n 0, 1) := by decide +kernel
theorem dX0_hear_36 : decode cX0_hear 36 = .ok (.getfield 20, 3) := by decide +kernel
theorem dX0_hear_39 : decode cX0_hear 39 = .ok (.iload_n 1, 1) := by decide +kernel
theorem dX0_hear_40 : decode cX0_hear 40 = .ok (.iload_n 2, 1) := by decide +kernel
theorem dX0_hear_41 : decode cX0_hear 41 = .ok (.invokevirtual 51, 3) := by decide +kernel
theorem dX0_hear_44 : decode cX0_hear 44 = .ok (.return_, 1) := by decide +kernel
theorem dX0_hearAll_0 : decode cX0_hearAll 0 = .ok (.iconst 0, 1) := by decide +kernel
theorem dX0_hearAll_1 : decode cX0_hearAll 1 = .ok (.istore_n 2, 1) := by decide +kernel
theorem dX0_hearAll_2 : decode cX0_hearAll 2 = .ok (.iload_n 2, 1) := by decide +kernel
theorem dX0_hearAll_3 : decode cX0_hearAll 3 = .ok (.aload_n 1, 1) := by decide +kernel
theorem dX0_hearAll_4 : decode cX0_hearAll 4 = .ok (.invokevirtual 54, 3) := by decide +kernel
theorem dX0_hearAll_7 : decode cX0_hearAll 7 = .ok (.if_icmp .ge 29, 3) := by decide +kernel
theorem dX0_hearAll_10 : decode cX0_hearAll 10 = .ok (.aload_n 0, 1) := by decide +kernel
theorem dX0_hearAll_11 : decode cX0_hearAll 11 = .ok (.aload_n 1, 1) := by decide +kernel
theorem dX0_hearAll_12 : decode cX0_hearAll 12 = .ok (.iload_n 2, 1) := by decide +kernel
theorem dX0_hearAll_13 : decode cX0_hearAll 13 = .ok (.invokevirtual 58, 3) := by decide +kernel
theorem dX0_hearAll_16 : decode cX0_hearAll 16 = .ok (.bipush 6, 2) := by decide +kernel
theorem dX0_hearAll_18 : decode cX0_hearAll 18 = .ok (.idiv, 1) := by decide +kernel
theorem dX0_hearAll_19 : decode cX0_hearAll 19 = .ok (.aload_n 1, 1) := by decide +kernel
theorem dX0_hearAll_20 : decode cX0_hearAll 20 = .ok (.iload_n 2, 1) := by decide +kernel
theorem dX0_hearAll_21 : decode cX0_hearAll 21 = .ok (.invokevirtual 58, 3) := by decide +kernel
theorem dX0_hearAll_24 : decode cX0_hearAll 24 = .ok (.bipush 6, 2) := by decide +kernel
theorem dX0_hearAll_26 : decode cX0_hearAll 26 = .ok (.irem, 1) := by decide +kernel
theorem dX0_hearAll_27 : decode cX0_hearAll 27 = .ok (.invokevirtual 62, 3) := by decide +kernel
theorem dX0_hearAll_30 : decode cX0_hearAll 30 = .ok (.iinc 2 1, 3) := by decide +kernel
theorem dX0_hearAll_33 : decode cX0_hearAll 33 = .ok (.goto (-31), 3) := by decide +kernel
theorem dX0_hearAll_36 : decode cX0_hearAll 36 = .ok (.return_, 1) := by decide +kernel
theorem dX0_willDo_0 : decode cX0_willDo 0 = .ok (.aload_n 0, 1) := by decide +kernel
theorem dX0_willDo_1 : decode cX0_willDo 1 = .ok (.getfield 31, 3) := by decide +kernel
theorem dX0_willDo_4 : decode cX0_willDo 4 = .ok (.tableswitch 79 0 3 #[32, 37, 42, 48], 32) := by decide +kernel
theorem dX0_willDo_36 : decode cX0_willDo 36 = .ok (.aload_n 0, 1) := by decide +kernel
theorem dX0_willDo_37 : decode cX0_willDo 37 = .ok (.getfield 41, 3) := by decide +kernel
theorem dX0_willDo_40 : decode cX0_willDo 40 = .ok (.ireturn, 1) := by decide +kernel
theorem dX0_willDo_41 : decode cX0_willDo 41 = .ok (.aload_n 0, 1) := by decide +kernel
theorem dX0_willDo_42 : decode cX0_willDo 42 = .ok (.getfield 44, 3) := by decide +kernel
theorem dX0_willDo_45 : decode cX0_willDo 45 = .ok (.ireturn, 1) := by decide +kernel
theorem dX0_willDo_46 : decode cX0_willDo 46 = .ok (.aload_n 0, 1) := by decide +kernel
theorem dX0_willDo_47 : decode cX0_willDo 47 = .ok (.iload_n 1, 1) := by decide +kernel
theorem dX0_willDo_48 : decode cX0_willDo 48 = .ok (.invokevirtual 65, 3) := by decide +kernel
theorem dX0_willDo_51 : decode cX0_willDo 51 = .ok (.ireturn, 1) := by decide +kernel
theorem dX0_willDo_52 : decode cX0_willDo 52 = .ok (.aload_n 0, 1) := by decide +kernel
theorem dX0_willDo_53 : decode cX0_willDo 53 = .ok (.aload_n 0, 1) := by decide +kernel
theorem dX0_willDo_54 : decode cX0_willDo 54 = .ok (.getfield 14, 3) := by decide +kernel
theorem dX0_willDo_57 : decode cX0_willDo 57 = .ok (.iload_n 1, 1) := by decide +kernel
theorem dX0_willDo_58 : decode cX0_willDo 58 = .ok (.invokevirtual 58, 3) := by decide +kernel
theorem dX0_willDo_61 : decode cX0_willDo 61 = .ok (.invokevirtual 68, 3) := by decide +kernel
theorem dX0_willDo_64 : decode cX0_willDo 64 = .ok (.ifCond .eq 14, 3) := by decide +kernel
theorem dX0_willDo_67 : decode cX0_willDo 67 = .ok (.aload_n 0, 1) := by decide +kernel
theorem dX0_willDo_68 : decode cX0_willDo 68 = .ok (.getfield 20, 3) := by decide +kernel
theorem dX0_willDo_71 : decode cX0_willDo 71 = .ok (.iload_n 1, 1) := by decide +kernel
theorem dX0_willDo_72 : decode cX0_willDo 72 = .ok (.invokevirtual 58, 3) := by decide +kernel
theorem dX0_willDo_75 : decode cX0_willDo 75 = .ok (.goto 7, 3) := by decide +kernel
theorem dX0_willDo_78 : decode cX0_willDo 78 = .ok (.aload_n 0, 1) := by decide +kernel
theorem dX0_willDo_79 : decode cX0_willDo 79 = .ok (.getfield 35, 3) := by decide +kernel
theorem dX0_willDo_82 : decode cX0_willDo 82 = .ok (.ireturn, 1) := by decide +kernel
theorem dX0_willDo_83 : decode cX0_willDo 83 = .ok (.aload_n 0, 1) := by decide +kernel
theorem dX0_willDo_84 : decode cX0_willDo 84 = .ok (.getfield 35, 3) := by decide +kernel
theorem dX0_willDo_87 : decode cX0_willDo 87 = .ok (.ireturn, 1) := by decide +kernel
theorem dX0_keeps_0 : decode cX0_keeps 0 = .ok (.iload_n 1, 1) := by decide +kernel
theorem dX0_keeps_1 : decode cX0_keeps 1 = .ok (.ifCond .le 18, 3) := by decide +kernel
theorem dX0_keeps_4 : decode cX0_keeps 4 = .ok (.iload_n 1, 1) := by decide +kernel
theorem dX0_keeps_5 : decode cX0_keeps 5 = .ok (.aload_n 0, 1) := by decide +kernel
theorem dX0_keeps_6 : decode cX0_keeps 6 = .ok (.getfield 38, 3) := by decide +kernel
theorem dX0_keeps_9 : decode cX0_keeps 9 = .ok (.bipush 40, 2) := by decide +kernel
theorem dX0_keeps_11 : decode cX0_keeps 11 = .ok (.isub, 1) := by decide +kernel
theorem dX0_keeps_12 : decode cX0_keeps 12 = .ok (.if_icmp .le 7, 3) := by decide +kernel
theorem dX0_keeps_15 : decode cX0_keeps 15 = .ok (.iconst 1, 1) := by decide +kernel
theorem dX0_keeps_16 : decode cX0_keeps 16 = .ok (.goto 4, 3) := by decide +kernel
theorem dX0_keeps_19 : decode cX0_keeps 19 = .ok (.iconst 0, 1) := by decide +kernel
theorem dX0_keeps_20 : decode cX0_keeps 20 = .ok (.ireturn, 1) := by decide +kernel
theorem dX0_likestDoing_0 : decode cX0_likestDoing 0 = .ok (.aload_n 0, 1) := by decide +kernel
theorem dX0_likestDoing_1 : decode cX0_likestDoing 1 = .ok (.getfield 23, 3) := by decide +kernel
theorem dX0_likestDoing_4 : decode cX0_likestDoing 4 = .ok (.getfield 72, 3) := by decide +kernel
theorem dX0_likestDoing_7 : decode cX0_likestDoing 7 = .ok (.iload_n 1, 1) := by decide +kernel
theorem dX0_likestDoing_8 : decode cX0_likestDoing 8 = .ok (.invokevirtual 58, 3) := by decide +kernel
theorem dX0_likestDoing_11 : decode cX0_likestDoing 11 = .ok (.istore_n 2, 1) := by decide +kernel
theorem dX0_likestDoing_12 : decode cX0_likestDoing 12 = .ok (.aload_n 0, 1) := by decide +kernel
theorem dX0_likestDoing_13 : decode cX0_likestDoing 13 = .ok (.getfield 35, 3) := by decide +kernel
theorem dX0_likestDoing_16 : decode cX0_likestDoing 16 = .ok (.istore_n 3, 1) := by decide +kernel
theorem dX0_likestDoing_17 : decode cX0_likestDoing 17 = .ok (.ldc 77, 2) := by decide +kernel
theorem dX0_likestDoing_19 : decode cX0_likestDoing 19 = .ok (.istore 4, 2) := by decide +kernel
theorem dX0_likestDoing_21 : decode cX0_likestDoing 21 = .ok (.iconst 0, 1) := by decide +kernel
theorem dX0_likestDoing_22 : decode cX0_likestDoing 22 = .ok (.istore 5, 2) := by decide +kernel
theorem dX0_likestDoing_24 : decode cX0_likestDoing 24 = .ok (.iconst 0, 1) := by decide +kernel
theorem dX0_likestDoing_25 : decode cX0_likestDoing 25 = .ok (.istore 6, 2) := by decide +kernel
theorem dX0_likestDoing_27 : decode cX0_likestDoing 27 = .ok (.iload 6, 2) := by decide +kernel
theorem dX0_likestDoing_29 : decode cX0_likestDoing 29 = .ok (.aload_n 0, 1) := by decide +kernel
theorem dX0_likestDoing_30 : decode cX0_likestDoing 30 = .ok (.getfield 23, 3) := by decide +kernel
theorem dX0_likestDoing_33 : decode cX0_likestDoing 33 = .ok (.invokevirtual 78, 3) := by decide +kernel
theorem dX0_likestDoing_36 : decode cX0_likestDoing 36 = .ok (.if_icmp .ge 86, 3) := by decide +kernel
theorem dX0_likestDoing_39 : decode cX0_likestDoing 39 = .ok (.aload_n 0, 1) := by decide +kernel
theorem dX0_likestDoing_40 : decode cX0_likestDoing 40 = .ok (.getfield 14, 3) := by decide +kernel
theorem dX0_likestDoing_43 : decode cX0_likestDoing 43 = .ok (.iload 6, 2) := by decide +kernel
theorem dX0_likestDoing_45 : decode cX0_likestDoing 45 = .ok (.invokevirtual 58, 3) := by decide +kernel
theorem dX0_likestDoing_48 : decode cX0_likestDoing 48 = .ok (.istore 7, 2) := by decide +kernel
theorem dX0_likestDoing_50 : decode cX0_likestDoing 50 = .ok (.aload_n 0, 1) := by decide +kernel
theorem dX0_likestDoing_51 : decode cX0_likestDoing 51 = .ok (.iload 7, 2) := by decide +kernel
theorem dX0_likestDoing_53 : decode cX0_likestDoing 53 = .ok (.invokevirtual 68, 3) := by decide +kernel
theorem dX0_likestDoing_56 : decode cX0_likestDoing 56 = .ok (.ifCond .eq 60, 3) := by decide +kernel
theorem dX0_likestDoing_59 : decode cX0_likestDoing 59 = .ok (.iload_n 2, 1) := by decide +kernel
theorem dX0_likestDoing_60 : decode cX0_likestDoing 60 = .ok (.aload_n 0, 1) := by decide +kernel
theorem dX0_likestDoing_61 : decode cX0_likestDoing 61 = .ok (.getfield 23, 3) := by decide +kernel
theorem dX0_likestDoing_64 : decode cX0_likestDoing 64 = .ok (.getfield 72, 3) := by decide +kernel
theorem dX0_likestDoing_67 : decode cX0_likestDoing 67 = .ok (.iload 6, 2) := by decide +kernel
theorem dX0_likestDoing_69 : decode cX0_likestDoing 69 = .ok (.invokevirtual 58, 3) := by decide +kernel
theorem dX0_likestDoing_72 : decode cX0_likestDoing 72 = .ok (.invokestatic 81, 3) := by decide +kernel
theorem dX0_likestDoing_75 : decode cX0_likestDoing 75 = .ok (.istore 8, 2) := by decide +kernel
theorem dX0_likestDoing_77 : decode cX0_likestDoing 77 = .ok (.iload 8, 2) := by decide +kernel
theorem dX0_likestDoing_79 : decode cX0_likestDoing 79 = .ok (.iload 4, 2) := by decide +kernel
theorem dX0_likestDoing_81 : decode cX0_likestDoing 81 = .ok (.if_icmp .lt 17, 3) := by decide +kernel
theorem dX0_likestDoing_84 : decode cX0_likestDoing 84 = .ok (.iload 8, 2) := by decide +kernel
theorem dX0_likestDoing_86 : decode cX0_likestDoing 86 = .ok (.iload 4, 2) := by decide +kernel
theorem dX0_likestDoing_88 : decode cX0_likestDoing 88 = .ok (.if_icmp .ne 28, 3) := by decide +kernel
theorem dX0_likestDoing_91 : decode cX0_likestDoing 91 = .ok (.iload 7, 2) := by decide +kernel
theorem dX0_likestDoing_93 : decode cX0_likestDoing 93 = .ok (.iload 5, 2) := by decide +kernel
theorem dX0_likestDoing_95 : decode cX0_likestDoing 95 = .ok (.if_icmp .le 21, 3) := by decide +kernel
theorem dX0_likestDoing_98 : decode cX0_likestDoing 98 = .ok (.iload 8, 2) := by decide +kernel
theorem dX0_likestDoing_100 : decode cX0_likestDoing 100 = .ok (.istore 4, 2) := by decide +kernel
theorem dX0_likestDoing_102 : decode cX0_likestDoing 102 = .ok (.iload 7, 2) := by decide +kernel
theorem dX0_likestDoing_104 : decode cX0_likestDoing 104 = .ok (.istore 5, 2) := by decide +kernel
theorem dX0_likestDoing_106 : decode cX0_likestDoing 106 = .ok (.aload_n 0, 1) := by decide +kernel
theorem dX0_likestDoing_107 : decode cX0_likestDoing 107 = .ok (.getfield 20, 3) := by decide +kernel
theorem dX0_likestDoing_110 : decode cX0_likestDoing 110 = .ok (.iload 6, 2) := by decide +kernel
theorem dX0_likestDoing_112 : decode cX0_likestDoing 112 = .ok (.invokevirtual 58, 3) := by decide +kernel
theorem dX0_likestDoing_115 : decode cX0_likestDoing 115 = .ok (.istore_n 3, 1) := by decide +kernel
theorem dX0_likestDoing_116 : decode cX0_likestDoing 116 = .ok (.iinc 6 1, 3) := by decide +kernel
theorem dX0_likestDoing_119 : decode cX0_likestDoing 119 = .ok (.goto (-92), 3) := by decide +kernel
theorem dX0_likestDoing_122 : decode cX0_likestDoing 122 = .ok (.iload_n 3, 1) := by decide +kernel
theorem dX0_likestDoing_123 : decode cX0_likestDoing 123 = .ok (.ireturn, 1) := by decide +kernel
theorem dX0_day_0 : decode cX0_day 0 = .ok (.aload_n 0, 1) := by decide +kernel
theorem dX0_day_1 : decode cX0_day 1 = .ok (.iload_n 1, 1) := by decide +kernel
theorem dX0_day_2 : decode cX0_day 2 = .ok (.invokevirtual 85, 3) := by decide +kernel
theorem dX0_day_5 : decode cX0_day 5 = .ok (.istore_n 2, 1) := by decide +kernel
theorem dX0_day_6 : decode cX0_day 6 = .ok (.aload_n 0, 1) := by decide +kernel
theorem dX0_day_7 : decode cX0_day 7 = .ok (.getfield 23, 3) := by decide +kernel
theorem dX0_day_10 : decode cX0_day 10 = .ok (.iload_n 1, 1) := by decide +kernel
theorem dX0_day_11 : decode cX0_day 11 = .ok (.iload_n 2, 1) := by decide +kernel
theorem dX0_day_12 : decode cX0_day 12 = .ok (.invokevirtual 88, 3) := by decide +kernel
theorem dX0_day_15 : decode cX0_day 15 = .ok (.ifCond .eq 19, 3) := by decide +kernel
theorem dX0_day_18 : decode cX0_day 18 = .ok (.aload_n 0, 1) := by decide +kernel
theorem dX0_day_19 : decode cX0_day 19 = .ok (.iload_n 1, 1) := by decide +kernel
theorem dX0_day_20 : decode cX0_day 20 = .ok (.aload_n 0, 1) := by decide +kernel
theorem dX0_day_21 : decode cX0_day 21 = .ok (.getfield 23, 3) := by decide +kernel
theorem dX0_day_24 : decode cX0_day 24 = .ok (.getfield 91, 3) := by decide +kernel
theorem dX0_day_27 : decode cX0_day 27 = .ok (.iload_n 1, 1) := by decide +kernel
theorem dX0_day_28 : decode cX0_day 28 = .ok (.invokevirtual 58, 3) := by decide +kernel
theorem dX0_day_31 : decode cX0_day 31 = .ok (.invokevirtual 62, 3) := by decide +kernel
theorem dX0_day_34 : decode cX0_day 34 = .ok (.iload_n 2, 1) := by decide +kernel
theorem dX0_day_35 : decode cX0_day 35 = .ok (.ireturn, 1) := by decide +kernel
theorem dX0_lossOfRow_0 : decode cX0_lossOfRow 0 = .ok (.iconst 0, 1) := by decide +kernel
theorem dX0_lossOfRow_1 : decode cX0_lossOfRow 1 = .ok (.istore_n 1, 1) := by decide +kernel
theorem dX0_lossOfRow_2 : decode cX0_lossOfRow 2 = .ok (.iconst 0, 1) := by decide +kernel
theorem dX0_lossOfRow_3 : decode cX0_lossOfRow 3 = .ok (.istore_n 2, 1) := by decide +kernel
theorem dX0_lossOfRow_4 : decode cX0_lossOfRow 4 = .ok (.iload_n 2, 1) := by decide +kernel
theorem dX0_lossOfRow_5 : decode cX0_lossOfRow 5 = .ok (.aload_n 0, 1) := by decide +kernel
theorem dX0_lossOfRow_6 : decode cX0_lossOfRow 6 = .ok (.getfield 23, 3) := by decide +kernel
theorem dX0_lossOfRow_9 : decode cX0_lossOfRow 9 = .ok (.getfield 94, 3) := by decide +kernel
theorem dX0_lossOfRow_12 : decode cX0_lossOfRow 12 = .ok (.invokevirtual 54, 3) := by decide +kernel
theorem dX0_lossOfRow_15 : decode cX0_lossOfRow 15 = .ok (.if_icmp .ge 37, 3) := by decide +kernel
theorem dX0_lossOfRow_18 : decode cX0_lossOfRow 18 = .ok (.aload_n 0, 1) := by decide +kernel
theorem dX0_lossOfRow_19 : decode cX0_lossOfRow 19 = .ok (.getfield 23, 3) := by decide +kernel
theorem dX0_lossOfRow_22 : decode cX0_lossOfRow 22 = .ok (.getfield 94, 3) := by decide +kernel
theorem dX0_lossOfRow_25 : decode cX0_lossOfRow 25 = .ok (.iload_n 2, 1) := by decide +kernel
theorem dX0_lossOfRow_26 : decode cX0_lossOfRow 26 = .ok (.invokevirtual 58, 3) := by decide +kernel
theorem dX0_lossOfRow_29 : decode cX0_lossOfRow 29 = .ok (.istore_n 3, 1) := by decide +kernel
theorem dX0_lossOfRow_30 : decode cX0_lossOfRow 30 = .ok (.iload_n 1, 1) := by decide +kernel
theorem dX0_lossOfRow_31 : decode cX0_lossOfRow 31 = .ok (.aload_n 0, 1) := by decide +kernel
theorem dX0_lossOfRow_32 : decode cX0_lossOfRow 32 = .ok (.getfield 23, 3) := by decide +kernel
theorem dX0_lossOfRow_35 : decode cX0_lossOfRow 35 = .ok (.iload_n 3, 1) := by decide +kernel
theorem dX0_lossOfRow_36 : decode cX0_lossOfRow 36 = .ok (.aload_n 0, 1) := by decide +kernel
theorem dX0_lossOfRow_37 : decode cX0_lossOfRow 37 = .ok (.iload_n 3, 1) := by decide +kernel
theorem dX0_lossOfRow_38 : decode cX0_lossOfRow 38 = .ok (.invokevirtual 97, 3) := by decide +kernel
theorem dX0_lossOfRow_41 : decode cX0_lossOfRow 41 = .ok (.invokevirtual 100, 3) := by decide +kernel
theorem dX0_lossOfRow_44 : decode cX0_lossOfRow 44 = .ok (.iadd, 1) := by decide +kernel
theorem dX0_lossOfRow_45 : decode cX0_lossOfRow 45 = .ok (.istore_n 1, 1) := by decide +kernel
theorem dX0_lossOfRow_46 : decode cX0_lossOfRow 46 = .ok (.iinc 2 1, 3) := by decide +kernel
theorem dX0_lossOfRow_49 : decode cX0_lossOfRow 49 = .ok (.goto (-45), 3) := by decide +kernel
theorem dX0_lossOfRow_52 : decode cX0_lossOfRow 52 = .ok (.iload_n 1, 1) := by decide +kernel
theorem dX0_lossOfRow_53 : decode cX0_lossOfRow 53 = .ok (.ireturn, 1) := by decide +kernel
theorem dX0_firstGoodOfRow_0 : decode cX0_firstGoodOfRow 0 = .ok (.iconst 0, 1) := by decide +kernel
theorem dX0_firstGoodOfRow_1 : decode cX0_firstGoodOfRow 1 = .ok (.istore_n 1, 1) := by decide +kernel
theorem dX0_firstGoodOfRow_2 : decode cX0_firstGoodOfRow 2 = .ok (.iload_n 1, 1) := by decide +kernel
theorem dX0_firstGoodOfRow_3 : decode cX0_firstGoodOfRow 3 = .ok (.aload_n 0, 1) := by decide +kernel
theorem dX0_firstGoodOfRow_4 : decode cX0_firstGoodOfRow 4 = .ok (.getfield 23, 3) := by decide +kernel
theorem dX0_firstGoodOfRow_7 : decode cX0_firstGoodOfRow 7 = .ok (.getfield 94, 3) := by decide +kernel
theorem dX0_firstGoodOfRow_10 : decode cX0_firstGoodOfRow 10 = .ok (.invokevirtual 54, 3) := by decide +kernel
theorem dX0_firstGoodOfRow_13 : decode cX0_firstGoodOfRow 13 = .ok (.if_icmp .ge 39, 3) := by decide +kernel
theorem dX0_firstGoodOfRow_16 : decode cX0_firstGoodOfRow 16 = .ok (.aload_n 0, 1) := by decide +kernel
theorem dX0_firstGoodOfRow_17 : decode cX0_firstGoodOfRow 17 = .ok (.getfield 23, 3) := by decide +kernel
theorem dX0_firstGoodOfRow_20 : decode cX0_firstGoodOfRow 20 = .ok (.getfield 94, 3) := by decide +kernel
theorem dX0_firstGoodOfRow_23 : decode cX0_firstGoodOfRow 23 = .ok (.iload_n 1, 1) := by decide +kernel
theorem dX0_firstGoodOfRow_24 : decode cX0_firstGoodOfRow 24 = .ok (.invokevirtual 58, 3) := by decide +kernel
theorem dX0_firstGoodOfRow_27 : decode cX0_firstGoodOfRow 27 = .ok (.istore_n 2, 1) := by decide +kernel
theorem dX0_firstGoodOfRow_28 : decode cX0_firstGoodOfRow 28 = .ok (.aload_n 0, 1) := by decide +kernel
theorem dX0_firstGoodOfRow_29 : decode cX0_firstGoodOfRow 29 = .ok (.getfield 23, 3) := by decide +kernel
theorem dX0_firstGoodOfRow_32 : decode cX0_firstGoodOfRow 32 = .ok (.iload_n 2, 1) := by decide +kernel
theorem dX0_firstGoodOfRow_33 : decode cX0_firstGoodOfRow 33 = .ok (.aload_n 0, 1) := by decide +kernel
theorem dX0_firstGoodOfRow_34 : decode cX0_firstGoodOfRow 34 = .ok (.iload_n 2, 1) := by decide +kernel
theorem dX0_firstGoodOfRow_35 : decode cX0_firstGoodOfRow 35 = .ok (.invokevirtual 97, 3) := by decide +kernel
theorem dX0_firstGoodOfRow_38 : decode cX0_firstGoodOfRow 38 = .ok (.invokevirtual 88, 3) := by decide +kernel
theorem dX0_firstGoodOfRow_41 : decode cX0_firstGoodOfRow 41 = .ok (.ifCond .ne 5, 3) := by decide +kernel
theorem dX0_firstGoodOfRow_44 : decode cX0_firstGoodOfRow 44 = .ok (.iload_n 1, 1) := by decide +kernel
theorem dX0_firstGoodOfRow_45 : decode cX0_firstGoodOfRow 45 = .ok (.ireturn, 1) := by decide +kernel
theorem dX0_firstGoodOfRow_46 : decode cX0_firstGoodOfRow 46 = .ok (.iinc 1 1, 3) := by decide +kernel
theorem dX0_firstGoodOfRow_49 : decode cX0_firstGoodOfRow 49 = .ok (.goto (-47), 3) := by decide +kernel
theorem dX0_firstGoodOfRow_52 : decode cX0_firstGoodOfRow 52 = .ok (.bipush (-4), 2) := by decide +kernel
theorem dX0_firstGoodOfRow_54 : decode cX0_firstGoodOfRow 54 = .ok (.ireturn, 1) := by decide +kernel
theorem dX0_doingsOfRow_0 : decode cX0_doingsOfRow 0 = .ok (.iconst 0, 1) := by decide +kernel
theorem dX0_doingsOfRow_1 : decode cX0_doingsOfRow 1 = .ok (.istore_n 1, 1) := by decide +kernel
theorem dX0_doingsOfRow_2 : decode cX0_doingsOfRow 2 = .ok (.iconst 0, 1) := by decide +kernel
theorem dX0_doingsOfRow_3 : decode cX0_doingsOfRow 3 = .ok (.istore_n 2, 1) := by decide +kernel
theorem dX0_doingsOfRow_4 : decode cX0_doingsOfRow 4 = .ok (.iload_n 2, 1) := by decide +kernel
theorem dX0_doingsOfRow_5 : decode cX0_doingsOfRow 5 = .ok (.aload_n 0, 1) := by decide +kernel
theorem dX0_doingsOfRow_6 : decode cX0_doingsOfRow 6 = .ok (.getfield 23, 3) := by decide +kernel
theorem dX0_doingsOfRow_9 : decode cX0_doingsOfRow 9 = .ok (.getfield 94, 3) := by decide +kernel
theorem dX0_doingsOfRow_12 : decode cX0_doingsOfRow 12 = .ok (.invokevirtual 54, 3) := by decide +kernel
theorem dX0_doingsOfRow_15 : decode cX0_doingsOfRow 15 = .ok (.if_icmp .ge 30, 3) := by decide +kernel
theorem dX0_doingsOfRow_18 : decode cX0_doingsOfRow 18 = .ok (.bipush 6, 2) := by decide +kernel
theorem dX0_doingsOfRow_20 : decode cX0_doingsOfRow 20 = .ok (.iload_n 1, 1) := by decide +kernel
theorem dX0_doingsOfRow_21 : decode cX0_doingsOfRow 21 = .ok (.imul, 1) := by decide +kernel
theorem dX0_doingsOfRow_22 : decode cX0_doingsOfRow 22 = .ok (.aload_n 0, 1) := by decide +kernel
theorem dX0_doingsOfRow_23 : decode cX0_doingsOfRow 23 = .ok (.aload_n 0, 1) := by decide +kernel
theorem dX0_doingsOfRow_24 : decode cX0_doingsOfRow 24 = .ok (.getfield 23, 3) := by decide +kernel
theorem dX0_doingsOfRow_27 : decode cX0_doingsOfRow 27 = .ok (.getfield 94, 3) := by decide +kernel
theorem dX0_doingsOfRow_30 : decode cX0_doingsOfRow 30 = .ok (.iload_n 2, 1) := by decide +kernel
theorem dX0_doingsOfRow_31 : decode cX0_doingsOfRow 31 = .ok (.invokevirtual 58, 3) := by decide +kernel
theorem dX0_doingsOfRow_34 : decode cX0_doingsOfRow 34 = .ok (.invokevirtual 97, 3) := by decide +kernel
theorem dX0_doingsOfRow_37 : decode cX0_doingsOfRow 37 = .ok (.iadd, 1) := by decide +kernel
theorem dX0_doingsOfRow_38 : decode cX0_doingsOfRow 38 = .ok (.istore_n 1, 1) := by decide +kernel
theorem dX0_doingsOfRow_39 : decode cX0_doingsOfRow 39 = .ok (.iinc 2 1, 3) := by decide +kernel
theorem dX0_doingsOfRow_42 : decode cX0_doingsOfRow 42 = .ok (.goto (-38), 3) := by decide +kernel
theorem dX0_doingsOfRow_45 : decode cX0_doingsOfRow 45 = .ok (.iload_n 1, 1) := by decide +kernel
theorem dX0_doingsOfRow_46 : decode cX0_doingsOfRow 46 = .ok (.ireturn, 1) := by decide +kernel
theorem dX0_stepDown_0 : decode cX0_stepDown 0 = .ok (.aload_n 0, 1) := by decide +kernel
theorem dX0_stepDown_1 : decode cX0_stepDown 1 = .ok (.getfield 27, 3) := by decide +kernel
theorem dX0_stepDown_4 : decode cX0_stepDown 4 = .ok (.ifnull 11, 3) := by decide +kernel
theorem dX0_stepDown_7 : decode cX0_stepDown 7 = .ok (.aload_n 0, 1) := by decide +kernel
theorem dX0_stepDown_8 : decode cX0_stepDown 8 = .ok (.getfield 27, 3) := by decide +kernel
theorem dX0_stepDown_11 : decode cX0_stepDown 11 = .ok (.aload_n 0, 1) := by decide +kernel
theorem dX0_stepDown_12 : decode cX0_stepDown 12 = .ok (.invokevirtual 103, 3) := by decide +kernel
theorem dX0_stepDown_15 : decode cX0_stepDown 15 = .ok (.aload_n 0, 1) := by decide +kernel
theorem dX0_stepDown_16 : decode cX0_stepDown 16 = .ok (.getfield 27, 3) := by decide +kernel
theorem dX0_stepDown_19 : decode cX0_stepDown 19 = .ok (.areturn, 1) := by decide +kernel
theorem dX0_copyFrom_0 : decode cX0_copyFrom 0 = .ok (.aload_n 0, 1) := by decide +kernel
theorem dX0_copyFrom_1 : decode cX0_copyFrom 1 = .ok (.aload_n 1, 1) := by decide +kernel
theorem dX0_copyFrom_2 : decode cX0_copyFrom 2 = .ok (.getfield 31, 3) := by decide +kernel
theorem dX0_copyFrom_5 : decode cX0_copyFrom 5 = .ok (.putfield 31, 3) := by decide +kernel
theorem dX0_copyFrom_8 : decode cX0_copyFrom 8 = .ok (.aload_n 0, 1) := by decide +kernel
theorem dX0_copyFrom_9 : decode cX0_copyFrom 9 = .ok (.aload_n 1, 1) := by decide +kernel
theorem dX0_copyFrom_10 : decode cX0_copyFrom 10 = .ok (.getfield 35, 3) := by decide +kernel
theorem dX0_copyFrom_13 : decode cX0_copyFrom 13 = .ok (.putfield 35, 3) := by decide +kernel
theorem dX0_copyFrom_16 : decode cX0_copyFrom 16 = .ok (.aload_n 0, 1) := by decide +kernel
theorem dX0_copyFrom_17 : decode cX0_copyFrom 17 = .ok (.aload_n 1, 1) := by decide +kernel
theorem dX0_copyFrom_18 : decode cX0_copyFrom 18 = .ok (.getfield 38, 3) := by decide +kernel
theorem dX0_copyFrom_21 : decode cX0_copyFrom 21 = .ok (.putfield 38, 3) := by decide +kernel
theorem dX0_copyFrom_24 : decode cX0_copyFrom 24 = .ok (.aload_n 0, 1) := by decide +kernel
theorem dX0_copyFrom_25 : decode cX0_copyFrom 25 = .ok (.aload_n 1, 1) := by decide +kernel
theorem dX0_copyFrom_26 : decode cX0_copyFrom 26 = .ok (.getfield 41, 3) := by decide +kernel
theorem dX0_copyFrom_29 : decode cX0_copyFrom 29 = .ok (.putfield 41, 3) := by decide +kernel
theorem dX0_copyFrom_32 : decode cX0_copyFrom 32 = .ok (.aload_n 0, 1) := by decide +kernel
theorem dX0_copyFrom_33 : decode cX0_copyFrom 33 = .ok (.aload_n 1, 1) := by decide +kernel
theorem dX0_copyFrom_34 : decode cX0_copyFrom 34 = .ok (.getfield 44, 3) := by decide +kernel
theorem dX0_copyFrom_37 : decode cX0_copyFrom 37 = .ok (.putfield 44, 3) := by decide +kernel
theorem dX0_copyFrom_40 : decode cX0_copyFrom 40 = .ok (.aload_n 0, 1) := by decide +kernel
theorem dX0_copyFrom_41 : decode cX0_copyFrom 41 = .ok (.getfield 14, 3) := by decide +kernel
theorem dX0_copyFrom_44 : decode cX0_copyFrom 44 = .ok (.aload_n 1, 1) := by decide +kernel
theorem dX0_copyFrom_45 : decode cX0_copyFrom 45 = .ok (.getfield 14, 3) := by decide +kernel
theorem dX0_copyFrom_48 : decode cX0_copyFrom 48 = .ok (.invokevirtual 107, 3) := by decide +kernel
theorem dX0_copyFrom_51 : decode cX0_copyFrom 51 = .ok (.aload_n 0, 1) := by decide +kernel
theorem dX0_copyFrom_52 : decode cX0_copyFrom 52 = .ok (.getfield 20, 3) := by decide +kernel
theorem dX0_copyFrom_55 : decode cX0_copyFrom 55 = .ok (.aload_n 1, 1) := by decide +kernel
theorem dX0_copyFrom_56 : decode cX0_copyFrom 56 = .ok (.getfield 20, 3) := by decide +kernel
theorem dX0_copyFrom_59 : decode cX0_copyFrom 59 = .ok (.invokevirtual 107, 3) := by decide +kernel
theorem dX0_copyFrom_62 : decode cX0_copyFrom 62 = .ok (.return_, 1) := by decide +kernel
theorem dX1_init_0 : decode cX1_init 0 = .ok (.aload_n 0, 1) := by decide +kernel
theorem dX1_init_1 : decode cX1_init 1 = .ok (.invokespecial 3, 3) := by decide +kernel
theorem dX1_init_4 : decode cX1_init 4 = .ok (.aload_n 0, 1) := by decide +kernel
theorem dX1_init_5 : decode cX1_init 5 = .ok (.new 9, 3) := by decide +kernel
theorem dX1_init_8 : decode cX1_init 8 = .ok (.dup, 1) := by decide +kernel
theorem dX1_init_9 : decode cX1_init 9 = .ok (.bipush 6, 2) := by decide +kernel
theorem dX1_init_11 : decode cX1_init 11 = .ok (.invokespecial 11, 3) := by decide +kernel
theorem dX1_init_14 : decode cX1_init 14 = .ok (.putfield 14, 3) := by decide +kernel
theorem dX1_init_17 : decode cX1_init 17 = .ok (.aload_n 0, 1) := by decide +kernel
theorem dX1_init_18 : decode cX1_init 18 = .ok (.new 9, 3) := by decide +kernel
theorem dX1_init_21 : decode cX1_init 21 = .ok (.dup, 1) := by decide +kernel
theorem dX1_init_22 : decode cX1_init 22 = .ok (.bipush 6, 2) := by decide +kernel
theorem dX1_init_24 : decode cX1_init 24 = .ok (.invokespecial 11, 3) := by decide +kernel
theorem dX1_init_27 : decode cX1_init 27 = .ok (.putfield 20, 3) := by decide +kernel
theorem dX1_init_30 : decode cX1_init 30 = .ok (.aload_n 0, 1) := by decide +kernel
theorem dX1_init_31 : decode cX1_init 31 = .ok (.new 9, 3) := by decide +kernel
theorem dX1_init_34 : decode cX1_init 34 = .ok (.dup, 1) := by decide +kernel
theorem dX1_init_35 : decode cX1_init 35 = .ok (.bipush 6, 2) := by decide +kernel
theorem dX1_init_37 : decode cX1_init 37 = .ok (.invokespecial 11, 3) := by decide +kernel
theorem dX1_init_40 : decode cX1_init 40 = .ok (.putfield 23, 3) := by decide +kernel
theorem dX1_init_43 : decode cX1_init 43 = .ok (.aload_n 0, 1) := by decide +kernel
theorem dX1_init_44 : decode cX1_init 44 = .ok (.new 9, 3) := by decide +kernel
theorem dX1_init_47 : decode cX1_init 47 = .ok (.dup, 1) := by decide +kernel
theorem dX1_init_48 : decode cX1_init 48 = .ok (.bipush 6, 2) := by decide +kernel
theorem dX1_init_50 : decode cX1_init 50 = .ok (.invokespecial 11, 3) := by decide +kernel
theorem dX1_init_53 : decode cX1_init 53 = .ok (.putfield 26, 3) := by decide +kernel
theorem dX1_init_56 : decode cX1_init 56 = .ok (.aload_n 0, 1) := by decide +kernel
theorem dX1_init_57 : decode cX1_init 57 = .ok (.new 9, 3) := by decide +kernel
theorem dX1_init_60 : decode cX1_init 60 = .ok (.dup, 1) := by decide +kernel
theorem dX1_init_61 : decode cX1_init 61 = .ok (.bipush 6, 2) := by decide +kernel
theorem dX1_init_63 : decode cX1_init 63 = .ok (.invokespecial 11, 3) := by decide +kernel
theorem dX1_init_66 : decode cX1_init 66 = .ok (.putfield 29, 3) := by decide +kernel
theorem dX1_init_69 : decode cX1_init 69 = .ok (.aload_n 0, 1) := by decide +kernel
theorem dX1_init_70 : decode cX1_init 70 = .ok (.new 9, 3) := by decide +kernel
theorem dX1_init_73 : decode cX1_init 73 = .ok (.dup, 1) := by decide +kernel
theorem dX1_init_74 : decode cX1_init 74 = .ok (.bipush 10, 2) := by decide +kernel
theorem dX1_init_76 : decode cX1_init 76 = .ok (.invokespecial 11, 3) := by decide +kernel
theorem dX1_init_79 : decode cX1_init 79 = .ok (.putfield 32, 3) := by decide +kernel
theorem dX1_init_82 : decode cX1_init 82 = .ok (.return_, 1) := by decide +kernel
theorem dX1_kinds_0 : decode cX1_kinds 0 = .ok (.aload_n 0, 1) := by decide +kernel
theorem dX1_kinds_1 : decode cX1_kinds 1 = .ok (.getfield 14, 3) := by decide +kernel
theorem dX1_kinds_4 : decode cX1_kinds 4 = .ok (.invokevirtual 35, 3) := by decide +kernel
theorem dX1_kinds_7 : decode cX1_kinds 7 = .ok (.ireturn, 1) := by decide +kernel
theorem dX1_isKind_0 : decode cX1_isKind 0 = .ok (.iload_n 1, 1) := by decide +kernel
theorem dX1_isKind_1 : decode cX1_isKind 1 = .ok (.ifCond .lt 18, 3) := by decide +kernel
theorem dX1_isKind_4 : decode cX1_isKind 4 = .ok (.iload_n 1, 1) := by decide +kernel
theorem dX1_isKind_5 : decode cX1_isKind 5 = .ok (.aload_n 0, 1) := by decide +kernel
theorem dX1_isKind_6 : decode cX1_isKind 6 = .ok (.getfield 14, 3) := by decide +kernel
theorem dX1_isKind_9 : decode cX1_isKind 9 = .ok (.invokevirtual 35, 3) := by decide +kernel
theorem dX1_isKind_12 : decode cX1_isKind 12 = .ok (.if_icmp .ge 7, 3) := by decide +kernel
theorem dX1_isKind_15 : decode cX1_isKind 15 = .ok (.iconst 1, 1) := by decide +kernel
theorem dX1_isKind_16 : decode cX1_isKind 16 = .ok (.goto 4, 3) := by decide +kernel
theorem dX1_isKind_19 : decode cX1_isKind 19 = .ok (.iconst 0, 1) := by decide +kernel
theorem dX1_isKind_20 : decode cX1_isKind 20 = .ok (.ireturn, 1) := by decide +kernel
theorem dX1_allChances_0 : decode cX1_allChances 0 = .ok (.iconst 0, 1) := by decide +kernel
theorem dX1_allChances_1 : decode cX1_allChances 1 = .ok (.istore_n 1, 1) := by decide +kernel
theorem dX1_allChances_2 : decode cX1_allChances 2 = .ok (.iconst 0, 1) := by decide +kernel
theorem dX1_allChances_3 : decode cX1_allChances 3 = .ok (.istore_n 2, 1) := by decide +kernel
theorem dX1_allChances_4 : decode cX1_allChances 4 = .ok (.iload_n 2, 1) := by decide +kernel
theorem dX1_allChances_5 : decode cX1_allChances 5 = .ok (.aload_n 0, 1) := by decide +kernel
theorem dX1_allChances_6 : decode cX1_allChances 6 = .ok (.getfield 29, 3) := by decide +kernel
theorem dX1_allChances_9 : decode cX1_allChances 9 = .ok (.invokevirtual 35, 3) := by decide +kernel
theorem dX1_allChances_12 : decode cX1_allChances 12 = .ok (.if_icmp .ge 20, 3) := by decide +kernel
theorem dX1_allChances_15 : decode cX1_allChances 15 = .ok (.iload_n 1, 1) := by decide +kernel
theorem dX1_allChances_16 : decode cX1_allChances 16 = .ok (.aload_n 0, 1) := by decide +kernel
theorem dX1_allChances_17 : decode cX1_allChances 17 = .ok (.getfield 29, 3) := by decide +kernel
theorem dX1_allChances_20 : decode cX1_allChances 20 = .ok (.iload_n 2, 1) := by decide +kernel
theorem dX1_allChances_21 : decode cX1_allChances 21 = .ok (.invokevirtual 39, 3) := by decide +kernel
theorem dX1_allChances_24 : decode cX1_allChances 24 = .ok (.iadd, 1) := by decide +kernel
theorem dX1_allChances_25 : decode cX1_allChances 25 = .ok (.istore_n 1, 1) := by decide +kernel
theorem dX1_allChances_26 : decode cX1_allChances 26 = .ok (.iinc 2 1, 3) := by decide +kernel
theorem dX1_allChances_29 : decode cX1_allChances 29 = .ok (.goto (-25), 3) := by decide +kernel
theorem dX1_allChances_32 : decode cX1_allChances 32 = .ok (.iload_n 1, 1) := by decide +kernel
theorem dX1_allChances_33 : decode cX1_allChances 33 = .ok (.ireturn, 1) := by decide +kernel
theorem dX1_outcome_0 : decode cX1_outcome 0 = .ok (.iload_n 2, 1) := by decide +kernel
theorem dX1_outcome_1 : decode cX1_outcome 1 = .ok (.aload_n 0, 1) := by decide +kernel
theorem dX1_outcome_2 : decode cX1_outcome 2 = .ok (.getfield 20, 3) := by decide +kernel
theorem dX1_outcome_5 : decode cX1_outcome 5 = .ok (.iload_n 1, 1) := by decide +kernel
theorem dX1_outcome_6 : decode cX1_outcome 6 = .ok (.invokevirtual 39, 3) := by decide +kernel
theorem dX1_outcome_9 : decode cX1_outcome 9 = .ok (.if_icmp .ne 5, 3) := by decide +kernel
theorem dX1_outcome_12 : decode cX1_outcome 12 = .ok (.iconst 0, 1) := by decide +kernel
theorem dX1_outcome_13 : decode cX1_outcome 13 = .ok (.ireturn, 1) := by decide +kernel
theorem dX1_outcome_14 : decode cX1_outcome 14 = .ok (.aload_n 0, 1) := by decide +kernel
theorem dX1_outcome_15 : decode cX1_outcome 15 = .ok (.getfield 23, 3) := by decide +kernel
theorem dX1_outcome_18 : decode cX1_outcome 18 = .ok (.iload_n 1, 1) := by decide +kernel
theorem dX1_outcome_19 : decode cX1_outcome 19 = .ok (.invokevirtual 39, 3) := by decide +kernel
theorem dX1_outcome_22 : decode cX1_outcome 22 = .ok (.iload_n 2, 1) := by decide +kernel
theorem dX1_outcome_23 : decode cX1_outcome 23 = .ok (.ishr, 1) := by decide +kernel
theorem dX1_outcome_24 : decode cX1_outcome 24 = .ok (.iconst 1, 1) := by decide +kernel
theorem dX1_outcome_25 : decode cX1_outcome 25 = .ok (.iand, 1) := by decide +kernel
theorem dX1_outcome_26 : decode cX1_outcome 26 = .ok (.iconst 1, 1) := by decide +kernel
theorem dX1_outcome_27 : decode cX1_outcome 27 = .ok (.if_icmp .ne 7, 3) := by decide +kernel
theorem dX1_outcome_30 : decode cX1_outcome 30 = .ok (.iconst 1, 1) := by decide +kernel
theorem dX1_outcome_31 : decode cX1_outcome 31 = .ok (.goto 4, 3) := by decide +kernel
theorem dX1_outcome_34 : decode cX1_outcome 34 = .ok (.iconst 2, 1) := by decide +kernel
theorem dX1_outcome_35 : decode cX1_outcome 35 = .ok (.ireturn, 1) := by decide +kernel
theorem dX1_lost_0 : decode cX1_lost 0 = .ok (.aload_n 0, 1) := by decide +kernel
theorem dX1_lost_1 : decode cX1_lost 1 = .ok (.iload_n 1, 1) := by decide +kernel
theorem dX1_lost_2 : decode cX1_lost 2 = .ok (.iload_n 2, 1) := by decide +kernel
theorem dX1_lost_3 : decode cX1_lost 3 = .ok (.invokevirtual 43, 3) := by decide +kernel
theorem dX1_lost_6 : decode cX1_lost 6 = .ok (.iconst 1, 1) := by decide +kernel
theorem dX1_lost_7 : decode cX1_lost 7 = .ok (.if_icmp .ne 14, 3) := by decide +kernel
theorem dX1_lost_10 : decode cX1_lost 10 = .ok (.aload_n 0, 1) := by decide +kernel
theorem dX1_lost_11 : decode cX1_lost 11 = .ok (.getfield 26, 3) := by decide +kernel
theorem dX1_lost_14 : decode cX1_lost 14 = .ok (.iload_n 1, 1) := by decide +kernel
theorem dX1_lost_15 : decode cX1_lost 15 = .ok (.invokevirtual 39, 3) := by decide +kernel
theorem dX1_lost_18 : decode cX1_lost 18 = .ok (.goto 4, 3) := by decide +kernel
theorem dX1_lost_21 : decode cX1_lost 21 = .ok (.iconst 0, 1) := by decide +kernel
theorem dX1_lost_22 : decode cX1_lost 22 = .ok (.ireturn, 1) := by decide +kernel
theorem dX1_clear_0 : decode cX1_clear 0 = .ok (.aload_n 0, 1) := by decide +kernel
theorem dX1_clear_1 : decode cX1_clear 1 = .ok (.getfield 14, 3) := by decide +kernel
theorem dX1_clear_4 : decode cX1_clear 4 = .ok (.invokevirtual 47, 3) := by decide +kernel
theorem dX1_clear_7 : decode cX1_clear 7 = .ok (.aload_n 0, 1) := by decide +kernel
theorem dX1_clear_8 : decode cX1_clear 8 = .ok (.getfield 20, 3) := by decide +kernel
theorem dX1_clear_11 : decode cX1_clear 11 = .ok (.invokevirtual 47, 3) := by decide +kernel
theorem dX1_clear_14 : decode cX1_clear 14 = .ok (.aload_n 0, 1) := by decide +kernel
theorem dX1_clear_15 : decode cX1_clear 15 = .ok (.getfield 23, 3) := by decide +kernel
theorem dX1_clear_18 : decode cX1_clear 18 = .ok (.invokevirtual 47, 3) := by decide +kernel
theorem dX1_clear_21 : decode cX1_clear 21 = .ok (.aload_n 0, 1) := by decide +kernel
theorem dX1_clear_22 : decode cX1_clear 22 = .ok (.getfield 26, 3) := by decide +kernel
theorem dX1_clear_25 : decode cX1_clear 25 = .ok (.invokevirtual 47, 3) := by decide +kernel
theorem dX1_clear_28 : decode cX1_clear 28 = .ok (.aload_n 0, 1) := by decide +kernel
theorem dX1_clear_29 : decode cX1_clear 29 = .ok (.getfield 29, 3) := by decide +kernel
theorem dX1_clear_32 : decode cX1_clear 32 = .ok (.invokevirtual 47, 3) := by decide +kernel
theorem dX1_clear_35 : decode cX1_clear 35 = .ok (.aload_n 0, 1) := by decide +kernel
theorem dX1_clear_36 : decode cX1_clear 36 = .ok (.getfield 32, 3) := by decide +kernel
theorem dX1_clear_39 : decode cX1_clear 39 = .ok (.invokevirtual 47, 3) := by decide +kernel
theorem dX1_clear_42 : decode cX1_clear 42 = .ok (.aload_n 0, 1) := by decide +kernel
theorem dX1_clear_43 : decode cX1_clear 43 = .ok (.iconst 0, 1) := by decide +kernel
theorem dX1_clear_44 : decode cX1_clear 44 = .ok (.putfield 50, 3) := by decide +kernel
theorem dX1_clear_47 : decode cX1_clear 47 = .ok (.aload_n 0, 1) := by decide +kernel
theorem dX1_clear_48 : decode cX1_clear 48 = .ok (.iconst 0, 1) := by decide +kernel
theorem dX1_clear_49 : decode cX1_clear 49 = .ok (.putfield 54, 3) := by decide +kernel
theorem dX1_clear_52 : decode cX1_clear 52 = .ok (.return_, 1) := by decide +kernel
theorem dX1_copyFrom_0 : decode cX1_copyFrom 0 = .ok (.aload_n 0, 1) := by decide +kernel
theorem dX1_copyFrom_1 : decode cX1_copyFrom 1 = .ok (.getfield 14, 3) := by decide +kernel
theorem dX1_copyFrom_4 : decode cX1_copyFrom 4 = .ok (.aload_n 1, 1) := by decide +kernel
theorem dX1_copyFrom_5 : decode cX1_copyFrom 5 = .ok (.getfield 14, 3) := by decide +kernel
theorem dX1_copyFrom_8 : decode cX1_copyFrom 8 = .ok (.invokevirtual 57, 3) := by decide +kernel
theorem dX1_copyFrom_11 : decode cX1_copyFrom 11 = .ok (.aload_n 0, 1) := by decide +kernel
theorem dX1_copyFrom_12 : decode cX1_copyFrom 12 = .ok (.getfield 20, 3) := by decide +kernel
theorem dX1_copyFrom_15 : decode cX1_copyFrom 15 = .ok (.aload_n 1, 1) := by decide +kernel
theorem dX1_copyFrom_16 : decode cX1_copyFrom 16 = .ok (.getfield 20, 3) := by decide +kernel
theorem dX1_copyFrom_19 : decode cX1_copyFrom 19 = .ok (.invokevirtual 57, 3) := by decide +kernel
theorem dX1_copyFrom_22 : decode cX1_copyFrom 22 = .ok (.aload_n 0, 1) := by decide +kernel
theorem dX1_copyFrom_23 : decode cX1_copyFrom 23 = .ok (.getfield 23, 3) := by decide +kernel
theorem dX1_copyFrom_26 : decode cX1_copyFrom 26 = .ok (.aload_n 1, 1) := by decide +kernel
theorem dX1_copyFrom_27 : decode cX1_copyFrom 27 = .ok (.getfield 23, 3) := by decide +kernel
theorem dX1_copyFrom_30 : decode cX1_copyFrom 30 = .ok (.invokevirtual 57, 3) := by decide +kernel
theorem dX1_copyFrom_33 : decode cX1_copyFrom 33 = .ok (.aload_n 0, 1) := by decide +kernel
theorem dX1_copyFrom_34 : decode cX1_copyFrom 34 = .ok (.getfield 26, 3) := by decide +kernel
theorem dX1_copyFrom_37 : decode cX1_copyFrom 37 = .ok (.aload_n 1, 1) := by decide +kernel
theorem dX1_copyFrom_38 : decode cX1_copyFrom 38 = .ok (.getfield 26, 3) := by decide +kernel
theorem dX1_copyFrom_41 : decode cX1_copyFrom 41 = .ok (.invokevirtual 57, 3) := by decide +kernel
theorem dX1_copyFrom_44 : decode cX1_copyFrom 44 = .ok (.aload_n 0, 1) := by decide +kernel
theorem dX1_copyFrom_45 : decode cX1_copyFrom 45 = .ok (.getfield 29, 3) := by decide +kernel
theorem dX1_copyFrom_48 : decode cX1_copyFrom 48 = .ok (.aload_n 1, 1) := by decide +kernel
theorem dX1_copyFrom_49 : decode cX1_copyFrom 49 = .ok (.getfield 29, 3) := by decide +kernel
theorem dX1_copyFrom_52 : decode cX1_copyFrom 52 = .ok (.invokevirtual 57, 3) := by decide +kernel
theorem dX1_copyFrom_55 : decode cX1_copyFrom 55 = .ok (.aload_n 0, 1) := by decide +kernel
theorem dX1_copyFrom_56 : decode cX1_copyFrom 56 = .ok (.getfield 32, 3) := by decide +kernel
theorem dX1_copyFrom_59 : decode cX1_copyFrom 59 = .ok (.aload_n 1, 1) := by decide +kernel
theorem dX1_copyFrom_60 : decode cX1_copyFrom 60 = .ok (.getfield 32, 3) := by decide +kernel
theorem dX1_copyFrom_63 : decode cX1_copyFrom 63 = .ok (.invokevirtual 57, 3) := by decide +kernel
theorem dX1_copyFrom_66 : decode cX1_copyFrom 66 = .ok (.aload_n 0, 1) := by decide +kernel
theorem dX1_copyFrom_67 : decode cX1_copyFrom 67 = .ok (.aload_n 1, 1) := by decide +kernel
theorem dX1_copyFrom_68 : decode cX1_copyFrom 68 = .ok (.getfield 50, 3) := by decide +kernel
theorem dX1_copyFrom_71 : decode cX1_copyFrom 71 = .ok (.putfield 50, 3) := by decide +kernel
theorem dX1_copyFrom_74 : decode cX1_copyFrom 74 = .ok (.aload_n 0, 1) := by decide +kernel
theorem dX1_copyFrom_75 : decode cX1_copyFrom 75 = .ok (.aload_n 1, 1) := by decide +kernel
theorem dX1_copyFrom_76 : decode cX1_copyFrom 76 = .ok (.getfield 54, 3) := by decide +kernel
theorem dX1_copyFrom_79 : decode cX1_copyFrom 79 = .ok (.putfield 54, 3) := by decide +kernel
theorem dX1_copyFrom_82 : decode cX1_copyFrom 82 = .ok (.return_, 1) := by decide +kernel
theorem dX2_init_0 : decode cX2_init 0 = .ok (.aload_n 0, 1) := by decide +kernel
theorem dX2_init_1 : decode cX2_init 1 = .ok (.invokespecial 3, 3) := by decide +kernel
theorem dX2_init_4 : decode cX2_init 4 = .ok (.aload_n 0, 1) := by decide +kernel
theorem dX2_init_5 : decode cX2_init 5 = .ok (.new 9, 3) := by decide +kernel
theorem dX2_init_8 : decode cX2_init 8 = .ok (.dup, 1) := by decide +kernel
theorem dX2_init_9 : decode cX2_init 9 = .ok (.bipush 40, 2) := by decide +kernel
theorem dX2_init_11 : decode cX2_init 11 = .ok (.invokespecial 11, 3) := by decide +kernel
theorem dX2_init_14 : decode cX2_init 14 = .ok (.putfield 14, 3) := by decide +kernel
theorem dX2_init_17 : decode cX2_init 17 = .ok (.aload_n 0, 1) := by decide +kernel
theorem dX2_init_18 : decode cX2_init 18 = .ok (.new 9, 3) := by decide +kernel
theorem dX2_init_21 : decode cX2_init 21 = .ok (.dup, 1) := by decide +kernel
theorem dX2_init_22 : decode cX2_init 22 = .ok (.bipush 6, 2) := by decide +kernel
theorem dX2_init_24 : decode cX2_init 24 = .ok (.invokespecial 11, 3) := by decide +kernel
theorem dX2_init_27 : decode cX2_init 27 = .ok (.putfield 20, 3) := by decide +kernel
theorem dX2_init_30 : decode cX2_init 30 = .ok (.aload_n 0, 1) := by decide +kernel
theorem dX2_init_31 : decode cX2_init 31 = .ok (.getfield 20, 3) := by decide +kernel
theorem dX2_init_34 : decode cX2_init 34 = .ok (.bipush 6, 2) := by decide +kernel
theorem dX2_init_36 : decode cX2_init 36 = .ok (.iconst 0, 1) := by decide +kernel
theorem dX2_init_37 : decode cX2_init 37 = .ok (.invokevirtual 23, 3) := by decide +kernel
theorem dX2_init_40 : decode cX2_init 40 = .ok (.return_, 1) := by decide +kernel
theorem dX2_clear_0 : decode cX2_clear 0 = .ok (.aload_n 0, 1) := by decide +kernel
theorem dX2_clear_1 : decode cX2_clear 1 = .ok (.getfield 14, 3) := by decide +kernel
theorem dX2_clear_4 : decode cX2_clear 4 = .ok (.invokevirtual 27, 3) := by decide +kernel
theorem dX2_clear_7 : decode cX2_clear 7 = .ok (.aload_n 0, 1) := by decide +kernel
theorem dX2_clear_8 : decode cX2_clear 8 = .ok (.getfield 20, 3) := by decide +kernel
theorem dX2_clear_11 : decode cX2_clear 11 = .ok (.bipush 6, 2) := by decide +kernel
theorem dX2_clear_13 : decode cX2_clear 13 = .ok (.iconst 0, 1) := by decide +kernel
theorem dX2_clear_14 : decode cX2_clear 14 = .ok (.invokevirtual 23, 3) := by decide +kernel
theorem dX2_clear_17 : decode cX2_clear 17 = .ok (.aload_n 0, 1) := by decide +kernel
theorem dX2_clear_18 : decode cX2_clear 18 = .ok (.iconst 0, 1) := by decide +kernel
theorem dX2_clear_19 : decode cX2_clear 19 = .ok (.putfield 30, 3) := by decide +kernel
theorem dX2_clear_22 : decode cX2_clear 22 = .ok (.aload_n 0, 1) := by decide +kernel
theorem dX2_clear_23 : decode cX2_clear 23 = .ok (.iconst 0, 1) := by decide +kernel
theorem dX2_clear_24 : decode cX2_clear 24 = .ok (.putfield 34, 3) := by decide +kernel
theorem dX2_clear_27 : decode cX2_clear 27 = .ok (.aload_n 0, 1) := by decide +kernel
theorem dX2_clear_28 : decode cX2_clear 28 = .ok (.iconst 0, 1) := by decide +kernel
theorem dX2_clear_29 : decode cX2_clear 29 = .ok (.putfield 37, 3) := by decide +kernel
theorem dX2_clear_32 : decode cX2_clear 32 = .ok (.return_, 1) := by decide +kernel
theorem dX2_addWord_0 : decode cX2_addWord 0 = .ok (.aload_n 0, 1) := by decide +kernel
theorem dX2_addWord_1 : decode cX2_addWord 1 = .ok (.getfield 14, 3) := by decide +kernel
theorem dX2_addWord_4 : decode cX2_addWord 4 = .ok (.invokevirtual 40, 3) := by decide +kernel
theorem dX2_addWord_7 : decode cX2_addWord 7 = .ok (.ifCond .eq 10, 3) := by decide +kernel
theorem dX2_addWord_10 : decode cX2_addWord 10 = .ok (.aload_n 0, 1) := by decide +kernel
theorem dX2_addWord_11 : decode cX2_addWord 11 = .ok (.getfield 14, 3) := by decide +kernel
theorem dX2_addWord_14 : decode cX2_addWord 14 = .ok (.invokevirtual 44, 3) := by decide +kernel
theorem dX2_addWord_17 : decode cX2_addWord 17 = .ok (.aload_n 0, 1) := by decide +kernel
theorem dX2_addWord_18 : decode cX2_addWord 18 = .ok (.getfield 14, 3) := by decide +kernel
theorem dX2_addWord_21 : decode cX2_addWord 21 = .ok (.iload_n 1, 1) := by decide +kernel
theorem dX2_addWord_22 : decode cX2_addWord 22 = .ok (.iload_n 2, 1) := by decide +kernel
theorem dX2_addWord_23 : decode cX2_addWord 23 = .ok (.invokestatic 47, 3) := by decide +kernel
theorem dX2_addWord_26 : decode cX2_addWord 26 = .ok (.invokevirtual 51, 3) := by decide +kernel
theorem dX2_addWord_29 : decode cX2_addWord 29 = .ok (.return_, 1) := by decide +kernel
theorem dX2_addDay_0 : decode cX2_addDay 0 = .ok (.aload_n 0, 1) := by decide +kernel
theorem dX2_addDay_1 : decode cX2_addDay 1 = .ok (.dup, 1) := by decide +kernel
theorem dX2_addDay_2 : decode cX2_addDay 2 = .ok (.getfield 30, 3) := by decide +kernel
theorem dX2_addDay_5 : decode cX2_addDay 5 = .ok (.iconst 1, 1) := by decide +kernel
theorem dX2_addDay_6 : decode cX2_addDay 6 = .ok (.iadd, 1) := by decide +kernel
theorem dX2_addDay_7 : decode cX2_addDay 7 = .ok (.putfield 30, 3) := by decide +kernel
theorem dX2_addDay_10 : decode cX2_addDay 10 = .ok (.aload_n 0, 1) := by decide +kernel
theorem dX2_addDay_11 : decode cX2_addDay 11 = .ok (.getfield 20, 3) := by decide +kernel
theorem dX2_addDay_14 : decode cX2_addDay 14 = .ok (.iload_n 2, 1) := by decide +kernel
theorem dX2_addDay_15 : decode cX2_addDay 15 = .ok (.aload_n 0, 1) := by decide +kernel
theorem dX2_addDay_16 : decode cX2_addDay 16 = .ok (.getfield 20, 3) := by decide +kernel
theorem dX2_addDay_19 : decode cX2_addDay 19 = .ok (.iload_n 2, 1) := by decide +kernel
theorem dX2_addDay_20 : decode cX2_addDay 20 = .ok (.invokevirtual 54, 3) := by decide +kernel
theorem dX2_addDay_23 : decode cX2_addDay 23 = .ok (.iconst 1, 1) := by decide +kernel
theorem dX2_addDay_24 : decode cX2_addDay 24 = .ok (.iadd, 1) := by decide +kernel
theorem dX2_addDay_25 : decode cX2_addDay 25 = .ok (.invokevirtual 58, 3) := by decide +kernel
theorem dX2_addDay_28 : decode cX2_addDay 28 = .ok (.aload_n 0, 1) := by decide +kernel
theorem dX2_addDay_29 : decode cX2_addDay 29 = .ok (.dup, 1) := by decide +kernel
theorem dX2_addDay_30 : decode cX2_addDay 30 = .ok (.getfield 34, 3) := by decide +kernel
theorem dX2_addDay_33 : decode cX2_addDay 33 = .ok (.aload_n 1, 1) := by decide +kernel
theorem dX2_addDay_34 : decode cX2_addDay 34 = .ok (.iload_n 2, 1) := by decide +kernel
theorem dX2_addDay_35 : decode cX2_addDay 35 = .ok (.iload_n 3, 1) := by decide +kernel
theorem dX2_addDay_36 : decode cX2_addDay 36 = .ok (.invokevirtual 61, 3) := by decide +kernel
theorem dX2_addDay_39 : decode cX2_addDay 39 = .ok (.iadd, 1) := by decide +kernel
theorem dX2_addDay_40 : decode cX2_addDay 40 = .ok (.putfield 34, 3) := by decide +kernel
theorem dX2_addDay_43 : decode cX2_addDay 43 = .ok (.aload_n 1, 1) := by decide +kernel
theorem dX2_addDay_44 : decode cX2_addDay 44 = .ok (.iload_n 2, 1) := by decide +kernel
theorem dX2_addDay_45 : decode cX2_addDay 45 = .ok (.iload_n 3, 1) := by decide +kernel
theorem dX2_addDay_46 : decode cX2_addDay 46 = .ok (.invokevirtual 65, 3) := by decide +kernel
theorem dX2_addDay_49 : decode cX2_addDay 49 = .ok (.ifCond .ne 16, 3) := by decide +kernel
theorem dX2_addDay_52 : decode cX2_addDay 52 = .ok (.aload_n 0, 1) := by decide +kernel
theorem dX2_addDay_53 : decode cX2_addDay 53 = .ok (.dup, 1) := by decide +kernel
theorem dX2_addDay_54 : decode cX2_addDay 54 = .ok (.getfield 37, 3) := by decide +kernel
theorem dX2_addDay_57 : decode cX2_addDay 57 = .ok (.iconst 1, 1) := by decide +kernel
theorem dX2_addDay_58 : decode cX2_addDay 58 = .ok (.iadd, 1) := by decide +kernel
theorem dX2_addDay_59 : decode cX2_addDay 59 = .ok (.putfield 37, 3) := by decide +kernel
theorem dX2_addDay_62 : decode cX2_addDay 62 = .ok (.goto 16, 3) := by decide +kernel
theorem dX2_addDay_65 : decode cX2_addDay 65 = .ok (.aload_n 0, 1) := by decide +kernel
theorem dX2_addDay_66 : decode cX2_addDay 66 = .ok (.iload_n 2, 1) := by decide +kernel
theorem dX2_addDay_67 : decode cX2_addDay 67 = .ok (.aload_n 1, 1) := by decide +kernel
theorem dX2_addDay_68 : decode cX2_addDay 68 = .ok (.getfield 68, 3) := by decide +kernel
theorem dX2_addDay_71 : decode cX2_addDay 71 = .ok (.iload_n 2, 1) := by decide +kernel
theorem dX2_addDay_72 : decode cX2_addDay 72 = .ok (.invokevirtual 54, 3) := by decide +kernel
theorem dX2_addDay_75 : decode cX2_addDay 75 = .ok (.invokevirtual 71, 3) := by decide +kernel
theorem dX2_addDay_78 : decode cX2_addDay 78 = .ok (.return_, 1) := by decide +kernel
theorem dX2_copyFrom_0 : decode cX2_copyFrom 0 = .ok (.aload_n 0, 1) := by decide +kernel
theorem dX2_copyFrom_1 : decode cX2_copyFrom 1 = .ok (.getfield 14, 3) := by decide +kernel
theorem dX2_copyFrom_4 : decode cX2_copyFrom 4 = .ok (.aload_n 1, 1) := by decide +kernel
theorem dX2_copyFrom_5 : decode cX2_copyFrom 5 = .ok (.getfield 14, 3) := by decide +kernel
theorem dX2_copyFrom_8 : decode cX2_copyFrom 8 = .ok (.invokevirtual 74, 3) := by decide +kernel
theorem dX2_copyFrom_11 : decode cX2_copyFrom 11 = .ok (.aload_n 0, 1) := by decide +kernel
theorem dX2_copyFrom_12 : decode cX2_copyFrom 12 = .ok (.getfield 20, 3) := by decide +kernel
theorem dX2_copyFrom_15 : decode cX2_copyFrom 15 = .ok (.aload_n 1, 1) := by decide +kernel
theorem dX2_copyFrom_16 : decode cX2_copyFrom 16 = .ok (.getfield 20, 3) := by decide +kernel
theorem dX2_copyFrom_19 : decode cX2_copyFrom 19 = .ok (.invokevirtual 74, 3) := by decide +kernel
theorem dX2_copyFrom_22 : decode cX2_copyFrom 22 = .ok (.aload_n 0, 1) := by decide +kernel
theorem dX2_copyFrom_23 : decode cX2_copyFrom 23 = .ok (.aload_n 1, 1) := by decide +kernel
theorem dX2_copyFrom_24 : decode cX2_copyFrom 24 = .ok (.getfield 30, 3) := by decide +kernel
theorem dX2_copyFrom_27 : decode cX2_copyFrom 27 = .ok (.putfield 30, 3) := by decide +kernel
theorem dX2_copyFrom_30 : decode cX2_copyFrom 30 = .ok (.aload_n 0, 1) := by decide +kernel
theorem dX2_copyFrom_31 : decode cX2_copyFrom 31 = .ok (.aload_n 1, 1) := by decide +kernel
theorem dX2_copyFrom_32 : decode cX2_copyFrom 32 = .ok (.getfield 34, 3) := by decide +kernel
theorem dX2_copyFrom_35 : decode cX2_copyFrom 35 = .ok (.putfield 34, 3) := by decide +kernel
theorem dX2_copyFrom_38 : decode cX2_copyFrom 38 = .ok (.aload_n 0, 1) := by decide +kernel
theorem dX2_copyFrom_39 : decode cX2_copyFrom 39 = .ok (.aload_n 1, 1) := by decide +kernel
theorem dX2_copyFrom_40 : decode cX2_copyFrom 40 = .ok (.getfield 37, 3) := by decide +kernel
theorem dX2_copyFrom_43 : decode cX2_copyFrom 43 = .ok (.putfield 37, 3) := by decide +kernel
theorem dX2_copyFrom_46 : decode cX2_copyFrom 46 = .ok (.return_, 1) := by decide +kernel
theorem dX3_init_0 : decode cX3_init 0 = .ok (.aload_n 0, 1) := by decide +kernel
theorem dX3_init_1 : decode cX3_init 1 = .ok (.invokespecial 1, 3) := by decide +kernel
theorem dX3_init_4 : decode cX3_init 4 = .ok (.aload_n 0, 1) := by decide +kernel
theorem dX3_init_5 : decode cX3_init 5 = .ok (.iconst 0, 1) := by decide +kernel
theorem dX3_init_6 : decode cX3_init 6 = .ok (.iload_n 1, 1) := by decide +kernel
theorem dX3_init_7 : decode cX3_init 7 = .ok (.invokestatic 7, 3) := by decide +kernel
theorem dX3_init_10 : decode cX3_init 10 = .ok (.newarray .int, 2) := by decide +kernel
theorem dX3_init_12 : decode cX3_init 12 = .ok (.putfield 13, 3) := by decide +kernel
theorem dX3_init_15 : decode cX3_init 15 = .ok (.return_, 1) := by decide +kernel
theorem dX3_size_0 : decode cX3_size 0 = .ok (.aload_n 0, 1) := by decide +kernel
theorem dX3_size_1 : decode cX3_size 1 = .ok (.getfield 19, 3) := by decide +kernel
theorem dX3_size_4 : decode cX3_size 4 = .ok (.ireturn, 1) := by decide +kernel
theorem dX3_isFull_0 : decode cX3_isFull 0 = .ok (.aload_n 0, 1) := by decide +kernel
theorem dX3_isFull_1 : decode cX3_isFull 1 = .ok (.getfield 19, 3) := by decide +kernel
theorem dX3_isFull_4 : decode cX3_isFull 4 = .ok (.aload_n 0, 1) := by decide +kernel
theorem dX3_isFull_5 : decode cX3_isFull 5 = .ok (.getfield 13, 3) := by decide +kernel
theorem dX3_isFull_8 : decode cX3_isFull 8 = .ok (.arraylength, 1) := by decide +kernel
theorem dX3_isFull_9 : decode cX3_isFull 9 = .ok (.if_icmp .lt 7, 3) := by decide +kernel
theorem dX3_isFull_12 : decode cX3_isFull 12 = .ok (.iconst 1, 1) := by decide +kernel
theorem dX3_isFull_13 : decode cX3_isFull 13 = .ok (.goto 4, 3) := by decide +kernel
theorem dX3_isFull_16 : decode cX3_isFull 16 = .ok (.iconst 0, 1) := by decide +kernel
theorem dX3_isFull_17 : decode cX3_isFull 17 = .ok (.ireturn, 1) := by decide +kernel
theorem dX3_at_0 : decode cX3_at 0 = .ok (.iload_n 1, 1) := by decide +kernel
theorem dX3_at_1 : decode cX3_at 1 = .ok (.ifCond .lt 29, 3) := by decide +kernel
theorem dX3_at_4 : decode cX3_at 4 = .ok (.iload_n 1, 1) := by decide +kernel
theorem dX3_at_5 : decode cX3_at 5 = .ok (.aload_n 0, 1) := by decide +kernel
theorem dX3_at_6 : decode cX3_at 6 = .ok (.getfield 19, 3) := by decide +kernel
theorem dX3_at_9 : decode cX3_at 9 = .ok (.if_icmp .ge 21, 3) := by decide +kernel
theorem dX3_at_12 : decode cX3_at 12 = .ok (.iload_n 1, 1) := by decide +kernel
theorem dX3_at_13 : decode cX3_at 13 = .ok (.aload_n 0, 1) := by decide +kernel
theorem dX3_at_14 : decode cX3_at 14 = .ok (.getfield 13, 3) := by decide +kernel
theorem dX3_at_17 : decode cX3_at 17 = .ok (.arraylength, 1) := by decide +kernel
theorem dX3_at_18 : decode cX3_at 18 = .ok (.if_icmp .ge 12, 3) := by decide +kernel
theorem dX3_at_21 : decode cX3_at 21 = .ok (.aload_n 0, 1) := by decide +kernel
theorem dX3_at_22 : decode cX3_at 22 = .ok (.getfield 13, 3) := by decide +kernel
theorem dX3_at_25 : decode cX3_at 25 = .ok (.iload_n 1, 1) := by decide +kernel
theorem dX3_at_26 : decode cX3_at 26 = .ok (.iaload, 1) := by decide +kernel
theorem dX3_at_27 : decode cX3_at 27 = .ok (.goto 4, 3) := by decide +kernel
theorem dX3_at_30 : decode cX3_at 30 = .ok (.iconst 0, 1) := by decide +kernel
theorem dX3_at_31 : decode cX3_at 31 = .ok (.ireturn, 1) := by decide +kernel
theorem dX3_put_0 : decode cX3_put 0 = .ok (.iload_n 1, 1) := by decide +kernel
theorem dX3_put_1 : decode cX3_put 1 = .ok (.ifCond .lt 27, 3) := by decide +kernel
theorem dX3_put_4 : decode cX3_put 4 = .ok (.iload_n 1, 1) := by decide +kernel
theorem dX3_put_5 : decode cX3_put 5 = .ok (.aload_n 0, 1) := by decide +kernel
theorem dX3_put_6 : decode cX3_put 6 = .ok (.getfield 19, 3) := by decide +kernel
theorem dX3_put_9 : decode cX3_put 9 = .ok (.if_icmp .ge 19, 3) := by decide +kernel
theorem dX3_put_12 : decode cX3_put 12 = .ok (.iload_n 1, 1) := by decide +kernel
theorem dX3_put_13 : decode cX3_put 13 = .ok (.aload_n 0, 1) := by decide +kernel
theorem dX3_put_14 : decode cX3_put 14 = .ok (.getfield 13, 3) := by decide +kernel
theorem dX3_put_17 : decode cX3_put 17 = .ok (.arraylength, 1) := by decide +kernel
theorem dX3_put_18 : decode cX3_put 18 = .ok (.if_icmp .ge 10, 3) := by decide +kernel
theorem dX3_put_21 : decode cX3_put 21 = .ok (.aload_n 0, 1) := by decide +kernel
theorem dX3_put_22 : decode cX3_put 22 = .ok (.getfield 13, 3) := by decide +kernel
theorem dX3_put_25 : decode cX3_put 25 = .ok (.iload_n 1, 1) := by decide +kernel
theorem dX3_put_26 : decode cX3_put 26 = .ok (.iload_n 2, 1) := by decide +kernel
theorem dX3_put_27 : decode cX3_put 27 = .ok (.iastore, 1) := by decide +kernel
theorem dX3_put_28 : decode cX3_put 28 = .ok (.return_, 1) := by decide +kernel
theorem dX3_add_0 : decode cX3_add 0 = .ok (.aload_n 0, 1) := by decide +kernel
theorem dX3_add_1 : decode cX3_add 1 = .ok (.getfield 19, 3) := by decide +kernel
theorem dX3_add_4 : decode cX3_add 4 = .ok (.ifCond .lt 35, 3) := by decide +kernel
theorem dX3_add_7 : decode cX3_add 7 = .ok (.aload_n 0, 1) := by decide +kernel
theorem dX3_add_8 : decode cX3_add 8 = .ok (.getfield 19, 3) := by decide +kernel
theorem dX3_add_11 : decode cX3_add 11 = .ok (.aload_n 0, 1) := by decide +kernel
theorem dX3_add_12 : decode cX3_add 12 = .ok (.getfield 13, 3) := by decide +kernel
theorem dX3_add_15 : decode cX3_add 15 = .ok (.arraylength, 1) := by decide +kernel
theorem dX3_add_16 : decode cX3_add 16 = .ok (.if_icmp .ge 23, 3) := by decide +kernel
theorem dX3_add_19 : decode cX3_add 19 = .ok (.aload_n 0, 1) := by decide +kernel
theorem dX3_add_20 : decode cX3_add 20 = .ok (.getfield 13, 3) := by decide +kernel
theorem dX3_add_23 : decode cX3_add 23 = .ok (.aload_n 0, 1) := by decide +kernel
theorem dX3_add_24 : decode cX3_add 24 = .ok (.getfield 19, 3) := by decide +kernel
theorem dX3_add_27 : decode cX3_add 27 = .ok (.iload_n 1, 1) := by decide +kernel
theorem dX3_add_28 : decode cX3_add 28 = .ok (.iastore, 1) := by decide +kernel
theorem dX3_add_29 : decode cX3_add 29 = .ok (.aload_n 0, 1) := by decide +kernel
theorem dX3_add_30 : decode cX3_add 30 = .ok (.dup, 1) := by decide +kernel
theorem dX3_add_31 : decode cX3_add 31 = .ok (.getfield 19, 3) := by decide +kernel
theorem dX3_add_34 : decode cX3_add 34 = .ok (.iconst 1, 1) := by decide +kernel
theorem dX3_add_35 : decode cX3_add 35 = .ok (.iadd, 1) := by decide +kernel
theorem dX3_add_36 : decode cX3_add 36 = .ok (.putfield 19, 3) := by decide +kernel
theorem dX3_add_39 : decode cX3_add 39 = .ok (.return_, 1) := by decide +kernel
theorem dX3_clear_0 : decode cX3_clear 0 = .ok (.aload_n 0, 1) := by decide +kernel
theorem dX3_clear_1 : decode cX3_clear 1 = .ok (.iconst 0, 1) := by decide +kernel
theorem dX3_clear_2 : decode cX3_clear 2 = .ok (.putfield 19, 3) := by decide +kernel
theorem dX3_clear_5 : decode cX3_clear 5 = .ok (.return_, 1) := by decide +kernel
theorem dX3_fill_0 : decode cX3_fill 0 = .ok (.aload_n 0, 1) := by decide +kernel
theorem dX3_fill_1 : decode cX3_fill 1 = .ok (.iconst 0, 1) := by decide +kernel
theorem dX3_fill_2 : decode cX3_fill 2 = .ok (.putfield 19, 3) := by decide +kernel
theorem dX3_fill_5 : decode cX3_fill 5 = .ok (.iconst 0, 1) := by decide +kernel
theorem dX3_fill_6 : decode cX3_fill 6 = .ok (.istore_n 3, 1) := by decide +kernel
theorem dX3_fill_7 : decode cX3_fill 7 = .ok (.iload_n 3, 1) := by decide +kernel
theorem dX3_fill_8 : decode cX3_fill 8 = .ok (.iload_n 1, 1) := by decide +kernel
theorem dX3_fill_9 : decode cX3_fill 9 = .ok (.if_icmp .ge 14, 3) := by decide +kernel
theorem dX3_fill_12 : decode cX3_fill 12 = .ok (.aload_n 0, 1) := by decide +kernel
theorem dX3_fill_13 : decode cX3_fill 13 = .ok (.iload_n 2, 1) := by decide +kernel
theorem dX3_fill_14 : decode cX3_fill 14 = .ok (.invokevirtual 23, 3) := by decide +kernel
theorem dX3_fill_17 : decode cX3_fill 17 = .ok (.iinc 3 1, 3) := by decide +kernel
theorem dX3_fill_20 : decode cX3_fill 20 = .ok (.goto (-13), 3) := by decide +kernel
theorem dX3_fill_23 : decode cX3_fill 23 = .ok (.return_, 1) := by decide +kernel
theorem dX3_dropFirst_0 : decode cX3_dropFirst 0 = .ok (.iconst 1, 1) := by decide +kernel
theorem dX3_dropFirst_1 : decode cX3_dropFirst 1 = .ok (.istore_n 1, 1) := by decide +kernel
theorem dX3_dropFirst_2 : decode cX3_dropFirst 2 = .ok (.iload_n 1, 1) := by decide +kernel
theorem dX3_dropFirst_3 : decode cX3_dropFirst 3 = .ok (.aload_n 0, 1) := by decide +kernel
theorem dX3_dropFirst_4 : decode cX3_dropFirst 4 = .ok (.getfield 19, 3) := by decide +kernel
theorem dX3_dropFirst_7 : decode cX3_dropFirst 7 = .ok (.if_icmp .ge 21, 3) := by decide +kernel
theorem dX3_dropFirst_10 : decode cX3_dropFirst 10 = .ok (.aload_n 0, 1) := by decide +kernel
theorem dX3_dropFirst_11 : decode cX3_dropFirst 11 = .ok (.iload_n 1, 1) := by decide +kernel
theorem dX3_dropFirst_12 : decode cX3_dropFirst 12 = .ok (.iconst 1, 1) := by decide +kernel
theorem dX3_dropFirst_13 : decode cX3_dropFirst 13 = .ok (.isub, 1) := by decide +kernel
theorem dX3_dropFirst_14 : decode cX3_dropFirst 14 = .ok (.aload_n 0, 1) := by decide +kernel
theorem dX3_dropFirst_15 : decode cX3_dropFirst 15 = .ok (.iload_n 1, 1) := by decide +kernel
theorem dX3_dropFirst_16 : decode cX3_dropFirst 16 = .ok (.invokevirtual 27, 3) := by decide +kernel
theorem dX3_dropFirst_19 : decode cX3_dropFirst 19 = .ok (.invokevirtual 31, 3) := by decide +kernel
theorem dX3_dropFirst_22 : decode cX3_dropFirst 22 = .ok (.iinc 1 1, 3) := by decide +kernel
theorem dX3_dropFirst_25 : decode cX3_dropFirst 25 = .ok (.goto (-23), 3) := by decide +kernel
theorem dX3_dropFirst_28 : decode cX3_dropFirst 28 = .ok (.aload_n 0, 1) := by decide +kernel
theorem dX3_dropFirst_29 : decode cX3_dropFirst 29 = .ok (.iconst 0, 1) := by decide +kernel
theorem dX3_dropFirst_30 : decode cX3_dropFirst 30 = .ok (.aload_n 0, 1) := by decide +kernel
theorem dX3_dropFirst_31 : decode cX3_dropFirst 31 = .ok (.getfield 19, 3) := by decide +kernel
theorem dX3_dropFirst_34 : decode cX3_dropFirst 34 = .ok (.iconst 1, 1) := by decide +kernel
theorem dX3_dropFirst_35 : decode cX3_dropFirst 35 = .ok (.isub, 1) := by decide +kernel
theorem dX3_dropFirst_36 : decode cX3_dropFirst 36 = .ok (.invokestatic 7, 3) := by decide +kernel
theorem dX3_dropFirst_39 : decode cX3_dropFirst 39 = .ok (.putfield 19, 3) := by decide +kernel
theorem dX3_dropFirst_42 : decode cX3_dropFirst 42 = .ok (.return_, 1) := by decide +kernel
theorem dX3_copyFrom_0 : decode cX3_copyFrom 0 = .ok (.aload_n 0, 1) := by decide +kernel
theorem dX3_copyFrom_1 : decode cX3_copyFrom 1 = .ok (.iconst 0, 1) := by decide +kernel
theorem dX3_copyFrom_2 : decode cX3_copyFrom 2 = .ok (.aload_n 1, 1) := by decide +kernel
theorem dX3_copyFrom_3 : decode cX3_copyFrom 3 = .ok (.getfield 19, 3) := by decide +kernel
theorem dX3_copyFrom_6 : decode cX3_copyFrom 6 = .ok (.aload_n 0, 1) := by decide +kernel
theorem dX3_copyFrom_7 : decode cX3_copyFrom 7 = .ok (.getfield 13, 3) := by decide +kernel
theorem dX3_copyFrom_10 : decode cX3_copyFrom 10 = .ok (.arraylength, 1) := by decide +kernel
theorem dX3_copyFrom_11 : decode cX3_copyFrom 11 = .ok (.aload_n 1, 1) := by decide +kernel
theorem dX3_copyFrom_12 : decode cX3_copyFrom 12 = .ok (.getfield 13, 3) := by decide +kernel
theorem dX3_copyFrom_15 : decode cX3_copyFrom 15 = .ok (.arraylength, 1) := by decide +kernel
theorem dX3_copyFrom_16 : decode cX3_copyFrom 16 = .ok (.invokestatic 35, 3) := by decide +kernel
theorem dX3_copyFrom_19 : decode cX3_copyFrom 19 = .ok (.invokestatic 35, 3) := by decide +kernel
theorem dX3_copyFrom_22 : decode cX3_copyFrom 22 = .ok (.invokestatic 7, 3) := by decide +kernel
theorem dX3_copyFrom_25 : decode cX3_copyFrom 25 = .ok (.putfield 19, 3) := by decide +kernel
theorem dX3_copyFrom_28 : decode cX3_copyFrom 28 = .ok (.aload_n 1, 1) := by decide +kernel
theorem dX3_copyFrom_29 : decode cX3_copyFrom 29 = .ok (.getfield 13, 3) := by decide +kernel
theorem dX3_copyFrom_32 : decode cX3_copyFrom 32 = .ok (.iconst 0, 1) := by decide +kernel
theorem dX3_copyFrom_33 : decode cX3_copyFrom 33 = .ok (.aload_n 0, 1) := by decide +kernel
theorem dX3_copyFrom_34 : decode cX3_copyFrom 34 = .ok (.getfield 13, 3) := by decide +kernel
theorem dX3_copyFrom_37 : decode cX3_copyFrom 37 = .ok (.iconst 0, 1) := by decide +kernel
theorem dX3_copyFrom_38 : decode cX3_copyFrom 38 = .ok (.aload_n 0, 1) := by decide +kernel
theorem dX3_copyFrom_39 : decode cX3_copyFrom 39 = .ok (.getfield 19, 3) := by decide +kernel
theorem dX3_copyFrom_42 : decode cX3_copyFrom 42 = .ok (.invokestatic 38, 3) := by decide +kernel
theorem dX3_copyFrom_45 : decode cX3_copyFrom 45 = .ok (.return_, 1) := by decide +kernel
theorem dX4_init_0 : decode cX4_init 0 = .ok (.aload_n 0, 1) := by decide +kernel
theorem dX4_init_1 : decode cX4_init 1 = .ok (.invokespecial 3, 3) := by decide +kernel
theorem dX4_init_4 : decode cX4_init 4 = .ok (.aload_n 0, 1) := by decide +kernel
theorem dX4_init_5 : decode cX4_init 5 = .ok (.new 9, 3) := by decide +kernel
theorem dX4_init_8 : decode cX4_init 8 = .ok (.dup, 1) := by decide +kernel
theorem dX4_init_9 : decode cX4_init 9 = .ok (.bipush 6, 2) := by decide +kernel
theorem dX4_init_11 : decode cX4_init 11 = .ok (.invokespecial 11, 3) := by decide +kernel
theorem dX4_init_14 : decode cX4_init 14 = .ok (.putfield 14, 3) := by decide +kernel
theorem dX4_init_17 : decode cX4_init 17 = .ok (.aload_n 0, 1) := by decide +kernel
theorem dX4_init_18 : decode cX4_init 18 = .ok (.new 9, 3) := by decide +kernel
theorem dX4_init_21 : decode cX4_init 21 = .ok (.dup, 1) := by decide +kernel
theorem dX4_init_22 : decode cX4_init 22 = .ok (.bipush 7, 2) := by decide +kernel
theorem dX4_init_24 : decode cX4_init 24 = .ok (.invokespecial 11, 3) := by decide +kernel
theorem dX4_init_27 : decode cX4_init 27 = .ok (.putfield 20, 3) := by decide +kernel
theorem dX4_init_30 : decode cX4_init 30 = .ok (.aload_n 0, 1) := by decide +kernel
theorem dX4_init_31 : decode cX4_init 31 = .ok (.new 9, 3) := by decide +kernel
theorem dX4_init_34 : decode cX4_init 34 = .ok (.dup, 1) := by decide +kernel
theorem dX4_init_35 : decode cX4_init 35 = .ok (.bipush 7, 2) := by decide +kernel
theorem dX4_init_37 : decode cX4_init 37 = .ok (.invokespecial 11, 3) := by decide +kernel
theorem dX4_init_40 : decode cX4_init 40 = .ok (.putfield 23, 3) := by decide +kernel
theorem dX4_init_43 : decode cX4_init 43 = .ok (.aload_n 0, 1) := by decide +kernel
theorem dX4_init_44 : decode cX4_init 44 = .ok (.aload_n 1, 1) := by decide +kernel
theorem dX4_init_45 : decode cX4_init 45 = .ok (.putfield 26, 3) := by decide +kernel
theorem dX4_init_48 : decode cX4_init 48 = .ok (.return_, 1) := by decide +kernel
theorem dX4_seek_0 : decode cX4_seek 0 = .ok (.aload_n 0, 1) := by decide +kernel
theorem dX4_seek_1 : decode cX4_seek 1 = .ok (.getfield 14, 3) := by decide +kernel
theorem dX4_seek_4 : decode cX4_seek 4 = .ok (.bipush 6, 2) := by decide +kernel
theorem dX4_seek_6 : decode cX4_seek 6 = .ok (.iconst 0, 1) := by decide +kernel
theorem dX4_seek_7 : decode cX4_seek 7 = .ok (.invokevirtual 30, 3) := by decide +kernel
theorem dX4_seek_10 : decode cX4_seek 10 = .ok (.iconst 0, 1) := by decide +kernel
theorem dX4_seek_11 : decode cX4_seek 11 = .ok (.istore_n 2, 1) := by decide +kernel
theorem dX4_seek_12 : decode cX4_seek 12 = .ok (.iload_n 2, 1) := by decide +kernel
theorem dX4_seek_13 : decode cX4_seek 13 = .ok (.aload_n 0, 1) := by decide +kernel
theorem dX4_seek_14 : decode cX4_seek 14 = .ok (.getfield 26, 3) := by decide +kernel
theorem dX4_seek_17 : decode cX4_seek 17 = .ok (.getfield 34, 3) := by decide +kernel
theorem dX4_seek_20 : decode cX4_seek 20 = .ok (.invokevirtual 39, 3) := by decide +kernel
theorem dX4_seek_23 : decode cX4_seek 23 = .ok (.if_icmp .ge 25, 3) := by decide +kernel
theorem dX4_seek_26 : decode cX4_seek 26 = .ok (.aload_n 0, 1) := by decide +kernel
theorem dX4_seek_27 : decode cX4_seek 27 = .ok (.aload_n 0, 1) := by decide +kernel
theorem dX4_seek_28 : decode cX4_seek 28 = .ok (.getfield 26, 3) := by decide +kernel
theorem dX4_seek_31 : decode cX4_seek 31 = .ok (.getfield 34, 3) := by decide +kernel
theorem dX4_seek_34 : decode cX4_seek 34 = .ok (.iload_n 2, 1) := by decide +kernel
theorem dX4_seek_35 : decode cX4_seek 35 = .ok (.invokevirtual 43, 3) := by decide +kernel
theorem dX4_seek_38 : decode cX4_seek 38 = .ok (.iconst 1, 1) := by decide +kernel
theorem dX4_seek_39 : decode cX4_seek 39 = .ok (.invokevirtual 47, 3) := by decide +kernel
theorem dX4_seek_42 : decode cX4_seek 42 = .ok (.iinc 2 1, 3) := by decide +kernel
theorem dX4_seek_45 : decode cX4_seek 45 = .ok (.goto (-33), 3) := by decide +kernel
theorem dX4_seek_48 : decode cX4_seek 48 = .ok (.aload_n 0, 1) := by decide +kernel
theorem dX4_seek_49 : decode cX4_seek 49 = .ok (.getfield 20, 3) := by decide +kernel
theorem dX4_seek_52 : decode cX4_seek 52 = .ok (.aload_n 0, 1) := by decide +kernel
theorem dX4_seek_53 : decode cX4_seek 53 = .ok (.getfield 26, 3) := by decide +kernel
theorem dX4_seek_56 : decode cX4_seek 56 = .ok (.getfield 34, 3) := by decide +kernel
theorem dX4_seek_59 : decode cX4_seek 59 = .ok (.invokevirtual 39, 3) := by decide +kernel
theorem dX4_seek_62 : decode cX4_seek 62 = .ok (.iconst 0, 1) := by decide +kernel
theorem dX4_seek_63 : decode cX4_seek 63 = .ok (.invokevirtual 30, 3) := by decide +kernel
theorem dX4_seek_66 : decode cX4_seek 66 = .ok (.aload_n 0, 1) := by decide +kernel
theorem dX4_seek_67 : decode cX4_seek 67 = .ok (.ldc 50, 2) := by decide +kernel
theorem dX4_seek_69 : decode cX4_seek 69 = .ok (.putfield 51, 3) := by decide +kernel
theorem dX4_seek_72 : decode cX4_seek 72 = .ok (.aload_n 0, 1) := by decide +kernel
theorem dX4_seek_73 : decode cX4_seek 73 = .ok (.aload_n 1, 1) := by decide +kernel
theorem dX4_seek_74 : decode cX4_seek 74 = .ok (.iconst 0, 1) := by decide +kernel
theorem dX4_seek_75 : decode cX4_seek 75 = .ok (.iconst 0, 1) := by decide +kernel
theorem dX4_seek_76 : decode cX4_seek 76 = .ok (.invokevirtual 55, 3) := by decide +kernel
theorem dX4_seek_79 : decode cX4_seek 79 = .ok (.return_, 1) := by decide +kernel
theorem dX4_addLeft_0 : decode cX4_addLeft 0 = .ok (.aload_n 0, 1) := by decide +kernel
theorem dX4_addLeft_1 : decode cX4_addLeft 1 = .ok (.getfield 14, 3) := by decide +kernel
theorem dX4_addLeft_4 : decode cX4_addLeft 4 = .ok (.iload_n 1, 1) := by decide +kernel
theorem dX4_addLeft_5 : decode cX4_addLeft 5 = .ok (.aload_n 0, 1) := by decide +kernel
theorem dX4_addLeft_6 : decode cX4_addLeft 6 = .ok (.getfield 14, 3) := by decide +kernel
theorem dX4_addLeft_9 : decode cX4_addLeft 9 = .ok (.iload_n 1, 1) := by decide +kernel
theorem dX4_addLeft_10 : decode cX4_addLeft 10 = .ok (.invokevirtual 43, 3) := by decide +kernel
theorem dX4_addLeft_13 : decode cX4_addLeft 13 = .ok (.iload_n 2, 1) := by decide +kernel
theorem dX4_addLeft_14 : decode cX4_addLeft 14 = .ok (.iadd, 1) := by decide +kernel
theorem dX4_addLeft_15 : decode cX4_addLeft 15 = .ok (.invokevirtual 59, 3) := by decide +kernel
theorem dX4_addLeft_18 : decode cX4_addLeft 18 = .ok (.return_, 1) := by decide +kernel
theorem dX4_tryFrom_0 : decode cX4_tryFrom 0 = .ok (.iload_n 3, 1) := by decide +kernel
theorem dX4_tryFrom_1 : decode cX4_tryFrom 1 = .ok (.aload_n 0, 1) := by decide +kernel
theorem dX4_tryFrom_2 : decode cX4_tryFrom 2 = .ok (.getfield 51, 3) := by decide +kernel
theorem dX4_tryFrom_5 : decode cX4_tryFrom 5 = .ok (.if_icmp .lt 4, 3) := by decide +kernel
theorem dX4_tryFrom_8 : decode cX4_tryFrom 8 = .ok (.return_, 1) := by decide +kernel
theorem dX4_tryFrom_9 : decode cX4_tryFrom 9 = .ok (.iload_n 2, 1) := by decide +kernel
theorem dX4_tryFrom_10 : decode cX4_tryFrom 10 = .ok (.aload_n 0, 1) := by decide +kernel
theorem dX4_tryFrom_11 : decode cX4_tryFrom 11 = .ok (.getfield 20, 3) := by decide +kernel
theorem dX4_tryFrom_14 : decode cX4_tryFrom 14 = .ok (.invokevirtual 39, 3) := by decide +kernel
theorem dX4_tryFrom_17 : decode cX4_tryFrom 17 = .ok (.if_icmp .lt 20, 3) := by decide +kernel
theorem dX4_tryFrom_20 : decode cX4_tryFrom 20 = .ok (.aload_n 0, 1) := by decide +kernel
theorem dX4_tryFrom_21 : decode cX4_tryFrom 21 = .ok (.iload_n 3, 1) := by decide +kernel
theorem dX4_tryFrom_22 : decode cX4_tryFrom 22 = .ok (.putfield 51, 3) := by decide +kernel
theorem dX4_tryFrom_25 : decode cX4_tryFrom 25 = .ok (.aload_n 0, 1) := by decide +kernel
theorem dX4_tryFrom_26 : decode cX4_tryFrom 26 = .ok (.getfield 23, 3) := by decide +kernel
theorem dX4_tryFrom_29 : decode cX4_tryFrom 29 = .ok (.aload_n 0, 1) := by decide +kernel
theorem dX4_tryFrom_30 : decode cX4_tryFrom 30 = .ok (.getfield 20, 3) := by decide +kernel
theorem dX4_tryFrom_33 : decode cX4_tryFrom 33 = .ok (.invokevirtual 62, 3) := by decide +kernel
theorem dX4_tryFrom_36 : decode cX4_tryFrom 36 = .ok (.return_, 1) := by decide +kernel
theorem dX4_tryFrom_37 : decode cX4_tryFrom 37 = .ok (.iconst 0, 1) := by decide +kernel
theorem dX4_tryFrom_38 : decode cX4_tryFrom 38 = .ok (.istore 4, 2) := by decide +kernel
theorem dX4_tryFrom_40 : decode cX4_tryFrom 40 = .ok (.iload 4, 2) := by decide +kernel
theorem dX4_tryFrom_42 : decode cX4_tryFrom 42 = .ok (.aload_n 0, 1) := by decide +kernel
theorem dX4_tryFrom_43 : decode cX4_tryFrom 43 = .ok (.getfield 26, 3) := by decide +kernel
theorem dX4_tryFrom_46 : decode cX4_tryFrom 46 = .ok (.invokevirtual 66, 3) := by decide +kernel
theorem dX4_tryFrom_49 : decode cX4_tryFrom 49 = .ok (.if_icmp .ge 87, 3) := by decide +kernel
theorem dX4_tryFrom_52 : decode cX4_tryFrom 52 = .ok (.aload_n 0, 1) := by decide +kernel
theorem dX4_tryFrom_53 : decode cX4_tryFrom 53 = .ok (.getfield 14, 3) := by decide +kernel
theorem dX4_tryFrom_56 : decode cX4_tryFrom 56 = .ok (.iload 4, 2) := by decide +kernel
theorem dX4_tryFrom_58 : decode cX4_tryFrom 58 = .ok (.invokevirtual 43, 3) := by decide +kernel
theorem dX4_tryFrom_61 : decode cX4_tryFrom 61 = .ok (.ifCond .le 10, 3) := by decide +kernel
theorem dX4_tryFrom_64 : decode cX4_tryFrom 64 = .ok (.aload_n 1, 1) := by decide +kernel
theorem dX4_tryFrom_65 : decode cX4_tryFrom 65 = .ok (.invokevirtual 69, 3) := by decide +kernel
theorem dX4_tryFrom_68 : decode cX4_tryFrom 68 = .ok (.goto 4, 3) := by decide +kernel
theorem dX4_tryFrom_71 : decode cX4_tryFrom 71 = .ok (.aconst_null, 1) := by decide +kernel
theorem dX4_tryFrom_72 : decode cX4_tryFrom 72 = .ok (.astore 5, 2) := by decide +kernel
theorem dX4_tryFrom_74 : decode cX4_tryFrom 74 = .ok (.aload 5, 2) := by decide +kernel
theorem dX4_tryFrom_76 : decode cX4_tryFrom 76 = .ok (.ifnull 54, 3) := by decide +kernel
theorem dX4_tryFrom_79 : decode cX4_tryFrom 79 = .ok (.aload_n 0, 1) := by decide +kernel
theorem dX4_tryFrom_80 : decode cX4_tryFrom 80 = .ok (.iload 4, 2) := by decide +kernel
theorem dX4_tryFrom_82 : decode cX4_tryFrom 82 = .ok (.iconst (-1), 1) := by decide +kernel
theorem dX4_tryFrom_83 : decode cX4_tryFrom 83 = .ok (.invokevirtual 47, 3) := by decide +kernel
theorem dX4_tryFrom_86 : decode cX4_tryFrom 86 = .ok (.aload_n 0, 1) := by decide +kernel
theorem dX4_tryFrom_87 : decode cX4_tryFrom 87 = .ok (.getfield 20, 3) := by decide +kernel
theorem dX4_tryFrom_90 : decode cX4_tryFrom 90 = .ok (.iload_n 2, 1) := by decide +kernel
theorem dX4_tryFrom_91 : decode cX4_tryFrom 91 = .ok (.iload 4, 2) := by decide +kernel
theorem dX4_tryFrom_93 : decode cX4_tryFrom 93 = .ok (.invokevirtual 59, 3) := by decide +kernel
theorem dX4_tryFrom_96 : decode cX4_tryFrom 96 = .ok (.aload_n 0, 1) := by decide +kernel
theorem dX4_tryFrom_97 : decode cX4_tryFrom 97 = .ok (.aload 5, 2) := by decide +kernel
theorem dX4_tryFrom_99 : decode cX4_tryFrom 99 = .ok (.iload_n 2, 1) := by decide +kernel
theorem dX4_tryFrom_100 : decode cX4_tryFrom 100 = .ok (.iconst 1, 1) := by decide +kernel
theorem dX4_tryFrom_101 : decode cX4_tryFrom 101 = .ok (.iadd, 1) := by decide +kernel
theorem dX4_tryFrom_102 : decode cX4_tryFrom 102 = .ok (.iload_n 3, 1) := by decide +kernel
theorem dX4_tryFrom_103 : decode cX4_tryFrom 103 = .ok (.aload_n 0, 1) := by decide +kernel
theorem dX4_tryFrom_104 : decode cX4_tryFrom 104 = .ok (.getfield 26, 3) := by decide +kernel
theorem dX4_tryFrom_107 : decode cX4_tryFrom 107 = .ok (.iload 4, 2) := by decide +kernel
theorem dX4_tryFrom_109 : decode cX4_tryFrom 109 = .ok (.aload 5, 2) := by decide +kernel
theorem dX4_tryFrom_111 : decode cX4_tryFrom 111 = .ok (.iload 4, 2) := by decide +kernel
theorem dX4_tryFrom_113 : decode cX4_tryFrom 113 = .ok (.invokevirtual 75, 3) := by decide +kernel
theorem dX4_tryFrom_116 : decode cX4_tryFrom 116 = .ok (.invokevirtual 78, 3) := by decide +kernel
theorem dX4_tryFrom_119 : decode cX4_tryFrom 119 = .ok (.iadd, 1) := by decide +kernel
theorem dX4_tryFrom_120 : decode cX4_tryFrom 120 = .ok (.invokevirtual 55, 3) := by decide +kernel
theorem dX4_tryFrom_123 : decode cX4_tryFrom 123 = .ok (.aload_n 0, 1) := by decide +kernel
theorem dX4_tryFrom_124 : decode cX4_tryFrom 124 = .ok (.iload 4, 2) := by decide +kernel
theorem dX4_tryFrom_126 : decode cX4_tryFrom 126 = .ok (.iconst 1, 1) := by decide +kernel
theorem dX4_tryFrom_127 : decode cX4_tryFrom 127 = .ok (.invokevirtual 47, 3) := by decide +kernel
theorem dX4_tryFrom_130 : decode cX4_tryFrom 130 = .ok (.iinc 4 1, 3) := by decide +kernel
theorem dX4_tryFrom_133 : decode cX4_tryFrom 133 = .ok (.goto (-93), 3) := by decide +kernel
theorem dX4_tryFrom_136 : decode cX4_tryFrom 136 = .ok (.return_, 1) := by decide +kernel
theorem dX5_init_0 : decode cX5_init 0 = .ok (.aload_n 0, 1) := by decide +kernel
theorem dX5_init_1 : decode cX5_init 1 = .ok (.invokespecial 3, 3) := by decide +kernel
theorem dX5_init_4 : decode cX5_init 4 = .ok (.aload_n 0, 1) := by decide +kernel
theorem dX5_init_5 : decode cX5_init 5 = .ok (.new 9, 3) := by decide +kernel
theorem dX5_init_8 : decode cX5_init 8 = .ok (.dup, 1) := by decide +kernel
theorem dX5_init_9 : decode cX5_init 9 = .ok (.iconst 5, 1) := by decide +kernel
theorem dX5_init_10 : decode cX5_init 10 = .ok (.invokespecial 11, 3) := by decide +kernel
theorem dX5_init_13 : decode cX5_init 13 = .ok (.putfield 14, 3) := by decide +kernel
theorem dX5_init_16 : decode cX5_init 16 = .ok (.aload_n 0, 1) := by decide +kernel
theorem dX5_init_17 : decode cX5_init 17 = .ok (.aload_n 1, 1) := by decide +kernel
theorem dX5_init_18 : decode cX5_init 18 = .ok (.putfield 20, 3) := by decide +kernel
theorem dX5_init_21 : decode cX5_init 21 = .ok (.aload_n 0, 1) := by decide +kernel
theorem dX5_init_22 : decode cX5_init 22 = .ok (.aload_n 2, 1) := by decide +kernel
theorem dX5_init_23 : decode cX5_init 23 = .ok (.putfield 23, 3) := by decide +kernel
theorem dX5_init_26 : decode cX5_init 26 = .ok (.return_, 1) := by decide +kernel
theorem dX5_readAll_0 : decode cX5_readAll 0 = .ok (.aload_n 0, 1) := by decide +kernel
theorem dX5_readAll_1 : decode cX5_readAll 1 = .ok (.getfield 23, 3) := by decide +kernel
theorem dX5_readAll_4 : decode cX5_readAll 4 = .ok (.invokevirtual 27, 3) := by decide +kernel
theorem dX5_readAll_7 : decode cX5_readAll 7 = .ok (.iconst 0, 1) := by decide +kernel
theorem dX5_readAll_8 : decode cX5_readAll 8 = .ok (.istore_n 1, 1) := by decide +kernel
theorem dX5_readAll_9 : decode cX5_readAll 9 = .ok (.iconst 0, 1) := by decide +kernel
theorem dX5_readAll_10 : decode cX5_readAll 10 = .ok (.istore_n 2, 1) := by decide +kernel
theorem dX5_readAll_11 : decode cX5_readAll 11 = .ok (.iload_n 2, 1) := by decide +kernel
theorem dX5_readAll_12 : decode cX5_readAll 12 = .ok (.sipush 200, 3) := by decide +kernel
theorem dX5_readAll_15 : decode cX5_readAll 15 = .ok (.if_icmp .ge 36, 3) := by decide +kernel
theorem dX5_readAll_18 : decode cX5_readAll 18 = .ok (.iload_n 1, 1) := by decide +kernel
theorem dX5_readAll_19 : decode cX5_readAll 19 = .ok (.aload_n 0, 1) := by decide +kernel
theorem dX5_readAll_20 : decode cX5_readAll 20 = .ok (.getfield 20, 3) := by decide +kernel
theorem dX5_readAll_23 : decode cX5_readAll 23 = .ok (.invokevirtual 32, 3) := by decide +kernel
theorem dX5_readAll_26 : decode cX5_readAll 26 = .ok (.if_icmp .ge 25, 3) := by decide +kernel
theorem dX5_readAll_29 : decode cX5_readAll 29 = .ok (.aload_n 0, 1) := by decide +kernel
theorem dX5_readAll_30 : decode cX5_readAll 30 = .ok (.iload_n 1, 1) := by decide +kernel
theorem dX5_readAll_31 : decode cX5_readAll 31 = .ok (.invokevirtual 36, 3) := by decide +kernel
theorem dX5_readAll_34 : decode cX5_readAll 34 = .ok (.istore_n 3, 1) := by decide +kernel
theorem dX5_readAll_35 : decode cX5_readAll 35 = .ok (.iload_n 3, 1) := by decide +kernel
theorem dX5_readAll_36 : decode cX5_readAll 36 = .ok (.bipush (-4), 2) := by decide +kernel
theorem dX5_readAll_38 : decode cX5_readAll 38 = .ok (.if_icmp .ne 5, 3) := by decide +kernel
theorem dX5_readAll_41 : decode cX5_readAll 41 = .ok (.iload_n 1, 1) := by decide +kernel
theorem dX5_readAll_42 : decode cX5_readAll 42 = .ok (.ireturn, 1) := by decide +kernel
theorem dX5_readAll_43 : decode cX5_readAll 43 = .ok (.iload_n 3, 1) := by decide +kernel
theorem dX5_readAll_44 : decode cX5_readAll 44 = .ok (.istore_n 1, 1) := by decide +kernel
theorem dX5_readAll_45 : decode cX5_readAll 45 = .ok (.iinc 2 1, 3) := by decide +kernel
theorem dX5_readAll_48 : decode cX5_readAll 48 = .ok (.goto (-37), 3) := by decide +kernel
theorem dX5_readAll_51 : decode cX5_readAll 51 = .ok (.bipush (-4), 2) := by decide +kernel
theorem dX5_readAll_53 : decode cX5_readAll 53 = .ok (.ireturn, 1) := by decide +kernel
theorem dX5_readItem_0 : decode cX5_readItem 0 = .ok (.aload_n 0, 1) := by decide +kernel
theorem dX5_readItem_1 : decode cX5_readItem 1 = .ok (.getfield 20, 3) := by decide +kernel
theorem dX5_readItem_4 : decode cX5_readItem 4 = .ok (.iload_n 1, 1) := by decide +kernel
theorem dX5_readItem_5 : decode cX5_readItem 5 = .ok (.invokevirtual 40, 3) := by decide +kernel
theorem dX5_readItem_8 : decode cX5_readItem 8 = .ok (.istore_n 2, 1) := by decide +kernel
theorem dX5_readItem_9 : decode cX5_readItem 9 = .ok (.iload_n 2, 1) := by decide +kernel
theorem dX5_readItem_10 : decode cX5_readItem 10 = .ok (.invokestatic 43, 3) := by decide +kernel
theorem dX5_readItem_13 : decode cX5_readItem 13 = .ok (.istore_n 3, 1) := by decide +kernel
theorem dX5_readItem_14 : decode cX5_readItem 14 = .ok (.iload_n 1, 1) := by decide +kernel
theorem dX5_readItem_15 : decode cX5_readItem 15 = .ok (.iconst 1, 1) := by decide +kernel
theorem dX5_readItem_16 : decode cX5_readItem 16 = .ok (.iadd, 1) := by decide +kernel
theorem dX5_readItem_17 : decode cX5_readItem 17 = .ok (.istore 4, 2) := by decide +kernel
theorem dX5_readItem_19 : decode cX5_readItem 19 = .ok (.aload_n 0, 1) := by decide +kernel
theorem dX5_readItem_20 : decode cX5_readItem 20 = .ok (.getfield 14, 3) := by decide +kernel
theorem dX5_readItem_23 : decode cX5_readItem 23 = .ok (.invokevirtual 46, 3) := by decide +kernel
theorem dX5_readItem_26 : decode cX5_readItem 26 = .ok (.iconst 0, 1) := by decide +kernel
theorem dX5_readItem_27 : decode cX5_readItem 27 = .ok (.istore 5, 2) := by decide +kernel
theorem dX5_readItem_29 : decode cX5_readItem 29 = .ok (.iload 5, 2) := by decide +kernel
theorem dX5_readItem_31 : decode cX5_readItem 31 = .ok (.iload_n 3, 1) := by decide +kernel
theorem dX5_readItem_32 : decode cX5_readItem 32 = .ok (.if_icmp .ge 57, 3) := by decide +kernel
theorem dX5_readItem_35 : decode cX5_readItem 35 = .ok (.aload_n 0, 1) := by decide +kernel
theorem dX5_readItem_36 : decode cX5_readItem 36 = .ok (.iload 4, 2) := by decide +kernel
theorem dX5_readItem_38 : decode cX5_readItem 38 = .ok (.invokevirtual 47, 3) := by decide +kernel
theorem dX5_readItem_41 : decode cX5_readItem 41 = .ok (.istore 4, 2) := by decide +kernel
theorem dX5_readItem_43 : decode cX5_readItem 43 = .ok (.iload 4, 2) := by decide +kernel
theorem dX5_readItem_45 : decode cX5_readItem 45 = .ok (.bipush (-4), 2) := by decide +kernel
theorem dX5_readItem_47 : decode cX5_readItem 47 = .ok (.if_icmp .eq 30, 3) := by decide +kernel
theorem dX5_readItem_50 : decode cX5_readItem 50 = .ok (.aload_n 0, 1) := by decide +kernel
theorem dX5_readItem_51 : decode cX5_readItem 51 = .ok (.getfield 20, 3) := by decide +kernel
theorem dX5_readItem_54 : decode cX5_readItem 54 = .ok (.iload 4, 2) := by decide +kernel
theorem dX5_readItem_56 : decode cX5_readItem 56 = .ok (.invokevirtual 40, 3) := by decide +kernel
theorem dX5_readItem_59 : decode cX5_readItem 59 = .ok (.iload 5, 2) := by decide +kernel
theorem dX5_readItem_61 : decode cX5_readItem 61 = .ok (.iload_n 3, 1) := by decide +kernel
theorem dX5_readItem_62 : decode cX5_readItem 62 = .ok (.iconst 1, 1) := by decide +kernel
theorem dX5_readItem_63 : decode cX5_readItem 63 = .ok (.isub, 1) := by decide +kernel
theorem dX5_readItem_64 : decode cX5_readItem 64 = .ok (.if_icmp .ne 8, 3) := by decide +kernel
theorem dX5_readItem_67 : decode cX5_readItem 67 = .ok (.bipush 59, 2) := by decide +kernel
theorem dX5_readItem_69 : decode cX5_readItem 69 = .ok (.goto 5, 3) := by decide +kernel
theorem dX5_readItem_72 : decode cX5_readItem 72 = .ok (.bipush 44, 2) := by decide +kernel
theorem dX5_readItem_74 : decode cX5_readItem 74 = .ok (.if_icmp .eq 6, 3) := by decide +kernel
theorem dX5_readItem_77 : decode cX5_readItem 77 = .ok (.bipush (-4), 2) := by decide +kernel
theorem dX5_readItem_79 : decode cX5_readItem 79 = .ok (.ireturn, 1) := by decide +kernel
theorem dX5_readItem_80 : decode cX5_readItem 80 = .ok (.iinc 4 1, 3) := by decide +kernel
theorem dX5_readItem_83 : decode cX5_readItem 83 = .ok (.iinc 5 1, 3) := by decide +kernel
theorem dX5_readItem_86 : decode cX5_readItem 86 = .ok (.goto (-57), 3) := by decide +kernel
theorem dX5_readItem_89 : decode cX5_readItem 89 = .ok (.aload_n 0, 1) := by decide +kernel
theorem dX5_readItem_90 : decode cX5_readItem 90 = .ok (.iload_n 2, 1) := by decide +kernel
theorem dX5_readItem_91 : decode cX5_readItem 91 = .ok (.invokevirtual 50, 3) := by decide +kernel
theorem dX5_readItem_94 : decode cX5_readItem 94 = .ok (.ifCond .eq 8, 3) := by decide +kernel
theorem dX5_readItem_97 : decode cX5_readItem 97 = .ok (.iload 4, 2) := by decide +kernel
theorem dX5_readItem_99 : decode cX5_readItem 99 = .ok (.goto 5, 3) := by decide +kernel
theorem dX5_readItem_102 : decode cX5_readItem 102 = .ok (.bipush (-4), 2) := by decide +kernel
theorem dX5_readItem_104 : decode cX5_readItem 104 = .ok (.ireturn, 1) := by decide +kernel
theorem dX5_numbersBehind_0 : decode cX5_numbersBehind 0 = .ok (.iload_n 0, 1) := by decide +kernel
theorem dX5_numbersBehind_1 : decode cX5_numbersBehind 1 = .ok (.tableswitch 51 101 108 #[49, 49, 51, 51, 51, 51, 47, 49], 47) := by decide +kernel
theorem dX5_numbersBehind_48 : decode cX5_numbersBehind 48 = .ok (.iconst 5, 1) := by decide +kernel
theorem dX5_numbersBehind_49 : decode cX5_numbersBehind 49 = .ok (.ireturn, 1) := by decide +kernel
theorem dX5_numbersBehind_50 : decode cX5_numbersBehind 50 = .ok (.iconst 1, 1) := by decide +kernel
theorem dX5_numbersBehind_51 : decode cX5_numbersBehind 51 = .ok (.ireturn, 1) := by decide +kernel
theorem dX5_numbersBehind_52 : decode cX5_numbersBehind 52 = .ok (.iconst 0, 1) := by decide +kernel
theorem dX5_numbersBehind_53 : decode cX5_numbersBehind 53 = .ok (.ireturn, 1) := by decide +kernel
theorem dX5_readNumber_0 : decode cX5_readNumber 0 = .ok (.aload_n 0, 1) := by decide +kernel
theorem dX5_readNumber_1 : decode cX5_readNumber 1 = .ok (.getfield 20, 3) := by decide +kernel
theorem dX5_readNumber_4 : decode cX5_readNumber 4 = .ok (.iload_n 1, 1) := by decide +kernel
theorem dX5_readNumber_5 : decode cX5_readNumber 5 = .ok (.invokevirtual 40, 3) := by decide +kernel
theorem dX5_readNumber_8 : decode cX5_readNumber 8 = .ok (.invokestatic 54, 3) := by decide +kernel
theorem dX5_readNumber_11 : decode cX5_readNumber 11 = .ok (.ifCond .ne 6, 3) := by decide +kernel
theorem dX5_readNumber_14 : decode cX5_readNumber 14 = .ok (.bipush (-4), 2) := by decide +kernel
theorem dX5_readNumber_16 : decode cX5_readNumber 16 = .ok (.ireturn, 1) := by decide +kernel
theorem dX5_readNumber_17 : decode cX5_readNumber 17 = .ok (.aload_n 0, 1) := by decide +kernel
theorem dX5_readNumber_18 : decode cX5_readNumber 18 = .ok (.getfield 20, 3) := by decide +kernel
theorem dX5_readNumber_21 : decode cX5_readNumber 21 = .ok (.iload_n 1, 1) := by decide +kernel
theorem dX5_readNumber_22 : decode cX5_readNumber 22 = .ok (.invokevirtual 40, 3) := by decide +kernel
theorem dX5_readNumber_25 : decode cX5_readNumber 25 = .ok (.bipush 48, 2) := by decide +kernel
theorem dX5_readNumber_27 : decode cX5_readNumber 27 = .ok (.isub, 1) := by decide +kernel
theorem dX5_readNumber_28 : decode cX5_readNumber 28 = .ok (.istore_n 2, 1) := by decide +kernel
theorem dX5_readNumber_29 : decode cX5_readNumber 29 = .ok (.aload_n 0, 1) := by decide +kernel
theorem dX5_readNumber_30 : decode cX5_readNumber 30 = .ok (.getfield 20, 3) := by decide +kernel
theorem dX5_readNumber_33 : decode cX5_readNumber 33 = .ok (.iload_n 1, 1) := by decide +kernel
theorem dX5_readNumber_34 : decode cX5_readNumber 34 = .ok (.iconst 1, 1) := by decide +kernel
theorem dX5_readNumber_35 : decode cX5_readNumber 35 = .ok (.iadd, 1) := by decide +kernel
theorem dX5_readNumber_36 : decode cX5_readNumber 36 = .ok (.invokevirtual 40, 3) := by decide +kernel
theorem dX5_readNumber_39 : decode cX5_readNumber 39 = .ok (.istore_n 3, 1) := by decide +kernel
theorem dX5_readNumber_40 : decode cX5_readNumber 40 = .ok (.iload_n 3, 1) := by decide +kernel
theorem dX5_readNumber_41 : decode cX5_readNumber 41 = .ok (.invokestatic 54, 3) := by decide +kernel
theorem dX5_readNumber_44 : decode cX5_readNumber 44 = .ok (.istore 4, 2) := by decide +kernel
theorem dX5_readNumber_46 : decode cX5_readNumber 46 = .ok (.aload_n 0, 1) := by decide +kernel
theorem dX5_readNumber_47 : decode cX5_readNumber 47 = .ok (.getfield 14, 3) := by decide +kernel
theorem dX5_readNumber_50 : decode cX5_readNumber 50 = .ok (.iload 4, 2) := by decide +kernel
theorem dX5_readNumber_52 : decode cX5_readNumber 52 = .ok (.ifCond .eq 15, 3) := by decide +kernel
theorem dX5_readNumber_55 : decode cX5_readNumber 55 = .ok (.bipush 10, 2) := by decide +kernel
theorem dX5_readNumber_57 : decode cX5_readNumber 57 = .ok (.iload_n 2, 1) := by decide +kernel
theorem dX5_readNumber_58 : decode cX5_readNumber 58 = .ok (.imul, 1) := by decide +kernel
theorem dX5_readNumber_59 : decode cX5_readNumber 59 = .ok (.iload_n 3, 1) := by decide +kernel
theorem dX5_readNumber_60 : decode cX5_readNumber 60 = .ok (.iadd, 1) := by decide +kernel
theorem dX5_readNumber_61 : decode cX5_readNumber 61 = .ok (.bipush 48, 2) := by decide +kernel
theorem dX5_readNumber_63 : decode cX5_readNumber 63 = .ok (.isub, 1) := by decide +kernel
theorem dX5_readNumber_64 : decode cX5_readNumber 64 = .ok (.goto 4, 3) := by decide +kernel
theorem dX5_readNumber_67 : decode cX5_readNumber 67 = .ok (.iload_n 2, 1) := by decide +kernel
theorem dX5_readNumber_68 : decode cX5_readNumber 68 = .ok (.invokevirtual 57, 3) := by decide +kernel
theorem dX5_readNumber_71 : decode cX5_readNumber 71 = .ok (.iload 4, 2) := by decide +kernel
theorem dX5_readNumber_73 : decode cX5_readNumber 73 = .ok (.ifCond .eq 9, 3) := by decide +kernel
theorem dX5_readNumber_76 : decode cX5_readNumber 76 = .ok (.iload_n 1, 1) := by decide +kernel
theorem dX5_readNumber_77 : decode cX5_readNumber 77 = .ok (.iconst 2, 1) := by decide +kernel
theorem dX5_readNumber_78 : decode cX5_readNumber 78 = .ok (.iadd, 1) := by decide +kernel
theorem dX5_readNumber_79 : decode cX5_readNumber 79 = .ok (.goto 6, 3) := by decide +kernel
theorem dX5_readNumber_82 : decode cX5_readNumber 82 = .ok (.iload_n 1, 1) := by decide +kernel
theorem dX5_readNumber_83 : decode cX5_readNumber 83 = .ok (.iconst 1, 1) := by decide +kernel
theorem dX5_readNumber_84 : decode cX5_readNumber 84 = .ok (.iadd, 1) := by decide +kernel
theorem dX5_readNumber_85 : decode cX5_readNumber 85 = .ok (.ireturn, 1) := by decide +kernel
theorem dX5_isFigure_0 : decode cX5_isFigure 0 = .ok (.iload_n 0, 1) := by decide +kernel
theorem dX5_isFigure_1 : decode cX5_isFigure 1 = .ok (.bipush 48, 2) := by decide +kernel
theorem dX5_isFigure_3 : decode cX5_isFigure 3 = .ok (.if_icmp .lt 13, 3) := by decide +kernel
theorem dX5_isFigure_6 : decode cX5_isFigure 6 = .ok (.iload_n 0, 1) := by decide +kernel
theorem dX5_isFigure_7 : decode cX5_isFigure 7 = .ok (.bipush 57, 2) := by decide +kernel
theorem dX5_isFigure_9 : decode cX5_isFigure 9 = .ok (.if_icmp .gt 7, 3) := by decide +kernel
theorem dX5_isFigure_12 : decode cX5_isFigure 12 = .ok (.iconst 1, 1) := by decide +kernel
theorem dX5_isFigure_13 : decode cX5_isFigure 13 = .ok (.goto 4, 3) := by decide +kernel
theorem dX5_isFigure_16 : decode cX5_isFigure 16 = .ok (.iconst 0, 1) := by decide +kernel
theorem dX5_isFigure_17 : decode cX5_isFigure 17 = .ok (.ireturn, 1) := by decide +kernel
theorem dX5_takeItem_0 : decode cX5_takeItem 0 = .ok (.aload_n 0, 1) := by decide +kernel
theorem dX5_takeItem_1 : decode cX5_takeItem 1 = .ok (.getfield 14, 3) := by decide +kernel
theorem dX5_takeItem_4 : decode cX5_takeItem 4 = .ok (.iconst 0, 1) := by decide +kernel
theorem dX5_takeItem_5 : decode cX5_takeItem 5 = .ok (.invokevirtual 40, 3) := by decide +kernel
theorem dX5_takeItem_8 : decode cX5_takeItem 8 = .ok (.istore_n 2, 1) := by decide +kernel
theorem dX5_takeItem_9 : decode cX5_takeItem 9 = .ok (.iload_n 1, 1) := by decide +kernel
theorem dX5_takeItem_10 : decode cX5_takeItem 10 = .ok (.tableswitch 83 101 108 #[77, 64, 83, 83, 83, 83, 46, 51], 46) := by decide +kernel
theorem dX5_takeItem_56 : decode cX5_takeItem 56 = .ok (.aload_n 0, 1) := by decide +kernel
theorem dX5_takeItem_57 : decode cX5_takeItem 57 = .ok (.invokevirtual 60, 3) := by decide +kernel
theorem dX5_takeItem_60 : decode cX5_takeItem 60 = .ok (.ireturn, 1) := by decide +kernel
theorem dX5_takeItem_61 : decode cX5_takeItem 61 = .ok (.aload_n 0, 1) := by decide +kernel
theorem dX5_takeItem_62 : decode cX5_takeItem 62 = .ok (.getfield 23, 3) := by decide +kernel
theorem dX5_takeItem_65 : decode cX5_takeItem 65 = .ok (.iload_n 2, 1) := by decide +kernel
theorem dX5_takeItem_66 : decode cX5_takeItem 66 = .ok (.putfield 64, 3) := by decide +kernel
theorem dX5_takeItem_69 : decode cX5_takeItem 69 = .ok (.iload_n 2, 1) := by decide +kernel
theorem dX5_takeItem_70 : decode cX5_takeItem 70 = .ok (.invokestatic 68, 3) := by decide +kernel
theorem dX5_takeItem_73 : decode cX5_takeItem 73 = .ok (.ireturn, 1) := by decide +kernel
theorem dX5_takeItem_74 : decode cX5_takeItem 74 = .ok (.aload_n 0, 1) := by decide +kernel
theorem dX5_takeItem_75 : decode cX5_takeItem 75 = .ok (.getfield 23, 3) := by decide +kernel
theorem dX5_takeItem_78 : decode cX5_takeItem 78 = .ok (.iload_n 2, 1) := by decide +kernel
theorem dX5_takeItem_79 : decode cX5_takeItem 79 = .ok (.putfield 71, 3) := by decide +kernel
theorem dX5_takeItem_82 : decode cX5_takeItem 82 = .ok (.iload_n 2, 1) := by decide +kernel
theorem dX5_takeItem_83 : decode cX5_takeItem 83 = .ok (.invokestatic 74, 3) := by decide +kernel
theorem dX5_takeItem_86 : decode cX5_takeItem 86 = .ok (.ireturn, 1) := by decide +kernel
theorem dX5_takeItem_87 : decode cX5_takeItem 87 = .ok (.aload_n 0, 1) := by decide +kernel
theorem dX5_takeItem_88 : decode cX5_takeItem 88 = .ok (.iload_n 2, 1) := by decide +kernel
theorem dX5_takeItem_89 : decode cX5_takeItem 89 = .ok (.invokevirtual 77, 3) := by decide +kernel
theorem dX5_takeItem_92 : decode cX5_takeItem 92 = .ok (.ireturn, 1) := by decide +kernel
theorem dX5_takeItem_93 : decode cX5_takeItem 93 = .ok (.iconst 0, 1) := by decide +kernel
theorem dX5_takeItem_94 : decode cX5_takeItem 94 = .ok (.ireturn, 1) := by decide +kernel
theorem dX5_takeKind_0 : decode cX5_takeKind 0 = .ok (.aload_n 0, 1) := by decide +kernel
theorem dX5_takeKind_1 : decode cX5_takeKind 1 = .ok (.getfield 23, 3) := by decide +kernel
theorem dX5_takeKind_4 : decode cX5_takeKind 4 = .ok (.getfield 80, 3) := by decide +kernel
theorem dX5_takeKind_7 : decode cX5_takeKind 7 = .ok (.invokevirtual 83, 3) := by decide +kernel
theorem dX5_takeKind_10 : decode cX5_takeKind 10 = .ok (.ifCond .ne 85, 3) := by decide +kernel
theorem dX5_takeKind_13 : decode cX5_takeKind 13 = .ok (.aload_n 0, 1) := by decide +kernel
theorem dX5_takeKind_14 : decode cX5_takeKind 14 = .ok (.getfield 14, 3) := by decide +kernel
theorem dX5_takeKind_17 : decode cX5_takeKind 17 = .ok (.iconst 0, 1) := by decide +kernel
theorem dX5_takeKind_18 : decode cX5_takeKind 18 = .ok (.invokevirtual 40, 3) := by decide +kernel
theorem dX5_takeKind_21 : decode cX5_takeKind 21 = .ok (.iconst 0, 1) := by decide +kernel
theorem dX5_takeKind_22 : decode cX5_takeKind 22 = .ok (.bipush 31, 2) := by decide +kernel
theorem dX5_takeKind_24 : decode cX5_takeKind 24 = .ok (.invokestatic 86, 3) := by decide +kernel
theorem dX5_takeKind_27 : decode cX5_takeKind 27 = .ok (.ifCond .eq 68, 3) := by decide +kernel
theorem dX5_takeKind_30 : decode cX5_takeKind 30 = .ok (.aload_n 0, 1) := by decide +kernel
theorem dX5_takeKind_31 : decode cX5_takeKind 31 = .ok (.getfield 14, 3) := by decide +kernel
theorem dX5_takeKind_34 : decode cX5_takeKind 34 = .ok (.iconst 1, 1) := by decide +kernel
theorem dX5_takeKind_35 : decode cX5_takeKind 35 = .ok (.invokevirtual 40, 3) := by decide +kernel
theorem dX5_takeKind_38 : decode cX5_takeKind 38 = .ok (.invokestatic 74, 3) := by decide +kernel
theorem dX5_takeKind_41 : decode cX5_takeKind 41 = .ok (.ifCond .eq 54, 3) := by decide +kernel
theorem dX5_takeKind_44 : decode cX5_takeKind 44 = .ok (.aload_n 0, 1) := by decide +kernel
theorem dX5_takeKind_45 : decode cX5_takeKind 45 = .ok (.getfield 14, 3) := by decide +kernel
theorem dX5_takeKind_48 : decode cX5_takeKind 48 = .ok (.iconst 2, 1) := by decide +kernel
theorem dX5_takeKind_49 : decode cX5_takeKind 49 = .ok (.invokevirtual 40, 3) := by decide +kernel
theorem dX5_takeKind_52 : decode cX5_takeKind 52 = .ok (.iconst 0, 1) := by decide +kernel
theorem dX5_takeKind_53 : decode cX5_takeKind 53 = .ok (.bipush 63, 2) := by decide +kernel
theorem dX5_takeKind_55 : decode cX5_takeKind 55 = .ok (.invokestatic 86, 3) := by decide +kernel
theorem dX5_takeKind_58 : decode cX5_takeKind 58 = .ok (.ifCond .eq 37, 3) := by decide +kernel
theorem dX5_takeKind_61 : decode cX5_takeKind 61 = .ok (.aload_n 0, 1) := by decide +kernel
theorem dX5_takeKind_62 : decode cX5_takeKind 62 = .ok (.getfield 14, 3) := by decide +kernel
theorem dX5_takeKind_65 : decode cX5_takeKind 65 = .ok (.iconst 3, 1) := by decide +kernel
theorem dX5_takeKind_66 : decode cX5_takeKind 66 = .ok (.invokevirtual 40, 3) := by decide +kernel
theorem dX5_takeKind_69 : decode cX5_takeKind 69 = .ok (.iconst 0, 1) := by decide +kernel
theorem dX5_takeKind_70 : decode cX5_takeKind 70 = .ok (.bipush 20, 2) := by decide +kernel
theorem dX5_takeKind_72 : decode cX5_takeKind 72 = .ok (.invokestatic 86, 3) := by decide +kernel
theorem dX5_takeKind_75 : decode cX5_takeKind 75 = .ok (.ifCond .eq 20, 3) := by decide +kernel
theorem dX5_takeKind_78 : decode cX5_takeKind 78 = .ok (.aload_n 0, 1) := by decide +kernel
theorem dX5_takeKind_79 : decode cX5_takeKind 79 = .ok (.getfield 14, 3) := by decide +kernel
theorem dX5_takeKind_82 : decode cX5_takeKind 82 = .ok (.iconst 4, 1) := by decide +kernel
theorem dX5_takeKind_83 : decode cX5_takeKind 83 = .ok (.invokevirtual 40, 3) := by decide +kernel
theorem dX5_takeKind_86 : decode cX5_takeKind 86 = .ok (.iconst 1, 1) := by decide +kernel
theorem dX5_takeKind_87 : decode cX5_takeKind 87 = .ok (.bipush 9, 2) := by decide +kernel
theorem dX5_takeKind_89 : decode cX5_takeKind 89 = .ok (.invokestatic 86, 3) := by decide +kernel
theorem dX5_takeKind_92 : decode cX5_takeKind 92 = .ok (.ifCond .ne 5, 3) := by decide +kernel
theorem dX5_takeKind_95 : decode cX5_takeKind 95 = .ok (.iconst 0, 1) := by decide +kernel
theorem dX5_takeKind_96 : decode cX5_takeKind 96 = .ok (.ireturn, 1) := by decide +kernel
theorem dX5_takeKind_97 : decode cX5_takeKind 97 = .ok (.aload_n 0, 1) := by decide +kernel
theorem dX5_takeKind_98 : decode cX5_takeKind 98 = .ok (.getfield 23, 3) := by decide +kernel
theorem dX5_takeKind_101 : decode cX5_takeKind 101 = .ok (.getfield 80, 3) := by decide +kernel
theorem dX5_takeKind_104 : decode cX5_takeKind 104 = .ok (.aload_n 0, 1) := by decide +kernel
theorem dX5_takeKind_105 : decode cX5_takeKind 105 = .ok (.getfield 14, 3) := by decide +kernel
theorem dX5_takeKind_108 : decode cX5_takeKind 108 = .ok (.iconst 0, 1) := by decide +kernel
theorem dX5_takeKind_109 : decode cX5_takeKind 109 = .ok (.invokevirtual 40, 3) := by decide +kernel
theorem dX5_takeKind_112 : decode cX5_takeKind 112 = .ok (.invokevirtual 57, 3) := by decide +kernel
theorem dX5_takeKind_115 : decode cX5_takeKind 115 = .ok (.aload_n 0, 1) := by decide +kernel
theorem dX5_takeKind_116 : decode cX5_takeKind 116 = .ok (.getfield 23, 3) := by decide +kernel
theorem dX5_takeKind_119 : decode cX5_takeKind 119 = .ok (.getfield 90, 3) := by decide +kernel
theorem dX5_takeKind_122 : decode cX5_takeKind 122 = .ok (.aload_n 0, 1) := by decide +kernel
theorem dX5_takeKind_123 : decode cX5_takeKind 123 = .ok (.getfield 14, 3) := by decide +kernel
theorem dX5_takeKind_126 : decode cX5_takeKind 126 = .ok (.iconst 1, 1) := by decide +kernel
theorem dX5_takeKind_127 : decode cX5_takeKind 127 = .ok (.invokevirtual 40, 3) := by decide +kernel
theorem dX5_takeKind_130 : decode cX5_takeKind 130 = .ok (.invokevirtual 57, 3) := by decide +kernel
theorem dX5_takeKind_133 : decode cX5_takeKind 133 = .ok (.aload_n 0, 1) := by decide +kernel
theorem dX5_takeKind_134 : decode cX5_takeKind 134 = .ok (.getfield 23, 3) := by decide +kernel
theorem dX5_takeKind_137 : decode cX5_takeKind 137 = .ok (.getfield 93, 3) := by decide +kernel
theorem dX5_takeKind_140 : decode cX5_takeKind 140 = .ok (.aload_n 0, 1) := by decide +kernel
theorem dX5_takeKind_141 : decode cX5_takeKind 141 = .ok (.getfield 14, 3) := by decide +kernel
theorem dX5_takeKind_144 : decode cX5_takeKind 144 = .ok (.iconst 2, 1) := by decide +kernel
theorem dX5_takeKind_145 : decode cX5_takeKind 145 = .ok (.invokevirtual 40, 3) := by decide +kernel
theorem dX5_takeKind_148 : decode cX5_takeKind 148 = .ok (.invokevirtual 57, 3) := by decide +kernel
theorem dX5_takeKind_151 : decode cX5_takeKind 151 = .ok (.aload_n 0, 1) := by decide +kernel
theorem dX5_takeKind_152 : decode cX5_takeKind 152 = .ok (.getfield 23, 3) := by decide +kernel
theorem dX5_takeKind_155 : decode cX5_takeKind 155 = .ok (.getfield 96, 3) := by decide +kernel
theorem dX5_takeKind_158 : decode cX5_takeKind 158 = .ok (.aload_n 0, 1) := by decide +kernel
theorem dX5_takeKind_159 : decode cX5_takeKind 159 = .ok (.getfield 14, 3) := by decide +kernel
theorem dX5_takeKind_162 : decode cX5_takeKind 162 = .ok (.iconst 3, 1) := by decide +kernel
theorem dX5_takeKind_163 : decode cX5_takeKind 163 = .ok (.invokevirtual 40, 3) := by decide +kernel
theorem dX5_takeKind_166 : decode cX5_takeKind 166 = .ok (.invokevirtual 57, 3) := by decide +kernel
theorem dX5_takeKind_169 : decode cX5_takeKind 169 = .ok (.aload_n 0, 1) := by decide +kernel
theorem dX5_takeKind_170 : decode cX5_takeKind 170 = .ok (.getfield 23, 3) := by decide +kernel
theorem dX5_takeKind_173 : decode cX5_takeKind 173 = .ok (.getfield 99, 3) := by decide +kernel
theorem dX5_takeKind_176 : decode cX5_takeKind 176 = .ok (.aload_n 0, 1) := by decide +kernel
theorem dX5_takeKind_177 : decode cX5_takeKind 177 = .ok (.getfield 14, 3) := by decide +kernel
theorem dX5_takeKind_180 : decode cX5_takeKind 180 = .ok (.iconst 4, 1) := by decide +kernel
theorem dX5_takeKind_181 : decode cX5_takeKind 181 = .ok (.invokevirtual 40, 3) := by decide +kernel
theorem dX5_takeKind_184 : decode cX5_takeKind 184 = .ok (.invokevirtual 57, 3) := by decide +kernel
theorem dX5_takeKind_187 : decode cX5_takeKind 187 = .ok (.iconst 1, 1) := by decide +kernel
theorem dX5_takeKind_188 : decode cX5_takeKind 188 = .ok (.ireturn, 1) := by decide +kernel
theorem dX5_takeErrand_0 : decode cX5_takeErrand 0 = .ok (.aload_n 0, 1) := by decide +kernel
theorem dX5_takeErrand_1 : decode cX5_takeErrand 1 = .ok (.getfield 23, 3) := by decide +kernel
theorem dX5_takeErrand_4 : decode cX5_takeErrand 4 = .ok (.iload_n 1, 1) := by decide +kernel
theorem dX5_takeErrand_5 : decode cX5_takeErrand 5 = .ok (.invokevirtual 102, 3) := by decide +kernel
theorem dX5_takeErrand_8 : decode cX5_takeErrand 8 = .ok (.ifCond .eq 16, 3) := by decide +kernel
theorem dX5_takeErrand_11 : decode cX5_takeErrand 11 = .ok (.aload_n 0, 1) := by decide +kernel
theorem dX5_takeErrand_12 : decode cX5_takeErrand 12 = .ok (.getfield 23, 3) := by decide +kernel
theorem dX5_takeErrand_15 : decode cX5_takeErrand 15 = .ok (.getfield 105, 3) := by decide +kernel
theorem dX5_takeErrand_18 : decode cX5_takeErrand 18 = .ok (.invokevirtual 83, 3) := by decide +kernel
theorem dX5_takeErrand_21 : decode cX5_takeErrand 21 = .ok (.ifCond .eq 5, 3) := by decide +kernel
theorem dX5_takeErrand_24 : decode cX5_takeErrand 24 = .ok (.iconst 0, 1) := by decide +kernel
theorem dX5_takeErrand_25 : decode cX5_takeErrand 25 = .ok (.ireturn, 1) := by decide +kernel
theorem dX5_takeErrand_26 : decode cX5_takeErrand 26 = .ok (.aload_n 0, 1) := by decide +kernel
theorem dX5_takeErrand_27 : decode cX5_takeErrand 27 = .ok (.getfield 23, 3) := by decide +kernel
theorem dX5_takeErrand_30 : decode cX5_takeErrand 30 = .ok (.getfield 105, 3) := by decide +kernel
theorem dX5_takeErrand_33 : decode cX5_takeErrand 33 = .ok (.iload_n 1, 1) := by decide +kernel
theorem dX5_takeErrand_34 : decode cX5_takeErrand 34 = .ok (.invokevirtual 57, 3) := by decide +kernel
theorem dX5_takeErrand_37 : decode cX5_takeErrand 37 = .ok (.iconst 1, 1) := by decide +kernel
theorem dX5_takeErrand_38 : decode cX5_takeErrand 38 = .ok (.ireturn, 1) := by decide +kernel
theorem dX6_init_0 : decode cX6_init 0 = .ok (.aload_n 0, 1) := by decide +kernel
theorem dX6_init_1 : decode cX6_init 1 = .ok (.invokespecial 1, 3) := by decide +kernel
theorem dX6_init_4 : decode cX6_init 4 = .ok (.aload_n 0, 1) := by decide +kernel
theorem dX6_init_5 : decode cX6_init 5 = .ok (.iconst 0, 1) := by decide +kernel
theorem dX6_init_6 : decode cX6_init 6 = .ok (.iload_n 1, 1) := by decide +kernel
theorem dX6_init_7 : decode cX6_init 7 = .ok (.invokestatic 7, 3) := by decide +kernel
theorem dX6_init_10 : decode cX6_init 10 = .ok (.anewarray 13, 3) := by decide +kernel
theorem dX6_init_13 : decode cX6_init 13 = .ok (.putfield 15, 3) := by decide +kernel
theorem dX6_init_16 : decode cX6_init 16 = .ok (.iconst 0, 1) := by decide +kernel
theorem dX6_init_17 : decode cX6_init 17 = .ok (.istore_n 2, 1) := by decide +kernel
theorem dX6_init_18 : decode cX6_init 18 = .ok (.iload_n 2, 1) := by decide +kernel
theorem dX6_init_19 : decode cX6_init 19 = .ok (.aload_n 0, 1) := by decide +kernel
theorem dX6_init_20 : decode cX6_init 20 = .ok (.getfield 15, 3) := by decide +kernel
theorem dX6_init_23 : decode cX6_init 23 = .ok (.arraylength, 1) := by decide +kernel
theorem dX6_init_24 : decode cX6_init 24 = .ok (.if_icmp .ge 22, 3) := by decide +kernel
theorem dX6_init_27 : decode cX6_init 27 = .ok (.aload_n 0, 1) := by decide +kernel
theorem dX6_init_28 : decode cX6_init 28 = .ok (.getfield 15, 3) := by decide +kernel
theorem dX6_init_31 : decode cX6_init 31 = .ok (.iload_n 2, 1) := by decide +kernel
theorem dX6_init_32 : decode cX6_init 32 = .ok (.new 13, 3) := by decide +kernel
theorem dX6_init_35 : decode cX6_init 35 = .ok (.dup, 1) := by decide +kernel
theorem dX6_init_36 : decode cX6_init 36 = .ok (.invokespecial 21, 3) := by decide +kernel
theorem dX6_init_39 : decode cX6_init 39 = .ok (.aastore, 1) := by decide +kernel
theorem dX6_init_40 : decode cX6_init 40 = .ok (.iinc 2 1, 3) := by decide +kernel
theorem dX6_init_43 : decode cX6_init 43 = .ok (.goto (-25), 3) := by decide +kernel
theorem dX6_init_46 : decode cX6_init 46 = .ok (.return_, 1) := by decide +kernel
theorem dX6_size_0 : decode cX6_size 0 = .ok (.aload_n 0, 1) := by decide +kernel
theorem dX6_size_1 : decode cX6_size 1 = .ok (.getfield 22, 3) := by decide +kernel
theorem dX6_size_4 : decode cX6_size 4 = .ok (.ireturn, 1) := by decide +kernel
theorem dX6_isFull_0 : decode cX6_isFull 0 = .ok (.aload_n 0, 1) := by decide +kernel
theorem dX6_isFull_1 : decode cX6_isFull 1 = .ok (.getfield 22, 3) := by decide +kernel
theorem dX6_isFull_4 : decode cX6_isFull 4 = .ok (.aload_n 0, 1) := by decide +kernel
theorem dX6_isFull_5 : decode cX6_isFull 5 = .ok (.getfield 15, 3) := by decide +kernel
theorem dX6_isFull_8 : decode cX6_isFull 8 = .ok (.arraylength, 1) := by decide +kernel
theorem dX6_isFull_9 : decode cX6_isFull 9 = .ok (.if_icmp .lt 7, 3) := by decide +kernel
theorem dX6_isFull_12 : decode cX6_isFull 12 = .ok (.iconst 1, 1) := by decide +kernel
theorem dX6_isFull_13 : decode cX6_isFull 13 = .ok (.goto 4, 3) := by decide +kernel
theorem dX6_isFull_16 : decode cX6_isFull 16 = .ok (.iconst 0, 1) := by decide +kernel
theorem dX6_isFull_17 : decode cX6_isFull 17 = .ok (.ireturn, 1) := by decide +kernel
theorem dX6_clear_0 : decode cX6_clear 0 = .ok (.aload_n 0, 1) := by decide +kernel
theorem dX6_clear_1 : decode cX6_clear 1 = .ok (.iconst 0, 1) := by decide +kernel
theorem dX6_clear_2 : decode cX6_clear 2 = .ok (.putfield 22, 3) := by decide +kernel
theorem dX6_clear_5 : decode cX6_clear 5 = .ok (.return_, 1) := by decide +kernel
theorem dX6_add_0 : decode cX6_add 0 = .ok (.aload_n 0, 1) := by decide +kernel
theorem dX6_add_1 : decode cX6_add 1 = .ok (.invokevirtual 26, 3) := by decide +kernel
theorem dX6_add_4 : decode cX6_add 4 = .ok (.ifCond .eq 7, 3) := by decide +kernel
theorem dX6_add_7 : decode cX6_add 7 = .ok (.aload_n 0, 1) := by decide +kernel
theorem dX6_add_8 : decode cX6_add 8 = .ok (.invokevirtual 30, 3) := by decide +kernel
theorem dX6_add_11 : decode cX6_add 11 = .ok (.aload_n 0, 1) := by decide +kernel
theorem dX6_add_12 : decode cX6_add 12 = .ok (.aload_n 0, 1) := by decide +kernel
theorem dX6_add_13 : decode cX6_add 13 = .ok (.getfield 22, 3) := by decide +kernel
theorem dX6_add_16 : decode cX6_add 16 = .ok (.invokevirtual 33, 3) := by decide +kernel
theorem dX6_add_19 : decode cX6_add 19 = .ok (.astore_n 2, 1) := by decide +kernel
theorem dX6_add_20 : decode cX6_add 20 = .ok (.aload_n 2, 1) := by decide +kernel
theorem dX6_add_21 : decode cX6_add 21 = .ok (.ifnull 18, 3) := by decide +kernel
theorem dX6_add_24 : decode cX6_add 24 = .ok (.aload_n 2, 1) := by decide +kernel
theorem dX6_add_25 : decode cX6_add 25 = .ok (.aload_n 1, 1) := by decide +kernel
theorem dX6_add_26 : decode cX6_add 26 = .ok (.invokevirtual 37, 3) := by decide +kernel
theorem dX6_add_29 : decode cX6_add 29 = .ok (.aload_n 0, 1) := by decide +kernel
theorem dX6_add_30 : decode cX6_add 30 = .ok (.dup, 1) := by decide +kernel
theorem dX6_add_31 : decode cX6_add 31 = .ok (.getfield 22, 3) := by decide +kernel
theorem dX6_add_34 : decode cX6_add 34 = .ok (.iconst 1, 1) := by decide +kernel
theorem dX6_add_35 : decode cX6_add 35 = .ok (.iadd, 1) := by decide +kernel
theorem dX6_add_36 : decode cX6_add 36 = .ok (.putfield 22, 3) := by decide +kernel
theorem dX6_add_39 : decode cX6_add 39 = .ok (.return_, 1) := by decide +kernel
theorem dX6_takeLast_0 : decode cX6_takeLast 0 = .ok (.aload_n 0, 1) := by decide +kernel
theorem dX6_takeLast_1 : decode cX6_takeLast 1 = .ok (.aload_n 0, 1) := by decide +kernel
theorem dX6_takeLast_2 : decode cX6_takeLast 2 = .ok (.getfield 22, 3) := by decide +kernel
theorem dX6_takeLast_5 : decode cX6_takeLast 5 = .ok (.iconst 1, 1) := by decide +kernel
theorem dX6_takeLast_6 : decode cX6_takeLast 6 = .ok (.isub, 1) := by decide +kernel
theorem dX6_takeLast_7 : decode cX6_takeLast 7 = .ok (.invokevirtual 33, 3) := by decide +kernel
theorem dX6_takeLast_10 : decode cX6_takeLast 10 = .ok (.astore_n 2, 1) := by decide +kernel
theorem dX6_takeLast_11 : decode cX6_takeLast 11 = .ok (.aload_n 2, 1) := by decide +kernel
theorem dX6_takeLast_12 : decode cX6_takeLast 12 = .ok (.ifnull 18, 3) := by decide +kernel
theorem dX6_takeLast_15 : decode cX6_takeLast 15 = .ok (.aload_n 1, 1) := by decide +kernel
theorem dX6_takeLast_16 : decode cX6_takeLast 16 = .ok (.aload_n 2, 1) := by decide +kernel
theorem dX6_takeLast_17 : decode cX6_takeLast 17 = .ok (.invokevirtual 37, 3) := by decide +kernel
theorem dX6_takeLast_20 : decode cX6_takeLast 20 = .ok (.aload_n 0, 1) := by decide +kernel
theorem dX6_takeLast_21 : decode cX6_takeLast 21 = .ok (.dup, 1) := by decide +kernel
theorem dX6_takeLast_22 : decode cX6_takeLast 22 = .ok (.getfield 22, 3) := by decide +kernel
theorem dX6_takeLast_25 : decode cX6_takeLast 25 = .ok (.iconst 1, 1) := by decide +kernel
theorem dX6_takeLast_26 : decode cX6_takeLast 26 = .ok (.isub, 1) := by decide +kernel
theorem dX6_takeLast_27 : decode cX6_takeLast 27 = .ok (.putfield 22, 3) := by decide +kernel
theorem dX6_takeLast_30 : decode cX6_takeLast 30 = .ok (.return_, 1) := by decide +kernel
theorem dX6_placeAt_0 : decode cX6_placeAt 0 = .ok (.iload_n 1, 1) := by decide +kernel
theorem dX6_placeAt_1 : decode cX6_placeAt 1 = .ok (.ifCond .lt 21, 3) := by decide +kernel
theorem dX6_placeAt_4 : decode cX6_placeAt 4 = .ok (.iload_n 1, 1) := by decide +kernel
theorem dX6_placeAt_5 : decode cX6_placeAt 5 = .ok (.aload_n 0, 1) := by decide +kernel
theorem dX6_placeAt_6 : decode cX6_placeAt 6 = .ok (.getfield 15, 3) := by decide +kernel
theorem dX6_placeAt_9 : decode cX6_placeAt 9 = .ok (.arraylength, 1) := by decide +kernel
theorem dX6_placeAt_10 : decode cX6_placeAt 10 = .ok (.if_icmp .ge 12, 3) := by decide +kernel
theorem dX6_placeAt_13 : decode cX6_placeAt 13 = .ok (.aload_n 0, 1) := by decide +kernel
theorem dX6_placeAt_14 : decode cX6_placeAt 14 = .ok (.getfield 15, 3) := by decide +kernel
theorem dX6_placeAt_17 : decode cX6_placeAt 17 = .ok (.iload_n 1, 1) := by decide +kernel
theorem dX6_placeAt_18 : decode cX6_placeAt 18 = .ok (.aaload, 1) := by decide +kernel
theorem dX6_placeAt_19 : decode cX6_placeAt 19 = .ok (.goto 4, 3) := by decide +kernel
theorem dX6_placeAt_22 : decode cX6_placeAt 22 = .ok (.aconst_null, 1) := by decide +kernel
theorem dX6_placeAt_23 : decode cX6_placeAt 23 = .ok (.areturn, 1) := by decide +kernel
theorem dX6_dropOldest_0 : decode cX6_dropOldest 0 = .ok (.aload_n 0, 1) := by decide +kernel
theorem dX6_dropOldest_1 : decode cX6_dropOldest 1 = .ok (.getfield 15, 3) := by decide +kernel
theorem dX6_dropOldest_4 : decode cX6_dropOldest 4 = .ok (.arraylength, 1) := by decide +kernel
theorem dX6_dropOldest_5 : decode cX6_dropOldest 5 = .ok (.ifCond .ne 4, 3) := by decide +kernel
theorem dX6_dropOldest_8 : decode cX6_dropOldest 8 = .ok (.return_, 1) := by decide +kernel
theorem dX6_dropOldest_9 : decode cX6_dropOldest 9 = .ok (.aload_n 0, 1) := by decide +kernel
theorem dX6_dropOldest_10 : decode cX6_dropOldest 10 = .ok (.getfield 15, 3) := by decide +kernel
theorem dX6_dropOldest_13 : decode cX6_dropOldest 13 = .ok (.iconst 0, 1) := by decide +kernel
theorem dX6_dropOldest_14 : decode cX6_dropOldest 14 = .ok (.aaload, 1) := by decide +kernel
theorem dX6_dropOldest_15 : decode cX6_dropOldest 15 = .ok (.astore_n 1, 1) := by decide +kernel
theorem dX6_dropOldest_16 : decode cX6_dropOldest 16 = .ok (.iconst 1, 1) := by decide +kernel
theorem dX6_dropOldest_17 : decode cX6_dropOldest 17 = .ok (.istore_n 2, 1) := by decide +kernel
theorem dX6_dropOldest_18 : decode cX6_dropOldest 18 = .ok (.iload_n 2, 1) := by decide +kernel
theorem dX6_dropOldest_19 : decode cX6_dropOldest 19 = .ok (.aload_n 0, 1) := by decide +kernel
theorem dX6_dropOldest_20 : decode cX6_dropOldest 20 = .ok (.getfield 15, 3) := by decide +kernel
theorem dX6_dropOldest_23 : decode cX6_dropOldest 23 = .ok (.arraylength, 1) := by decide +kernel
theorem dX6_dropOldest_24 : decode cX6_dropOldest 24 = .ok (.if_icmp .ge 23, 3) := by decide +kernel
theorem dX6_dropOldest_27 : decode cX6_dropOldest 27 = .ok (.aload_n 0, 1) := by decide +kernel
theorem dX6_dropOldest_28 : decode cX6_dropOldest 28 = .ok (.getfield 15, 3) := by decide +kernel
theorem dX6_dropOldest_31 : decode cX6_dropOldest 31 = .ok (.iload_n 2, 1) := by decide +kernel
theorem dX6_dropOldest_32 : decode cX6_dropOldest 32 = .ok (.iconst 1, 1) := by decide +kernel
theorem dX6_dropOldest_33 : decode cX6_dropOldest 33 = .ok (.isub, 1) := by decide +kernel
theorem dX6_dropOldest_34 : decode cX6_dropOldest 34 = .ok (.aload_n 0, 1) := by decide +kernel
theorem dX6_dropOldest_35 : decode cX6_dropOldest 35 = .ok (.getfield 15, 3) := by decide +kernel
theorem dX6_dropOldest_38 : decode cX6_dropOldest 38 = .ok (.iload_n 2, 1) := by decide +kernel
theorem dX6_dropOldest_39 : decode cX6_dropOldest 39 = .ok (.aaload, 1) := by decide +kernel
theorem dX6_dropOldest_40 : decode cX6_dropOldest 40 = .ok (.aastore, 1) := by decide +kernel
theorem dX6_dropOldest_41 : decode cX6_dropOldest 41 = .ok (.iinc 2 1, 3) := by decide +kernel
theorem dX6_dropOldest_44 : decode cX6_dropOldest 44 = .ok (.goto (-26), 3) := by decide +kernel
theorem dX6_dropOldest_47 : decode cX6_dropOldest 47 = .ok (.aload_n 0, 1) := by decide +kernel
theorem dX6_dropOldest_48 : decode cX6_dropOldest 48 = .ok (.getfield 15, 3) := by decide +kernel
theorem dX6_dropOldest_51 : decode cX6_dropOldest 51 = .ok (.aload_n 0, 1) := by decide +kernel
theorem dX6_dropOldest_52 : decode cX6_dropOldest 52 = .ok (.getfield 15, 3) := by decide +kernel
theorem dX6_dropOldest_55 : decode cX6_dropOldest 55 = .ok (.arraylength, 1) := by decide +kernel
theorem dX6_dropOldest_56 : decode cX6_dropOldest 56 = .ok (.iconst 1, 1) := by decide +kernel
theorem dX6_dropOldest_57 : decode cX6_dropOldest 57 = .ok (.isub, 1) := by decide +kernel
theorem dX6_dropOldest_58 : decode cX6_dropOldest 58 = .ok (.aload_n 1, 1) := by decide +kernel
theorem dX6_dropOldest_59 : decode cX6_dropOldest 59 = .ok (.aastore, 1) := by decide +kernel
theorem dX6_dropOldest_60 : decode cX6_dropOldest 60 = .ok (.aload_n 0, 1) := by decide +kernel
theorem dX6_dropOldest_61 : decode cX6_dropOldest 61 = .ok (.iconst 0, 1) := by decide +kernel
theorem dX6_dropOldest_62 : decode cX6_dropOldest 62 = .ok (.aload_n 0, 1) := by decide +kernel
theorem dX6_dropOldest_63 : decode cX6_dropOldest 63 = .ok (.getfield 22, 3) := by decide +kernel
theorem dX6_dropOldest_66 : decode cX6_dropOldest 66 = .ok (.iconst 1, 1) := by decide +kernel
theorem dX6_dropOldest_67 : decode cX6_dropOldest 67 = .ok (.isub, 1) := by decide +kernel
theorem dX6_dropOldest_68 : decode cX6_dropOldest 68 = .ok (.invokestatic 7, 3) := by decide +kernel
theorem dX6_dropOldest_71 : decode cX6_dropOldest 71 = .ok (.putfield 22, 3) := by decide +kernel
theorem dX6_dropOldest_74 : decode cX6_dropOldest 74 = .ok (.return_, 1) := by decide +kernel
theorem dX7_init_0 : decode cX7_init 0 = .ok (.aload_n 0, 1) := by decide +kernel
theorem dX7_init_1 : decode cX7_init 1 = .ok (.invokespecial 1, 3) := by decide +kernel
theorem dX7_init_4 : decode cX7_init 4 = .ok (.aload_n 0, 1) := by decide +kernel
theorem dX7_init_5 : decode cX7_init 5 = .ok (.new 7, 3) := by decide +kernel
theorem dX7_init_8 : decode cX7_init 8 = .ok (.dup, 1) := by decide +kernel
theorem dX7_init_9 : decode cX7_init 9 = .ok (.sipush 200, 3) := by decide +kernel
theorem dX7_init_12 : decode cX7_init 12 = .ok (.invokespecial 11, 3) := by decide +kernel
theorem dX7_init_15 : decode cX7_init 15 = .ok (.putfield 14, 3) := by decide +kernel
theorem dX7_init_18 : decode cX7_init 18 = .ok (.aload_n 0, 1) := by decide +kernel
theorem dX7_init_19 : decode cX7_init 19 = .ok (.new 18, 3) := by decide +kernel
theorem dX7_init_22 : decode cX7_init 22 = .ok (.dup, 1) := by decide +kernel
theorem dX7_init_23 : decode cX7_init 23 = .ok (.invokespecial 20, 3) := by decide +kernel
theorem dX7_init_26 : decode cX7_init 26 = .ok (.putfield 21, 3) := by decide +kernel
theorem dX7_init_29 : decode cX7_init 29 = .ok (.aload_n 0, 1) := by decide +kernel
theorem dX7_init_30 : decode cX7_init 30 = .ok (.new 25, 3) := by decide +kernel
theorem dX7_init_33 : decode cX7_init 33 = .ok (.dup, 1) := by decide +kernel
theorem dX7_init_34 : decode cX7_init 34 = .ok (.aload_n 0, 1) := by decide +kernel
theorem dX7_init_35 : decode cX7_init 35 = .ok (.getfield 14, 3) := by decide +kernel
theorem dX7_init_38 : decode cX7_init 38 = .ok (.aload_n 0, 1) := by decide +kernel
theorem dX7_init_39 : decode cX7_init 39 = .ok (.getfield 21, 3) := by decide +kernel
theorem dX7_init_42 : decode cX7_init 42 = .ok (.invokespecial 27, 3) := by decide +kernel
theorem dX7_init_45 : decode cX7_init 45 = .ok (.putfield 30, 3) := by decide +kernel
theorem dX7_init_48 : decode cX7_init 48 = .ok (.aload_n 0, 1) := by decide +kernel
theorem dX7_init_49 : decode cX7_init 49 = .ok (.new 18, 3) := by decide +kernel
theorem dX7_init_52 : decode cX7_init 52 = .ok (.dup, 1) := by decide +kernel
theorem dX7_init_53 : decode cX7_init 53 = .ok (.invokespecial 20, 3) := by decide +kernel
theorem dX7_init_56 : decode cX7_init 56 = .ok (.putfield 34, 3) := by decide +kernel
theorem dX7_init_59 : decode cX7_init 59 = .ok (.aload_n 0, 1) := by decide +kernel
theorem dX7_init_60 : decode cX7_init 60 = .ok (.new 37, 3) := by decide +kernel
theorem dX7_init_63 : decode cX7_init 63 = .ok (.dup, 1) := by decide +kernel
theorem dX7_init_64 : decode cX7_init 64 = .ok (.invokespecial 39, 3) := by decide +kernel
theorem dX7_init_67 : decode cX7_init 67 = .ok (.putfield 40, 3) := by decide +kernel
theorem dX7_init_70 : decode cX7_init 70 = .ok (.aload_n 0, 1) := by decide +kernel
theorem dX7_init_71 : decode cX7_init 71 = .ok (.new 44, 3) := by decide +kernel
theorem dX7_init_74 : decode cX7_init 74 = .ok (.dup, 1) := by decide +kernel
theorem dX7_init_75 : decode cX7_init 75 = .ok (.bipush 8, 2) := by decide +kernel
theorem dX7_init_77 : decode cX7_init 77 = .ok (.invokespecial 46, 3) := by decide +kernel
theorem dX7_init_80 : decode cX7_init 80 = .ok (.putfield 47, 3) := by decide +kernel
theorem dX7_init_83 : decode cX7_init 83 = .ok (.aload_n 0, 1) := by decide +kernel
theorem dX7_init_84 : decode cX7_init 84 = .ok (.new 44, 3) := by decide +kernel
theorem dX7_init_87 : decode cX7_init 87 = .ok (.dup, 1) := by decide +kernel
theorem dX7_init_88 : decode cX7_init 88 = .ok (.iconst 2, 1) := by decide +kernel
theorem dX7_init_89 : decode cX7_init 89 = .ok (.invokespecial 46, 3) := by decide +kernel
theorem dX7_init_92 : decode cX7_init 92 = .ok (.putfield 51, 3) := by decide +kernel
theorem dX7_init_95 : decode cX7_init 95 = .ok (.aload_n 0, 1) := by decide +kernel
theorem dX7_init_96 : decode cX7_init 96 = .ok (.new 7, 3) := by decide +kernel
theorem dX7_init_99 : decode cX7_init 99 = .ok (.dup, 1) := by decide +kernel
theorem dX7_init_100 : decode cX7_init 100 = .ok (.bipush 8, 2) := by decide +kernel
theorem dX7_init_102 : decode cX7_init 102 = .ok (.invokespecial 11, 3) := by decide +kernel
theorem dX7_init_105 : decode cX7_init 105 = .ok (.putfield 54, 3) := by decide +kernel
theorem dX7_init_108 : decode cX7_init 108 = .ok (.aload_n 0, 1) := by decide +kernel
theorem dX7_init_109 : decode cX7_init 109 = .ok (.new 7, 3) := by decide +kernel
theorem dX7_init_112 : decode cX7_init 112 = .ok (.dup, 1) := by decide +kernel
theorem dX7_init_113 : decode cX7_init 113 = .ok (.bipush 60, 2) := by decide +kernel
theorem dX7_init_115 : decode cX7_init 115 = .ok (.invokespecial 11, 3) := by decide +kernel
theorem dX7_init_118 : decode cX7_init 118 = .ok (.putfield 57, 3) := by decide +kernel
theorem dX7_init_121 : decode cX7_init 121 = .ok (.aload_n 0, 1) := by decide +kernel
theorem dX7_init_122 : decode cX7_init 122 = .ok (.new 7, 3) := by decide +kernel
theorem dX7_init_125 : decode cX7_init 125 = .ok (.dup, 1) := by decide +kernel
theorem dX7_init_126 : decode cX7_init 126 = .ok (.bipush 6, 2) := by decide +kernel
theorem dX7_init_128 : decode cX7_init 128 = .ok (.invokespecial 11, 3) := by decide +kernel
theorem dX7_init_131 : decode cX7_init 131 = .ok (.putfield 60, 3) := by decide +kernel
theorem dX7_init_134 : decode cX7_init 134 = .ok (.aconst_null, 1) := by decide +kernel
theorem dX7_init_135 : decode cX7_init 135 = .ok (.astore_n 1, 1) := by decide +kernel
theorem dX7_init_136 : decode cX7_init 136 = .ok (.iconst 0, 1) := by decide +kernel
theorem dX7_init_137 : decode cX7_init 137 = .ok (.istore_n 2, 1) := by decide +kernel
theorem dX7_init_138 : decode cX7_init 138 = .ok (.iload_n 2, 1) := by decide +kernel
theorem dX7_init_139 : decode cX7_init 139 = .ok (.bipush 7, 2) := by decide +kernel
theorem dX7_init_141 : decode cX7_init 141 = .ok (.if_icmp .gt 22, 3) := by decide +kernel
theorem dX7_init_144 : decode cX7_init 144 = .ok (.new 63, 3) := by decide +kernel
theorem dX7_init_147 : decode cX7_init 147 = .ok (.dup, 1) := by decide +kernel
theorem dX7_init_148 : decode cX7_init 148 = .ok (.aload_n 0, 1) := by decide +kernel
theorem dX7_init_149 : decode cX7_init 149 = .ok (.getfield 34, 3) := by decide +kernel
theorem dX7_init_152 : decode cX7_init 152 = .ok (.aload_n 1, 1) := by decide +kernel
theorem dX7_init_153 : decode cX7_init 153 = .ok (.invokespecial 65, 3) := by decide +kernel
theorem dX7_init_156 : decode cX7_init 156 = .ok (.astore_n 1, 1) := by decide +kernel
theorem dX7_init_157 : decode cX7_init 157 = .ok (.iinc 2 1, 3) := by decide +kernel
theorem dX7_init_160 : decode cX7_init 160 = .ok (.goto (-22), 3) := by decide +kernel
theorem dX7_init_163 : decode cX7_init 163 = .ok (.aload_n 0, 1) := by decide +kernel
theorem dX7_init_164 : decode cX7_init 164 = .ok (.aload_n 1, 1) := by decide +kernel
theorem dX7_init_165 : decode cX7_init 165 = .ok (.putfield 68, 3) := by decide +kernel
theorem dX7_init_168 : decode cX7_init 168 = .ok (.aload_n 0, 1) := by decide +kernel
theorem dX7_init_169 : decode cX7_init 169 = .ok (.new 72, 3) := by decide +kernel
theorem dX7_init_172 : decode cX7_init 172 = .ok (.dup, 1) := by decide +kernel
theorem dX7_init_173 : decode cX7_init 173 = .ok (.aload_n 0, 1) := by decide +kernel
theorem dX7_init_174 : decode cX7_init 174 = .ok (.getfield 34, 3) := by decide +kernel
theorem dX7_init_177 : decode cX7_init 177 = .ok (.invokespecial 74, 3) := by decide +kernel
theorem dX7_init_180 : decode cX7_init 180 = .ok (.putfield 77, 3) := by decide +kernel
theorem dX7_init_183 : decode cX7_init 183 = .ok (.iconst 0, 1) := by decide +kernel
theorem dX7_init_184 : decode cX7_init 184 = .ok (.istore_n 2, 1) := by decide +kernel
theorem dX7_init_185 : decode cX7_init 185 = .ok (.iload_n 2, 1) := by decide +kernel
theorem dX7_init_186 : decode cX7_init 186 = .ok (.ldc 81, 2) := by decide +kernel
theorem dX7_init_188 : decode cX7_init 188 = .ok (.invokevirtual 83, 3) := by decide +kernel
theorem dX7_init_191 : decode cX7_init 191 = .ok (.if_icmp .ge 22, 3) := by decide +kernel
theorem dX7_init_194 : decode cX7_init 194 = .ok (.aload_n 0, 1) := by decide +kernel
theorem dX7_init_195 : decode cX7_init 195 = .ok (.getfield 14, 3) := by decide +kernel
theorem dX7_init_198 : decode cX7_init 198 = .ok (.ldc 81, 2) := by decide +kernel
theorem dX7_init_200 : decode cX7_init 200 = .ok (.iload_n 2, 1) := by decide +kernel
theorem dX7_init_201 : decode cX7_init 201 = .ok (.invokevirtual 89, 3) := by decide +kernel
theorem dX7_init_204 : decode cX7_init 204 = .ok (.invokevirtual 93, 3) := by decide +kernel
theorem dX7_init_207 : decode cX7_init 207 = .ok (.iinc 2 1, 3) := by decide +kernel
theorem dX7_init_210 : decode cX7_init 210 = .ok (.goto (-25), 3) := by decide +kernel
theorem dX7_init_213 : decode cX7_init 213 = .ok (.aload_n 0, 1) := by decide +kernel
theorem dX7_init_214 : decode cX7_init 214 = .ok (.getfield 30, 3) := by decide +kernel
theorem dX7_init_217 : decode cX7_init 217 = .ok (.invokevirtual 96, 3) := by decide +kernel
theorem dX7_init_220 : decode cX7_init 220 = .ok (.pop, 1) := by decide +kernel
theorem dX7_init_221 : decode cX7_init 221 = .ok (.aload_n 0, 1) := by decide +kernel
theorem dX7_init_222 : decode cX7_init 222 = .ok (.getfield 34, 3) := by decide +kernel
theorem dX7_init_225 : decode cX7_init 225 = .ok (.aload_n 0, 1) := by decide +kernel
theorem dX7_init_226 : decode cX7_init 226 = .ok (.getfield 21, 3) := by decide +kernel
theorem dX7_init_229 : decode cX7_init 229 = .ok (.invokevirtual 99, 3) := by decide +kernel
theorem dX7_init_232 : decode cX7_init 232 = .ok (.aload_n 0, 1) := by decide +kernel
theorem dX7_init_233 : decode cX7_init 233 = .ok (.getfield 14, 3) := by decide +kernel
theorem dX7_init_236 : decode cX7_init 236 = .ok (.invokevirtual 102, 3) := by decide +kernel
theorem dX7_init_239 : decode cX7_init 239 = .ok (.return_, 1) := by decide +kernel
theorem dX7_write_0 : decode cX7_write 0 = .ok (.iload_n 1, 1) := by decide +kernel
theorem dX7_write_1 : decode cX7_write 1 = .ok (.bipush 32, 2) := by decide +kernel
theorem dX7_write_3 : decode cX7_write 3 = .ok (.bipush 126, 2) := by decide +kernel
theorem dX7_write_5 : decode cX7_write 5 = .ok (.invokestatic 105, 3) := by decide +kernel
theorem dX7_write_8 : decode cX7_write 8 = .ok (.ifCond .ne 5, 3) := by decide +kernel
theorem dX7_write_11 : decode cX7_write 11 = .ok (.iconst (-1), 1) := by decide +kernel
theorem dX7_write_12 : decode cX7_write 12 = .ok (.ireturn, 1) := by decide +kernel
theorem dX7_write_13 : decode cX7_write 13 = .ok (.aload_n 0, 1) := by decide +kernel
theorem dX7_write_14 : decode cX7_write 14 = .ok (.getfield 14, 3) := by decide +kernel
theorem dX7_write_17 : decode cX7_write 17 = .ok (.invokevirtual 109, 3) := by decide +kernel
theorem dX7_write_20 : decode cX7_write 20 = .ok (.ifCond .eq 6, 3) := by decide +kernel
theorem dX7_write_23 : decode cX7_write 23 = .ok (.bipush (-3), 2) := by decide +kernel
theorem dX7_write_25 : decode cX7_write 25 = .ok (.ireturn, 1) := by decide +kernel
theorem dX7_write_26 : decode cX7_write 26 = .ok (.aload_n 0, 1) := by decide +kernel
theorem dX7_write_27 : decode cX7_write 27 = .ok (.getfield 14, 3) := by decide +kernel
theorem dX7_write_30 : decode cX7_write 30 = .ok (.iload_n 1, 1) := by decide +kernel
theorem dX7_write_31 : decode cX7_write 31 = .ok (.invokevirtual 93, 3) := by decide +kernel
theorem dX7_write_34 : decode cX7_write 34 = .ok (.aload_n 0, 1) := by decide +kernel
theorem dX7_write_35 : decode cX7_write 35 = .ok (.getfield 14, 3) := by decide +kernel
theorem dX7_write_38 : decode cX7_write 38 = .ok (.invokevirtual 113, 3) := by decide +kernel
theorem dX7_write_41 : decode cX7_write 41 = .ok (.ireturn, 1) := by decide +kernel
theorem dX7_wipe_0 : decode cX7_wipe 0 = .ok (.aload_n 0, 1) := by decide +kernel
theorem dX7_wipe_1 : decode cX7_wipe 1 = .ok (.getfield 14, 3) := by decide +kernel
theorem dX7_wipe_4 : decode cX7_wipe 4 = .ok (.invokevirtual 113, 3) := by decide +kernel
theorem dX7_wipe_7 : decode cX7_wipe 7 = .ok (.istore_n 1, 1) := by decide +kernel
theorem dX7_wipe_8 : decode cX7_wipe 8 = .ok (.aload_n 0, 1) := by decide +kernel
theorem dX7_wipe_9 : decode cX7_wipe 9 = .ok (.getfield 14, 3) := by decide +kernel
theorem dX7_wipe_12 : decode cX7_wipe 12 = .ok (.invokevirtual 102, 3) := by decide +kernel
theorem dX7_wipe_15 : decode cX7_wipe 15 = .ok (.iload_n 1, 1) := by decide +kernel
theorem dX7_wipe_16 : decode cX7_wipe 16 = .ok (.ireturn, 1) := by decide +kernel
theorem dX7_fault_0 : decode cX7_fault 0 = .ok (.aload_n 0, 1) := by decide +kernel
theorem dX7_fault_1 : decode cX7_fault 1 = .ok (.getfield 30, 3) := by decide +kernel
theorem dX7_fault_4 : decode cX7_fault 4 = .ok (.invokevirtual 96, 3) := by decide +kernel
theorem dX7_fault_7 : decode cX7_fault 7 = .ok (.ireturn, 1) := by decide +kernel
theorem dX7_lay_0 : decode cX7_lay 0 = .ok (.aload_n 0, 1) := by decide +kernel
theorem dX7_lay_1 : decode cX7_lay 1 = .ok (.getfield 30, 3) := by decide +kernel
theorem dX7_lay_4 : decode cX7_lay 4 = .ok (.invokevirtual 96, 3) := by decide +kernel
theorem dX7_lay_7 : decode cX7_lay 7 = .ok (.bipush (-4), 2) := by decide +kernel
theorem dX7_lay_9 : decode cX7_lay 9 = .ok (.if_icmp .ne 13, 3) := by decide +kernel
theorem dX7_lay_12 : decode cX7_lay 12 = .ok (.aload_n 0, 1) := by decide +kernel
theorem dX7_lay_13 : decode cX7_lay 13 = .ok (.getfield 21, 3) := by decide +kernel
theorem dX7_lay_16 : decode cX7_lay 16 = .ok (.invokevirtual 116, 3) := by decide +kernel
theorem dX7_lay_19 : decode cX7_lay 19 = .ok (.ifCond .ne 6, 3) := by decide +kernel
theorem dX7_lay_22 : decode cX7_lay 22 = .ok (.bipush (-2), 2) := by decide +kernel
theorem dX7_lay_24 : decode cX7_lay 24 = .ok (.ireturn, 1) := by decide +kernel
theorem dX7_lay_25 : decode cX7_lay 25 = .ok (.aload_n 0, 1) := by decide +kernel
theorem dX7_lay_26 : decode cX7_lay 26 = .ok (.getfield 34, 3) := by decide +kernel
theorem dX7_lay_29 : decode cX7_lay 29 = .ok (.aload_n 0, 1) := by decide +kernel
theorem dX7_lay_30 : decode cX7_lay 30 = .ok (.getfield 21, 3) := by decide +kernel
theorem dX7_lay_33 : decode cX7_lay 33 = .ok (.invokevirtual 99, 3) := by decide +kernel
theorem dX7_lay_36 : decode cX7_lay 36 = .ok (.aload_n 0, 1) := by decide +kernel
theorem dX7_lay_37 : decode cX7_lay 37 = .ok (.getfield 40, 3) := by decide +kernel
theorem dX7_lay_40 : decode cX7_lay 40 = .ok (.invokevirtual 119, 3) := by decide +kernel
theorem dX7_lay_43 : decode cX7_lay 43 = .ok (.aload_n 0, 1) := by decide +kernel
theorem dX7_lay_44 : decode cX7_lay 44 = .ok (.getfield 47, 3) := by decide +kernel
theorem dX7_lay_47 : decode cX7_lay 47 = .ok (.invokevirtual 120, 3) := by decide +kernel
theorem dX7_lay_50 : decode cX7_lay 50 = .ok (.aload_n 0, 1) := by decide +kernel
theorem dX7_lay_51 : decode cX7_lay 51 = .ok (.getfield 51, 3) := by decide +kernel
theorem dX7_lay_54 : decode cX7_lay 54 = .ok (.invokevirtual 120, 3) := by decide +kernel
theorem dX7_lay_57 : decode cX7_lay 57 = .ok (.aload_n 0, 1) := by decide +kernel
theorem dX7_lay_58 : decode cX7_lay 58 = .ok (.getfield 54, 3) := by decide +kernel
theorem dX7_lay_61 : decode cX7_lay 61 = .ok (.invokevirtual 102, 3) := by decide +kernel
theorem dX7_lay_64 : decode cX7_lay 64 = .ok (.aload_n 0, 1) := by decide +kernel
theorem dX7_lay_65 : decode cX7_lay 65 = .ok (.getfield 34, 3) := by decide +kernel
theorem dX7_lay_68 : decode cX7_lay 68 = .ok (.invokevirtual 116, 3) := by decide +kernel
theorem dX7_lay_71 : decode cX7_lay 71 = .ok (.ireturn, 1) := by decide +kernel
theorem dX7_kind_0 : decode cX7_kind 0 = .ok (.aload_n 0, 1) := by decide +kernel
theorem dX7_kind_1 : decode cX7_kind 1 = .ok (.getfield 34, 3) := by decide +kernel
theorem dX7_kind_4 : decode cX7_kind 4 = .ok (.iload_n 1, 1) := by decide +kernel
theorem dX7_kind_5 : decode cX7_kind 5 = .ok (.invokevirtual 121, 3) := by decide +kernel
theorem dX7_kind_8 : decode cX7_kind 8 = .ok (.ifCond .ne 5, 3) := by decide +kernel
theorem dX7_kind_11 : decode cX7_kind 11 = .ok (.iconst (-1), 1) := by decide +kernel
theorem dX7_kind_12 : decode cX7_kind 12 = .ok (.ireturn, 1) := by decide +kernel
theorem dX7_kind_13 : decode cX7_kind 13 = .ok (.iload_n 2, 1) := by decide +kernel
theorem dX7_kind_14 : decode cX7_kind 14 = .ok (.tableswitch 110 0 5 #[38, 50, 62, 74, 86, 98], 38) := by decide +kernel
theorem dX7_kind_52 : decode cX7_kind 52 = .ok (.aload_n 0, 1) := by decide +kernel
theorem dX7_kind_53 : decode cX7_kind 53 = .ok (.getfield 34, 3) := by decide +kernel
theorem dX7_kind_56 : decode cX7_kind 56 = .ok (.getfield 125, 3) := by decide +kernel
theorem dX7_kind_59 : decode cX7_kind 59 = .ok (.iload_n 1, 1) := by decide +kernel
theorem dX7_kind_60 : decode cX7_kind 60 = .ok (.invokevirtual 128, 3) := by decide +kernel
theorem dX7_kind_63 : decode cX7_kind 63 = .ok (.ireturn, 1) := by decide +kernel
theorem dX7_kind_64 : decode cX7_kind 64 = .ok (.aload_n 0, 1) := by decide +kernel
theorem dX7_kind_65 : decode cX7_kind 65 = .ok (.getfield 34, 3) := by decide +kernel
theorem dX7_kind_68 : decode cX7_kind 68 = .ok (.getfield 132, 3) := by decide +kernel
theorem dX7_kind_71 : decode cX7_kind 71 = .ok (.iload_n 1, 1) := by decide +kernel
theorem dX7_kind_72 : decode cX7_kind 72 = .ok (.invokevirtual 128, 3) := by decide +kernel
theorem dX7_kind_75 : decode cX7_kind 75 = .ok (.ireturn, 1) := by decide +kernel
theorem dX7_kind_76 : decode cX7_kind 76 = .ok (.aload_n 0, 1) := by decide +kernel
theorem dX7_kind_77 : decode cX7_kind 77 = .ok (.getfield 34, 3) := by decide +kernel
theorem dX7_kind_80 : decode cX7_kind 80 = .ok (.getfield 135, 3) := by decide +kernel
theorem dX7_kind_83 : decode cX7_kind 83 = .ok (.iload_n 1, 1) := by decide +kernel
theorem dX7_kind_84 : decode cX7_kind 84 = .ok (.invokevirtual 128, 3) := by decide +kernel
theorem dX7_kind_87 : decode cX7_kind 87 = .ok (.ireturn, 1) := by decide +kernel
theorem dX7_kind_88 : decode cX7_kind 88 = .ok (.aload_n 0, 1) := by decide +kernel
theorem dX7_kind_89 : decode cX7_kind 89 = .ok (.getfield 34, 3) := by decide +kernel
theorem dX7_kind_92 : decode cX7_kind 92 = .ok (.getfield 138, 3) := by decide +kernel
theorem dX7_kind_95 : decode cX7_kind 95 = .ok (.iload_n 1, 1) := by decide +kernel
theorem dX7_kind_96 : decode cX7_kind 96 = .ok (.invokevirtual 128, 3) := by decide +kernel
theorem dX7_kind_99 : decode cX7_kind 99 = .ok (.ireturn, 1) := by decide +kernel
theorem dX7_kind_100 : decode cX7_kind 100 = .ok (.aload_n 0, 1) := by decide +kernel
theorem dX7_kind_101 : decode cX7_kind 101 = .ok (.getfield 34, 3) := by decide +kernel
theorem dX7_kind_104 : decode cX7_kind 104 = .ok (.getfield 141, 3) := by decide +kernel
theorem dX7_kind_107 : decode cX7_kind 107 = .ok (.iload_n 1, 1) := by decide +kernel
theorem dX7_kind_108 : decode cX7_kind 108 = .ok (.invokevirtual 128, 3) := by decide +kernel
theorem dX7_kind_111 : decode cX7_kind 111 = .ok (.ireturn, 1) := by decide +kernel
theorem dX7_kind_112 : decode cX7_kind 112 = .ok (.aload_n 0, 1) := by decide +kernel
theorem dX7_kind_113 : decode cX7_kind 113 = .ok (.getfield 40, 3) := by decide +kernel
theorem dX7_kind_116 : decode cX7_kind 116 = .ok (.getfield 144, 3) := by decide +kernel
theorem dX7_kind_119 : decode cX7_kind 119 = .ok (.iload_n 1, 1) := by decide +kernel
theorem dX7_kind_120 : decode cX7_kind 120 = .ok (.invokevirtual 128, 3) := by decide +kernel
theorem dX7_kind_123 : decode cX7_kind 123 = .ok (.ireturn, 1) := by decide +kernel
theorem dX7_kind_124 : decode cX7_kind 124 = .ok (.iconst (-1), 1) := by decide +kernel
theorem dX7_kind_125 : decode cX7_kind 125 = .ok (.ireturn, 1) := by decide +kernel
theorem dX7_errand_0 : decode cX7_errand 0 = .ok (.iload_n 1, 1) := by decide +kernel
theorem dX7_errand_1 : decode cX7_errand 1 = .ok (.ifCond .ge 5, 3) := by decide +kernel
theorem dX7_errand_4 : decode cX7_errand 4 = .ok (.iconst (-1), 1) := by decide +kernel
theorem dX7_errand_5 : decode cX7_errand 5 = .ok (.ireturn, 1) := by decide +kernel
theorem dX7_errand_6 : decode cX7_errand 6 = .ok (.iload_n 1, 1) := by decide +kernel
theorem dX7_errand_7 : decode cX7_errand 7 = .ok (.aload_n 0, 1) := by decide +kernel
theorem dX7_errand_8 : decode cX7_errand 8 = .ok (.getfield 34, 3) := by decide +kernel
theorem dX7_errand_11 : decode cX7_errand 11 = .ok (.getfield 147, 3) := by decide +kernel
theorem dX7_errand_14 : decode cX7_errand 14 = .ok (.invokevirtual 113, 3) := by decide +kernel
theorem dX7_errand_17 : decode cX7_errand 17 = .ok (.if_icmp .ge 17, 3) := by decide +kernel
theorem dX7_errand_20 : decode cX7_errand 20 = .ok (.aload_n 0, 1) := by decide +kernel
theorem dX7_errand_21 : decode cX7_errand 21 = .ok (.getfield 34, 3) := by decide +kernel
theorem dX7_errand_24 : decode cX7_errand 24 = .ok (.getfield 147, 3) := by decide +kernel
theorem dX7_errand_27 : decode cX7_errand 27 = .ok (.iload_n 1, 1) := by decide +kernel
theorem dX7_errand_28 : decode cX7_errand 28 = .ok (.invokevirtual 128, 3) := by decide +kernel
theorem dX7_errand_31 : decode cX7_errand 31 = .ok (.goto 5, 3) := by decide +kernel
theorem dX7_errand_34 : decode cX7_errand 34 = .ok (.bipush (-4), 2) := by decide +kernel
theorem dX7_errand_36 : decode cX7_errand 36 = .ok (.ireturn, 1) := by decide +kernel
theorem dX7_word_0 : decode cX7_word 0 = .ok (.iload_n 1, 1) := by decide +kernel
theorem dX7_word_1 : decode cX7_word 1 = .ok (.ifCond .ge 5, 3) := by decide +kernel
theorem dX7_word_4 : decode cX7_word 4 = .ok (.iconst (-1), 1) := by decide +kernel
theorem dX7_word_5 : decode cX7_word 5 = .ok (.ireturn, 1) := by decide +kernel
theorem dX7_word_6 : decode cX7_word 6 = .ok (.aload_n 0, 1) := by decide +kernel
theorem dX7_word_7 : decode cX7_word 7 = .ok (.getfield 40, 3) := by decide +kernel
theorem dX7_word_10 : decode cX7_word 10 = .ok (.getfield 150, 3) := by decide +kernel
theorem dX7_word_13 : decode cX7_word 13 = .ok (.invokevirtual 113, 3) := by decide +kernel
theorem dX7_word_16 : decode cX7_word 16 = .ok (.istore_n 2, 1) := by decide +kernel
theorem dX7_word_17 : decode cX7_word 17 = .ok (.iload_n 1, 1) := by decide +kernel
theorem dX7_word_18 : decode cX7_word 18 = .ok (.iload_n 2, 1) := by decide +kernel
theorem dX7_word_19 : decode cX7_word 19 = .ok (.if_icmp .ge 21, 3) := by decide +kernel
theorem dX7_word_22 : decode cX7_word 22 = .ok (.aload_n 0, 1) := by decide +kernel
theorem dX7_word_23 : decode cX7_word 23 = .ok (.getfield 40, 3) := by decide +kernel
theorem dX7_word_26 : decode cX7_word 26 = .ok (.getfield 150, 3) := by decide +kernel
theorem dX7_word_29 : decode cX7_word 29 = .ok (.iload_n 2, 1) := by decide +kernel
theorem dX7_word_30 : decode cX7_word 30 = .ok (.iconst 1, 1) := by decide +kernel
theorem dX7_word_31 : decode cX7_word 31 = .ok (.isub, 1) := by decide +kernel
theorem dX7_word_32 : decode cX7_word 32 = .ok (.iload_n 1, 1) := by decide +kernel
theorem dX7_word_33 : decode cX7_word 33 = .ok (.isub, 1) := by decide +kernel
theorem dX7_word_34 : decode cX7_word 34 = .ok (.invokevirtual 128, 3) := by decide +kernel
theorem dX7_word_37 : decode cX7_word 37 = .ok (.goto 5, 3) := by decide +kernel
theorem dX7_word_40 : decode cX7_word 40 = .ok (.bipush (-4), 2) := by decide +kernel
theorem dX7_word_42 : decode cX7_word 42 = .ok (.ireturn, 1) := by decide +kernel
theorem dX7_unlike_0 : decode cX7_unlike 0 = .ok (.aload_n 0, 1) := by decide +kernel
theorem dX7_unlike_1 : decode cX7_unlike 1 = .ok (.getfield 34, 3) := by decide +kernel
theorem dX7_unlike_4 : decode cX7_unlike 4 = .ok (.iload_n 1, 1) := by decide +kernel
theorem dX7_unlike_5 : decode cX7_unlike 5 = .ok (.invokevirtual 121, 3) := by decide +kernel
theorem dX7_unlike_8 : decode cX7_unlike 8 = .ok (.ifCond .eq 14, 3) := by decide +kernel
theorem dX7_unlike_11 : decode cX7_unlike 11 = .ok (.aload_n 0, 1) := by decide +kernel
theorem dX7_unlike_12 : decode cX7_unlike 12 = .ok (.getfield 34, 3) := by decide +kernel
theorem dX7_unlike_15 : decode cX7_unlike 15 = .ok (.iload_n 2, 1) := by decide +kernel
theorem dX7_unlike_16 : decode cX7_unlike 16 = .ok (.invokevirtual 121, 3) := by decide +kernel
theorem dX7_unlike_19 : decode cX7_unlike 19 = .ok (.ifCond .ne 5, 3) := by decide +kernel
theorem dX7_unlike_22 : decode cX7_unlike 22 = .ok (.iconst (-1), 1) := by decide +kernel
theorem dX7_unlike_23 : decode cX7_unlike 23 = .ok (.ireturn, 1) := by decide +kernel
theorem dX7_unlike_24 : decode cX7_unlike 24 = .ok (.aload_n 0, 1) := by decide +kernel
theorem dX7_unlike_25 : decode cX7_unlike 25 = .ok (.getfield 34, 3) := by decide +kernel
theorem dX7_unlike_28 : decode cX7_unlike 28 = .ok (.getfield 125, 3) := by decide +kernel
theorem dX7_unlike_31 : decode cX7_unlike 31 = .ok (.iload_n 1, 1) := by decide +kernel
theorem dX7_unlike_32 : decode cX7_unlike 32 = .ok (.invokevirtual 128, 3) := by decide +kernel
theorem dX7_unlike_35 : decode cX7_unlike 35 = .ok (.aload_n 0, 1) := by decide +kernel
theorem dX7_unlike_36 : decode cX7_unlike 36 = .ok (.getfield 34, 3) := by decide +kernel
theorem dX7_unlike_39 : decode cX7_unlike 39 = .ok (.getfield 125, 3) := by decide +kernel
theorem dX7_unlike_42 : decode cX7_unlike 42 = .ok (.iload_n 2, 1) := by decide +kernel
theorem dX7_unlike_43 : decode cX7_unlike 43 = .ok (.invokevirtual 128, 3) := by decide +kernel
theorem dX7_unlike_46 : decode cX7_unlike 46 = .ok (.invokestatic 153, 3) := by decide +kernel
theorem dX7_unlike_49 : decode cX7_unlike 49 = .ok (.ireturn, 1) := by decide +kernel
theorem dX7_does_0 : decode cX7_does 0 = .ok (.iload_n 1, 1) := by decide +kernel
theorem dX7_does_1 : decode cX7_does 1 = .ok (.invokestatic 157, 3) := by decide +kernel
theorem dX7_does_4 : decode cX7_does 4 = .ok (.ifCond .eq 26, 3) := by decide +kernel
theorem dX7_does_7 : decode cX7_does 7 = .ok (.aload_n 0, 1) := by decide +kernel
theorem dX7_does_8 : decode cX7_does 8 = .ok (.getfield 34, 3) := by decide +kernel
theorem dX7_does_11 : decode cX7_does 11 = .ok (.iload_n 2, 1) := by decide +kernel
theorem dX7_does_12 : decode cX7_does 12 = .ok (.invokevirtual 121, 3) := by decide +kernel
theorem dX7_does_15 : decode cX7_does 15 = .ok (.ifCond .eq 15, 3) := by decide +kernel
theorem dX7_does_18 : decode cX7_does 18 = .ok (.aload_n 0, 1) := by decide +kernel
theorem dX7_does_19 : decode cX7_does 19 = .ok (.iload_n 1, 1) := by decide +kernel
theorem dX7_does_20 : decode cX7_does 20 = .ok (.invokevirtual 160, 3) := by decide +kernel
theorem dX7_does_23 : decode cX7_does 23 = .ok (.iload_n 2, 1) := by decide +kernel
theorem dX7_does_24 : decode cX7_does 24 = .ok (.invokevirtual 164, 3) := by decide +kernel
theorem dX7_does_27 : decode cX7_does 27 = .ok (.goto 4, 3) := by decide +kernel
theorem dX7_does_30 : decode cX7_does 30 = .ok (.iconst (-1), 1) := by decide +kernel
theorem dX7_does_31 : decode cX7_does 31 = .ok (.ireturn, 1) := by decide +kernel
theorem dX7_hand_0 : decode cX7_hand 0 = .ok (.aload_n 0, 1) := by decide +kernel
theorem dX7_hand_1 : decode cX7_hand 1 = .ok (.getfield 34, 3) := by decide +kernel
theorem dX7_hand_4 : decode cX7_hand 4 = .ok (.iload_n 1, 1) := by decide +kernel
theorem dX7_hand_5 : decode cX7_hand 5 = .ok (.invokevirtual 121, 3) := by decide +kernel
theorem dX7_hand_8 : decode cX7_hand 8 = .ok (.ifCond .ne 5, 3) := by decide +kernel
theorem dX7_hand_11 : decode cX7_hand 11 = .ok (.iconst (-1), 1) := by decide +kernel
theorem dX7_hand_12 : decode cX7_hand 12 = .ok (.ireturn, 1) := by decide +kernel
theorem dX7_hand_13 : decode cX7_hand 13 = .ok (.aload_n 0, 1) := by decide +kernel
theorem dX7_hand_14 : decode cX7_hand 14 = .ok (.aload_n 0, 1) := by decide +kernel
theorem dX7_hand_15 : decode cX7_hand 15 = .ok (.getfield 34, 3) := by decide +kernel
theorem dX7_hand_18 : decode cX7_hand 18 = .ok (.getfield 167, 3) := by decide +kernel
theorem dX7_hand_21 : decode cX7_hand 21 = .ok (.invokevirtual 160, 3) := by decide +kernel
theorem dX7_hand_24 : decode cX7_hand 24 = .ok (.iload_n 1, 1) := by decide +kernel
theorem dX7_hand_25 : decode cX7_hand 25 = .ok (.invokevirtual 164, 3) := by decide +kernel
theorem dX7_hand_28 : decode cX7_hand 28 = .ok (.istore_n 2, 1) := by decide +kernel
theorem dX7_hand_29 : decode cX7_hand 29 = .ok (.aload_n 0, 1) := by decide +kernel
theorem dX7_hand_30 : decode cX7_hand 30 = .ok (.getfield 47, 3) := by decide +kernel
theorem dX7_hand_33 : decode cX7_hand 33 = .ok (.aload_n 0, 1) := by decide +kernel
theorem dX7_hand_34 : decode cX7_hand 34 = .ok (.getfield 40, 3) := by decide +kernel
theorem dX7_hand_37 : decode cX7_hand 37 = .ok (.invokevirtual 171, 3) := by decide +kernel
theorem dX7_hand_40 : decode cX7_hand 40 = .ok (.aload_n 0, 1) := by decide +kernel
theorem dX7_hand_41 : decode cX7_hand 41 = .ok (.getfield 40, 3) := by decide +kernel
theorem dX7_hand_44 : decode cX7_hand 44 = .ok (.aload_n 0, 1) := by decide +kernel
theorem dX7_hand_45 : decode cX7_hand 45 = .ok (.getfield 34, 3) := by decide +kernel
theorem dX7_hand_48 : decode cX7_hand 48 = .ok (.iload_n 1, 1) := by decide +kernel
theorem dX7_hand_49 : decode cX7_hand 49 = .ok (.iload_n 2, 1) := by decide +kernel
theorem dX7_hand_50 : decode cX7_hand 50 = .ok (.invokevirtual 174, 3) := by decide +kernel
theorem dX7_hand_53 : decode cX7_hand 53 = .ok (.aload_n 0, 1) := by decide +kernel
theorem dX7_hand_54 : decode cX7_hand 54 = .ok (.getfield 34, 3) := by decide +kernel
theorem dX7_hand_57 : decode cX7_hand 57 = .ok (.iload_n 1, 1) := by decide +kernel
theorem dX7_hand_58 : decode cX7_hand 58 = .ok (.iload_n 2, 1) := by decide +kernel
theorem dX7_hand_59 : decode cX7_hand 59 = .ok (.invokevirtual 178, 3) := by decide +kernel
theorem dX7_hand_62 : decode cX7_hand 62 = .ok (.ireturn, 1) := by decide +kernel
theorem dX7_teach_0 : decode cX7_teach 0 = .ok (.aload_n 0, 1) := by decide +kernel
theorem dX7_teach_1 : decode cX7_teach 1 = .ok (.getfield 34, 3) := by decide +kernel
theorem dX7_teach_4 : decode cX7_teach 4 = .ok (.iload_n 1, 1) := by decide +kernel
theorem dX7_teach_5 : decode cX7_teach 5 = .ok (.invokevirtual 121, 3) := by decide +kernel
theorem dX7_teach_8 : decode cX7_teach 8 = .ok (.ifCond .eq 10, 3) := by decide +kernel
theorem dX7_teach_11 : decode cX7_teach 11 = .ok (.iload_n 2, 1) := by decide +kernel
theorem dX7_teach_12 : decode cX7_teach 12 = .ok (.invokestatic 181, 3) := by decide +kernel
theorem dX7_teach_15 : decode cX7_teach 15 = .ok (.ifCond .ne 5, 3) := by decide +kernel
theorem dX7_teach_18 : decode cX7_teach 18 = .ok (.iconst (-1), 1) := by decide +kernel
theorem dX7_teach_19 : decode cX7_teach 19 = .ok (.ireturn, 1) := by decide +kernel
theorem dX7_teach_20 : decode cX7_teach 20 = .ok (.aload_n 0, 1) := by decide +kernel
theorem dX7_teach_21 : decode cX7_teach 21 = .ok (.getfield 47, 3) := by decide +kernel
theorem dX7_teach_24 : decode cX7_teach 24 = .ok (.aload_n 0, 1) := by decide +kernel
theorem dX7_teach_25 : decode cX7_teach 25 = .ok (.getfield 40, 3) := by decide +kernel
theorem dX7_teach_28 : decode cX7_teach 28 = .ok (.invokevirtual 171, 3) := by decide +kernel
theorem dX7_teach_31 : decode cX7_teach 31 = .ok (.aload_n 0, 1) := by decide +kernel
theorem dX7_teach_32 : decode cX7_teach 32 = .ok (.getfield 40, 3) := by decide +kernel
theorem dX7_teach_35 : decode cX7_teach 35 = .ok (.iload_n 1, 1) := by decide +kernel
theorem dX7_teach_36 : decode cX7_teach 36 = .ok (.iload_n 2, 1) := by decide +kernel
theorem dX7_teach_37 : decode cX7_teach 37 = .ok (.invokevirtual 184, 3) := by decide +kernel
theorem dX7_teach_40 : decode cX7_teach 40 = .ok (.aload_n 0, 1) := by decide +kernel
theorem dX7_teach_41 : decode cX7_teach 41 = .ok (.getfield 40, 3) := by decide +kernel
theorem dX7_teach_44 : decode cX7_teach 44 = .ok (.getfield 150, 3) := by decide +kernel
theorem dX7_teach_47 : decode cX7_teach 47 = .ok (.invokevirtual 113, 3) := by decide +kernel
theorem dX7_teach_50 : decode cX7_teach 50 = .ok (.ireturn, 1) := by decide +kernel
theorem dX7_undo_0 : decode cX7_undo 0 = .ok (.aload_n 0, 1) := by decide +kernel
theorem dX7_undo_1 : decode cX7_undo 1 = .ok (.getfield 47, 3) := by decide +kernel
theorem dX7_undo_4 : decode cX7_undo 4 = .ok (.invokevirtual 188, 3) := by decide +kernel
theorem dX7_undo_7 : decode cX7_undo 7 = .ok (.ifCond .ne 6, 3) := by decide +kernel
theorem dX7_undo_10 : decode cX7_undo 10 = .ok (.bipush (-2), 2) := by decide +kernel
theorem dX7_undo_12 : decode cX7_undo 12 = .ok (.ireturn, 1) := by decide +kernel
theorem dX7_undo_13 : decode cX7_undo 13 = .ok (.aload_n 0, 1) := by decide +kernel
theorem dX7_undo_14 : decode cX7_undo 14 = .ok (.getfield 47, 3) := by decide +kernel
theorem dX7_undo_17 : decode cX7_undo 17 = .ok (.aload_n 0, 1) := by decide +kernel
theorem dX7_undo_18 : decode cX7_undo 18 = .ok (.getfield 40, 3) := by decide +kernel
theorem dX7_undo_21 : decode cX7_undo 21 = .ok (.invokevirtual 189, 3) := by decide +kernel
theorem dX7_undo_24 : decode cX7_undo 24 = .ok (.aload_n 0, 1) := by decide +kernel
theorem dX7_undo_25 : decode cX7_undo 25 = .ok (.getfield 47, 3) := by decide +kernel
theorem dX7_undo_28 : decode cX7_undo 28 = .ok (.invokevirtual 188, 3) := by decide +kernel
theorem dX7_undo_31 : decode cX7_undo 31 = .ok (.ireturn, 1) := by decide +kernel
theorem dX7_tell_0 : decode cX7_tell 0 = .ok (.aload_n 0, 1) := by decide +kernel
theorem dX7_tell_1 : decode cX7_tell 1 = .ok (.getfield 34, 3) := by decide +kernel
theorem dX7_tell_4 : decode cX7_tell 4 = .ok (.iload_n 1, 1) := by decide +kernel
theorem dX7_tell_5 : decode cX7_tell 5 = .ok (.invokevirtual 121, 3) := by decide +kernel
theorem dX7_tell_8 : decode cX7_tell 8 = .ok (.ifCond .ne 5, 3) := by decide +kernel
theorem dX7_tell_11 : decode cX7_tell 11 = .ok (.iconst (-1), 1) := by decide +kernel
theorem dX7_tell_12 : decode cX7_tell 12 = .ok (.ireturn, 1) := by decide +kernel
theorem dX7_tell_13 : decode cX7_tell 13 = .ok (.aload_n 0, 1) := by decide +kernel
theorem dX7_tell_14 : decode cX7_tell 14 = .ok (.getfield 34, 3) := by decide +kernel
theorem dX7_tell_17 : decode cX7_tell 17 = .ok (.getfield 147, 3) := by decide +kernel
theorem dX7_tell_20 : decode cX7_tell 20 = .ok (.invokevirtual 109, 3) := by decide +kernel
theorem dX7_tell_23 : decode cX7_tell 23 = .ok (.ifCond .eq 6, 3) := by decide +kernel
theorem dX7_tell_26 : decode cX7_tell 26 = .ok (.bipush (-3), 2) := by decide +kernel
theorem dX7_tell_28 : decode cX7_tell 28 = .ok (.ireturn, 1) := by decide +kernel
theorem dX7_tell_29 : decode cX7_tell 29 = .ok (.aload_n 0, 1) := by decide +kernel
theorem dX7_tell_30 : decode cX7_tell 30 = .ok (.getfield 34, 3) := by decide +kernel
theorem dX7_tell_33 : decode cX7_tell 33 = .ok (.getfield 147, 3) := by decide +kernel
theorem dX7_tell_36 : decode cX7_tell 36 = .ok (.iload_n 1, 1) := by decide +kernel
theorem dX7_tell_37 : decode cX7_tell 37 = .ok (.invokevirtual 93, 3) := by decide +kernel
theorem dX7_tell_40 : decode cX7_tell 40 = .ok (.aload_n 0, 1) := by decide +kernel
theorem dX7_tell_41 : decode cX7_tell 41 = .ok (.getfield 34, 3) := by decide +kernel
theorem dX7_tell_44 : decode cX7_tell 44 = .ok (.getfield 147, 3) := by decide +kernel
theorem dX7_tell_47 : decode cX7_tell 47 = .ok (.invokevirtual 113, 3) := by decide +kernel
theorem dX7_tell_50 : decode cX7_tell 50 = .ok (.ireturn, 1) := by decide +kernel
theorem dX7_noRow_0 : decode cX7_noRow 0 = .ok (.aload_n 0, 1) := by decide +kernel
theorem dX7_noRow_1 : decode cX7_noRow 1 = .ok (.getfield 34, 3) := by decide +kernel
theorem dX7_noRow_4 : decode cX7_noRow 4 = .ok (.getfield 147, 3) := by decide +kernel
theorem dX7_noRow_7 : decode cX7_noRow 7 = .ok (.invokevirtual 113, 3) := by decide +kernel
theorem dX7_noRow_10 : decode cX7_noRow 10 = .ok (.istore_n 1, 1) := by decide +kernel
theorem dX7_noRow_11 : decode cX7_noRow 11 = .ok (.aload_n 0, 1) := by decide +kernel
theorem dX7_noRow_12 : decode cX7_noRow 12 = .ok (.getfield 34, 3) := by decide +kernel
theorem dX7_noRow_15 : decode cX7_noRow 15 = .ok (.getfield 147, 3) := by decide +kernel
theorem dX7_noRow_18 : decode cX7_noRow 18 = .ok (.invokevirtual 102, 3) := by decide +kernel
theorem dX7_noRow_21 : decode cX7_noRow 21 = .ok (.aload_n 0, 1) := by decide +kernel
theorem dX7_noRow_22 : decode cX7_noRow 22 = .ok (.getfield 54, 3) := by decide +kernel
theorem dX7_noRow_25 : decode cX7_noRow 25 = .ok (.invokevirtual 102, 3) := by decide +kernel
theorem dX7_noRow_28 : decode cX7_noRow 28 = .ok (.iload_n 1, 1) := by decide +kernel
theorem dX7_noRow_29 : decode cX7_noRow 29 = .ok (.ireturn, 1) := by decide +kernel
theorem dX7_run_0 : decode cX7_run 0 = .ok (.iload_n 1, 1) := by decide +kernel
theorem dX7_run_1 : decode cX7_run 1 = .ok (.invokestatic 157, 3) := by decide +kernel
theorem dX7_run_4 : decode cX7_run 4 = .ok (.ifCond .eq 32, 3) := by decide +kernel
theorem dX7_run_7 : decode cX7_run 7 = .ok (.iload_n 2, 1) := by decide +kernel
theorem dX7_run_8 : decode cX7_run 8 = .ok (.iconst (-1), 1) := by decide +kernel
theorem dX7_run_9 : decode cX7_run 9 = .ok (.aload_n 0, 1) := by decide +kernel
theorem dX7_run_10 : decode cX7_run 10 = .ok (.getfield 34, 3) := by decide +kernel
theorem dX7_run_13 : decode cX7_run 13 = .ok (.getfield 147, 3) := by decide +kernel
theorem dX7_run_16 : decode cX7_run 16 = .ok (.invokevirtual 113, 3) := by decide +kernel
theorem dX7_run_19 : decode cX7_run 19 = .ok (.iconst 1, 1) := by decide +kernel
theorem dX7_run_20 : decode cX7_run 20 = .ok (.isub, 1) := by decide +kernel
theorem dX7_run_21 : decode cX7_run 21 = .ok (.invokestatic 105, 3) := by decide +kernel
theorem dX7_run_24 : decode cX7_run 24 = .ok (.ifCond .eq 12, 3) := by decide +kernel
theorem dX7_run_27 : decode cX7_run 27 = .ok (.iload_n 3, 1) := by decide +kernel
theorem dX7_run_28 : decode cX7_run 28 = .ok (.iconst 0, 1) := by decide +kernel
theorem dX7_run_29 : decode cX7_run 29 = .ok (.iconst 1, 1) := by decide +kernel
theorem dX7_run_30 : decode cX7_run 30 = .ok (.invokestatic 105, 3) := by decide +kernel
theorem dX7_run_33 : decode cX7_run 33 = .ok (.ifCond .ne 5, 3) := by decide +kernel
theorem dX7_run_36 : decode cX7_run 36 = .ok (.iconst (-1), 1) := by decide +kernel
theorem dX7_run_37 : decode cX7_run 37 = .ok (.ireturn, 1) := by decide +kernel
theorem dX7_run_38 : decode cX7_run 38 = .ok (.aload_n 0, 1) := by decide +kernel
theorem dX7_run_39 : decode cX7_run 39 = .ok (.iload_n 1, 1) := by decide +kernel
theorem dX7_run_40 : decode cX7_run 40 = .ok (.invokevirtual 160, 3) := by decide +kernel
theorem dX7_run_43 : decode cX7_run 43 = .ok (.astore 4, 2) := by decide +kernel
theorem dX7_run_45 : decode cX7_run 45 = .ok (.iload_n 2, 1) := by decide +kernel
theorem dX7_run_46 : decode cX7_run 46 = .ok (.iconst (-1), 1) := by decide +kernel
theorem dX7_run_47 : decode cX7_run 47 = .ok (.if_icmp .ne 21, 3) := by decide +kernel
theorem dX7_run_50 : decode cX7_run 50 = .ok (.iload_n 3, 1) := by decide +kernel
theorem dX7_run_51 : decode cX7_run 51 = .ok (.ifCond .ne 11, 3) := by decide +kernel
theorem dX7_run_54 : decode cX7_run 54 = .ok (.aload 4, 2) := by decide +kernel
theorem dX7_run_56 : decode cX7_run 56 = .ok (.invokevirtual 192, 3) := by decide +kernel
theorem dX7_run_59 : decode cX7_run 59 = .ok (.goto 8, 3) := by decide +kernel
theorem dX7_run_62 : decode cX7_run 62 = .ok (.aload 4, 2) := by decide +kernel
theorem dX7_run_64 : decode cX7_run 64 = .ok (.invokevirtual 195, 3) := by decide +kernel
theorem dX7_run_67 : decode cX7_run 67 = .ok (.ireturn, 1) := by decide +kernel
theorem dX7_run_68 : decode cX7_run 68 = .ok (.iconst 0, 1) := by decide +kernel
theorem dX7_run_69 : decode cX7_run 69 = .ok (.istore 5, 2) := by decide +kernel
theorem dX7_run_71 : decode cX7_run 71 = .ok (.iload 5, 2) := by decide +kernel
theorem dX7_run_73 : decode cX7_run 73 = .ok (.iload_n 2, 1) := by decide +kernel
theorem dX7_run_74 : decode cX7_run 74 = .ok (.if_icmp .ge 27, 3) := by decide +kernel
theorem dX7_run_77 : decode cX7_run 77 = .ok (.aload 4, 2) := by decide +kernel
theorem dX7_run_79 : decode cX7_run 79 = .ok (.aload_n 0, 1) := by decide +kernel
theorem dX7_run_80 : decode cX7_run 80 = .ok (.getfield 34, 3) := by decide +kernel
theorem dX7_run_83 : decode cX7_run 83 = .ok (.getfield 147, 3) := by decide +kernel
theorem dX7_run_86 : decode cX7_run 86 = .ok (.iload 5, 2) := by decide +kernel
theorem dX7_run_88 : decode cX7_run 88 = .ok (.invokevirtual 128, 3) := by decide +kernel
theorem dX7_run_91 : decode cX7_run 91 = .ok (.invokevirtual 198, 3) := by decide +kernel
theorem dX7_run_94 : decode cX7_run 94 = .ok (.pop, 1) := by decide +kernel
theorem dX7_run_95 : decode cX7_run 95 = .ok (.iinc 5 1, 3) := by decide +kernel
theorem dX7_run_98 : decode cX7_run 98 = .ok (.goto (-27), 3) := by decide +kernel
theorem dX7_run_101 : decode cX7_run 101 = .ok (.aload_n 0, 1) := by decide +kernel
theorem dX7_run_102 : decode cX7_run 102 = .ok (.getfield 34, 3) := by decide +kernel
theorem dX7_run_105 : decode cX7_run 105 = .ok (.getfield 147, 3) := by decide +kernel
theorem dX7_run_108 : decode cX7_run 108 = .ok (.iload_n 2, 1) := by decide +kernel
theorem dX7_run_109 : decode cX7_run 109 = .ok (.invokevirtual 128, 3) := by decide +kernel
theorem dX7_run_112 : decode cX7_run 112 = .ok (.istore 5, 2) := by decide +kernel
theorem dX7_run_114 : decode cX7_run 114 = .ok (.aload 4, 2) := by decide +kernel
theorem dX7_run_116 : decode cX7_run 116 = .ok (.iload 5, 2) := by decide +kernel
theorem dX7_run_118 : decode cX7_run 118 = .ok (.invokevirtual 164, 3) := by decide +kernel
theorem dX7_run_121 : decode cX7_run 121 = .ok (.istore 6, 2) := by decide +kernel
theorem dX7_run_123 : decode cX7_run 123 = .ok (.iload_n 3, 1) := by decide +kernel
theorem dX7_run_124 : decode cX7_run 124 = .ok (.ifCond .ne 8, 3) := by decide +kernel
theorem dX7_run_127 : decode cX7_run 127 = .ok (.iload 6, 2) := by decide +kernel
theorem dX7_run_129 : decode cX7_run 129 = .ok (.goto 14, 3) := by decide +kernel
theorem dX7_run_132 : decode cX7_run 132 = .ok (.aload_n 0, 1) := by decide +kernel
theorem dX7_run_133 : decode cX7_run 133 = .ok (.getfield 34, 3) := by decide +kernel
theorem dX7_run_136 : decode cX7_run 136 = .ok (.iload 5, 2) := by decide +kernel
theorem dX7_run_138 : decode cX7_run 138 = .ok (.iload 6, 2) := by decide +kernel
theorem dX7_run_140 : decode cX7_run 140 = .ok (.invokevirtual 178, 3) := by decide +kernel
theorem dX7_run_143 : decode cX7_run 143 = .ok (.ireturn, 1) := by decide +kernel
theorem dX7_round_0 : decode cX7_round 0 = .ok (.aload_n 0, 1) := by decide +kernel
theorem dX7_round_1 : decode cX7_round 1 = .ok (.getfield 34, 3) := by decide +kernel
theorem dX7_round_4 : decode cX7_round 4 = .ok (.getfield 147, 3) := by decide +kernel
theorem dX7_round_7 : decode cX7_round 7 = .ok (.invokevirtual 113, 3) := by decide +kernel
theorem dX7_round_10 : decode cX7_round 10 = .ok (.ifCond .ne 6, 3) := by decide +kernel
theorem dX7_round_13 : decode cX7_round 13 = .ok (.bipush (-4), 2) := by decide +kernel
theorem dX7_round_15 : decode cX7_round 15 = .ok (.ireturn, 1) := by decide +kernel
theorem dX7_round_16 : decode cX7_round 16 = .ok (.aload_n 0, 1) := by decide +kernel
theorem dX7_round_17 : decode cX7_round 17 = .ok (.aload_n 0, 1) := by decide +kernel
theorem dX7_round_18 : decode cX7_round 18 = .ok (.aload_n 0, 1) := by decide +kernel
theorem dX7_round_19 : decode cX7_round 19 = .ok (.getfield 34, 3) := by decide +kernel
theorem dX7_round_22 : decode cX7_round 22 = .ok (.getfield 167, 3) := by decide +kernel
theorem dX7_round_25 : decode cX7_round 25 = .ok (.invokevirtual 160, 3) := by decide +kernel
theorem dX7_round_28 : decode cX7_round 28 = .ok (.invokevirtual 201, 3) := by decide +kernel
theorem dX7_round_31 : decode cX7_round 31 = .ok (.iconst 1, 1) := by decide +kernel
theorem dX7_round_32 : decode cX7_round 32 = .ok (.istore_n 1, 1) := by decide +kernel
theorem dX7_round_33 : decode cX7_round 33 = .ok (.iload_n 1, 1) := by decide +kernel
theorem dX7_round_34 : decode cX7_round 34 = .ok (.bipush 20, 2) := by decide +kernel
theorem dX7_round_36 : decode cX7_round 36 = .ok (.if_icmp .gt 19, 3) := by decide +kernel
theorem dX7_round_39 : decode cX7_round 39 = .ok (.aload_n 0, 1) := by decide +kernel
theorem dX7_round_40 : decode cX7_round 40 = .ok (.iload_n 1, 1) := by decide +kernel
theorem dX7_round_41 : decode cX7_round 41 = .ok (.invokevirtual 205, 3) := by decide +kernel
theorem dX7_round_44 : decode cX7_round 44 = .ok (.ifCond .eq 5, 3) := by decide +kernel
theorem dX7_round_47 : decode cX7_round 47 = .ok (.iload_n 1, 1) := by decide +kernel
theorem dX7_round_48 : decode cX7_round 48 = .ok (.ireturn, 1) := by decide +kernel
theorem dX7_round_49 : decode cX7_round 49 = .ok (.iinc 1 1, 3) := by decide +kernel
theorem dX7_round_52 : decode cX7_round 52 = .ok (.goto (-19), 3) := by decide +kernel
theorem dX7_round_55 : decode cX7_round 55 = .ok (.bipush (-4), 2) := by decide +kernel
theorem dX7_round_57 : decode cX7_round 57 = .ok (.ireturn, 1) := by decide +kernel
theorem dX7_order_0 : decode cX7_order 0 = .ok (.aload_n 0, 1) := by decide +kernel
theorem dX7_order_1 : decode cX7_order 1 = .ok (.getfield 34, 3) := by decide +kernel
theorem dX7_order_4 : decode cX7_order 4 = .ok (.getfield 147, 3) := by decide +kernel
theorem dX7_order_7 : decode cX7_order 7 = .ok (.invokevirtual 113, 3) := by decide +kernel
theorem dX7_order_10 : decode cX7_order 10 = .ok (.istore_n 2, 1) := by decide +kernel
theorem dX7_order_11 : decode cX7_order 11 = .ok (.iload_n 1, 1) := by decide +kernel
theorem dX7_order_12 : decode cX7_order 12 = .ok (.iconst (-1), 1) := by decide +kernel
theorem dX7_order_13 : decode cX7_order 13 = .ok (.iload_n 2, 1) := by decide +kernel
theorem dX7_order_14 : decode cX7_order 14 = .ok (.iconst 1, 1) := by decide +kernel
theorem dX7_order_15 : decode cX7_order 15 = .ok (.isub, 1) := by decide +kernel
theorem dX7_order_16 : decode cX7_order 16 = .ok (.invokestatic 105, 3) := by decide +kernel
theorem dX7_order_19 : decode cX7_order 19 = .ok (.ifCond .ne 5, 3) := by decide +kernel
theorem dX7_order_22 : decode cX7_order 22 = .ok (.iconst (-1), 1) := by decide +kernel
theorem dX7_order_23 : decode cX7_order 23 = .ok (.ireturn, 1) := by decide +kernel
theorem dX7_order_24 : decode cX7_order 24 = .ok (.iload_n 2, 1) := by decide +kernel
theorem dX7_order_25 : decode cX7_order 25 = .ok (.bipush 7, 2) := by decide +kernel
theorem dX7_order_27 : decode cX7_order 27 = .ok (.if_icmp .le 6, 3) := by decide +kernel
theorem dX7_order_30 : decode cX7_order 30 = .ok (.bipush (-2), 2) := by decide +kernel
theorem dX7_order_32 : decode cX7_order 32 = .ok (.ireturn, 1) := by decide +kernel
theorem dX7_order_33 : decode cX7_order 33 = .ok (.aload_n 0, 1) := by decide +kernel
theorem dX7_order_34 : decode cX7_order 34 = .ok (.getfield 77, 3) := by decide +kernel
theorem dX7_order_37 : decode cX7_order 37 = .ok (.aload_n 0, 1) := by decide +kernel
theorem dX7_order_38 : decode cX7_order 38 = .ok (.aload_n 0, 1) := by decide +kernel
theorem dX7_order_39 : decode cX7_order 39 = .ok (.getfield 34, 3) := by decide +kernel
theorem dX7_order_42 : decode cX7_order 42 = .ok (.getfield 167, 3) := by decide +kernel
theorem dX7_order_45 : decode cX7_order 45 = .ok (.invokevirtual 160, 3) := by decide +kernel
theorem dX7_order_48 : decode cX7_order 48 = .ok (.invokevirtual 208, 3) := by decide +kernel
theorem dX7_order_51 : decode cX7_order 51 = .ok (.iload_n 1, 1) := by decide +kernel
theorem dX7_order_52 : decode cX7_order 52 = .ok (.iconst (-1), 1) := by decide +kernel
theorem dX7_order_53 : decode cX7_order 53 = .ok (.if_icmp .ne 13, 3) := by decide +kernel
theorem dX7_order_56 : decode cX7_order 56 = .ok (.aload_n 0, 1) := by decide +kernel
theorem dX7_order_57 : decode cX7_order 57 = .ok (.getfield 77, 3) := by decide +kernel
theorem dX7_order_60 : decode cX7_order 60 = .ok (.getfield 211, 3) := by decide +kernel
theorem dX7_order_63 : decode cX7_order 63 = .ok (.goto 14, 3) := by decide +kernel
theorem dX7_order_66 : decode cX7_order 66 = .ok (.aload_n 0, 1) := by decide +kernel
theorem dX7_order_67 : decode cX7_order 67 = .ok (.getfield 77, 3) := by decide +kernel
theorem dX7_order_70 : decode cX7_order 70 = .ok (.getfield 214, 3) := by decide +kernel
theorem dX7_order_73 : decode cX7_order 73 = .ok (.iload_n 1, 1) := by decide +kernel
theorem dX7_order_74 : decode cX7_order 74 = .ok (.invokevirtual 128, 3) := by decide +kernel
theorem dX7_order_77 : decode cX7_order 77 = .ok (.ireturn, 1) := by decide +kernel
theorem dX7_best_0 : decode cX7_best 0 = .ok (.iload_n 1, 1) := by decide +kernel
theorem dX7_best_1 : decode cX7_best 1 = .ok (.iconst 0, 1) := by decide +kernel
theorem dX7_best_2 : decode cX7_best 2 = .ok (.iconst 1, 1) := by decide +kernel
theorem dX7_best_3 : decode cX7_best 3 = .ok (.invokestatic 105, 3) := by decide +kernel
theorem dX7_best_6 : decode cX7_best 6 = .ok (.ifCond .ne 5, 3) := by decide +kernel
theorem dX7_best_9 : decode cX7_best 9 = .ok (.iconst (-1), 1) := by decide +kernel
theorem dX7_best_10 : decode cX7_best 10 = .ok (.ireturn, 1) := by decide +kernel
theorem dX7_best_11 : decode cX7_best 11 = .ok (.bipush (-4), 2) := by decide +kernel
theorem dX7_best_13 : decode cX7_best 13 = .ok (.istore_n 2, 1) := by decide +kernel
theorem dX7_best_14 : decode cX7_best 14 = .ok (.aload_n 0, 1) := by decide +kernel
theorem dX7_best_15 : decode cX7_best 15 = .ok (.aload_n 0, 1) := by decide +kernel
theorem dX7_best_16 : decode cX7_best 16 = .ok (.getfield 34, 3) := by decide +kernel
theorem dX7_best_19 : decode cX7_best 19 = .ok (.getfield 167, 3) := by decide +kernel
theorem dX7_best_22 : decode cX7_best 22 = .ok (.invokevirtual 160, 3) := by decide +kernel
theorem dX7_best_25 : decode cX7_best 25 = .ok (.invokevirtual 192, 3) := by decide +kernel
theorem dX7_best_28 : decode cX7_best 28 = .ok (.istore_n 3, 1) := by decide +kernel
theorem dX7_best_29 : decode cX7_best 29 = .ok (.iconst 0, 1) := by decide +kernel
theorem dX7_best_30 : decode cX7_best 30 = .ok (.istore 4, 2) := by decide +kernel
theorem dX7_best_32 : decode cX7_best 32 = .ok (.iload 4, 2) := by decide +kernel
theorem dX7_best_34 : decode cX7_best 34 = .ok (.aload_n 0, 1) := by decide +kernel
theorem dX7_best_35 : decode cX7_best 35 = .ok (.getfield 34, 3) := by decide +kernel
theorem dX7_best_38 : decode cX7_best 38 = .ok (.invokevirtual 116, 3) := by decide +kernel
theorem dX7_best_41 : decode cX7_best 41 = .ok (.if_icmp .ge 71, 3) := by decide +kernel
theorem dX7_best_44 : decode cX7_best 44 = .ok (.iconst 0, 1) := by decide +kernel
theorem dX7_best_45 : decode cX7_best 45 = .ok (.istore 5, 2) := by decide +kernel
theorem dX7_best_47 : decode cX7_best 47 = .ok (.iload 5, 2) := by decide +kernel
theorem dX7_best_49 : decode cX7_best 49 = .ok (.bipush 6, 2) := by decide +kernel
theorem dX7_best_51 : decode cX7_best 51 = .ok (.if_icmp .ge 55, 3) := by decide +kernel
theorem dX7_best_54 : decode cX7_best 54 = .ok (.aload_n 0, 1) := by decide +kernel
theorem dX7_best_55 : decode cX7_best 55 = .ok (.aload_n 0, 1) := by decide +kernel
theorem dX7_best_56 : decode cX7_best 56 = .ok (.getfield 34, 3) := by decide +kernel
theorem dX7_best_59 : decode cX7_best 59 = .ok (.getfield 167, 3) := by decide +kernel
theorem dX7_best_62 : decode cX7_best 62 = .ok (.invokevirtual 160, 3) := by decide +kernel
theorem dX7_best_65 : decode cX7_best 65 = .ok (.astore 6, 2) := by decide +kernel
theorem dX7_best_67 : decode cX7_best 67 = .ok (.aload 6, 2) := by decide +kernel
theorem dX7_best_69 : decode cX7_best 69 = .ok (.iload 4, 2) := by decide +kernel
theorem dX7_best_71 : decode cX7_best 71 = .ok (.iload 5, 2) := by decide +kernel
theorem dX7_best_73 : decode cX7_best 73 = .ok (.invokevirtual 217, 3) := by decide +kernel
theorem dX7_best_76 : decode cX7_best 76 = .ok (.aload 6, 2) := by decide +kernel
theorem dX7_best_78 : decode cX7_best 78 = .ok (.invokevirtual 192, 3) := by decide +kernel
theorem dX7_best_81 : decode cX7_best 81 = .ok (.istore 7, 2) := by decide +kernel
theorem dX7_best_83 : decode cX7_best 83 = .ok (.iload 7, 2) := by decide +kernel
theorem dX7_best_85 : decode cX7_best 85 = .ok (.iload_n 3, 1) := by decide +kernel
theorem dX7_best_86 : decode cX7_best 86 = .ok (.if_icmp .ge 14, 3) := by decide +kernel
theorem dX7_best_89 : decode cX7_best 89 = .ok (.iload 7, 2) := by decide +kernel
theorem dX7_best_91 : decode cX7_best 91 = .ok (.istore_n 3, 1) := by decide +kernel
theorem dX7_best_92 : decode cX7_best 92 = .ok (.iload 4, 2) := by decide +kernel
theorem dX7_best_94 : decode cX7_best 94 = .ok (.iload 5, 2) := by decide +kernel
theorem dX7_best_96 : decode cX7_best 96 = .ok (.invokestatic 220, 3) := by decide +kernel
theorem dX7_best_99 : decode cX7_best 99 = .ok (.istore_n 2, 1) := by decide +kernel
theorem dX7_best_100 : decode cX7_best 100 = .ok (.iinc 5 1, 3) := by decide +kernel
theorem dX7_best_103 : decode cX7_best 103 = .ok (.goto (-56), 3) := by decide +kernel
theorem dX7_best_106 : decode cX7_best 106 = .ok (.iinc 4 1, 3) := by decide +kernel
theorem dX7_best_109 : decode cX7_best 109 = .ok (.goto (-77), 3) := by decide +kernel
theorem dX7_best_112 : decode cX7_best 112 = .ok (.iload_n 1, 1) := by decide +kernel
theorem dX7_best_113 : decode cX7_best 113 = .ok (.ifCond .ne 7, 3) := by decide +kernel
theorem dX7_best_116 : decode cX7_best 116 = .ok (.iload_n 2, 1) := by decide +kernel
theorem dX7_best_117 : decode cX7_best 117 = .ok (.goto 4, 3) := by decide +kernel
theorem dX7_best_120 : decode cX7_best 120 = .ok (.iload_n 3, 1) := by decide +kernel
theorem dX7_best_121 : decode cX7_best 121 = .ok (.ireturn, 1) := by decide +kernel
theorem dX7_seen_0 : decode cX7_seen 0 = .ok (.iload_n 1, 1) := by decide +kernel
theorem dX7_seen_1 : decode cX7_seen 1 = .ok (.iconst 0, 1) := by decide +kernel
theorem dX7_seen_2 : decode cX7_seen 2 = .ok (.aload_n 0, 1) := by decide +kernel
theorem dX7_seen_3 : decode cX7_seen 3 = .ok (.getfield 34, 3) := by decide +kernel
theorem dX7_seen_6 : decode cX7_seen 6 = .ok (.getfield 147, 3) := by decide +kernel
theorem dX7_seen_9 : decode cX7_seen 9 = .ok (.invokevirtual 113, 3) := by decide +kernel
theorem dX7_seen_12 : decode cX7_seen 12 = .ok (.iconst 1, 1) := by decide +kernel
theorem dX7_seen_13 : decode cX7_seen 13 = .ok (.isub, 1) := by decide +kernel
theorem dX7_seen_14 : decode cX7_seen 14 = .ok (.invokestatic 105, 3) := by decide +kernel
theorem dX7_seen_17 : decode cX7_seen 17 = .ok (.ifCond .eq 10, 3) := by decide +kernel
theorem dX7_seen_20 : decode cX7_seen 20 = .ok (.iload_n 2, 1) := by decide +kernel
theorem dX7_seen_21 : decode cX7_seen 21 = .ok (.invokestatic 181, 3) := by decide +kernel
theorem dX7_seen_24 : decode cX7_seen 24 = .ok (.ifCond .ne 5, 3) := by decide +kernel
theorem dX7_seen_27 : decode cX7_seen 27 = .ok (.iconst (-1), 1) := by decide +kernel
theorem dX7_seen_28 : decode cX7_seen 28 = .ok (.ireturn, 1) := by decide +kernel
theorem dX7_seen_29 : decode cX7_seen 29 = .ok (.aload_n 0, 1) := by decide +kernel
theorem dX7_seen_30 : decode cX7_seen 30 = .ok (.getfield 54, 3) := by decide +kernel
theorem dX7_seen_33 : decode cX7_seen 33 = .ok (.invokevirtual 109, 3) := by decide +kernel
theorem dX7_seen_36 : decode cX7_seen 36 = .ok (.ifCond .eq 6, 3) := by decide +kernel
theorem dX7_seen_39 : decode cX7_seen 39 = .ok (.bipush (-3), 2) := by decide +kernel
theorem dX7_seen_41 : decode cX7_seen 41 = .ok (.ireturn, 1) := by decide +kernel
theorem dX7_seen_42 : decode cX7_seen 42 = .ok (.aload_n 0, 1) := by decide +kernel
theorem dX7_seen_43 : decode cX7_seen 43 = .ok (.getfield 54, 3) := by decide +kernel
theorem dX7_seen_46 : decode cX7_seen 46 = .ok (.bipush 6, 2) := by decide +kernel
theorem dX7_seen_48 : decode cX7_seen 48 = .ok (.iload_n 1, 1) := by decide +kernel
theorem dX7_seen_49 : decode cX7_seen 49 = .ok (.imul, 1) := by decide +kernel
theorem dX7_seen_50 : decode cX7_seen 50 = .ok (.iload_n 2, 1) := by decide +kernel
theorem dX7_seen_51 : decode cX7_seen 51 = .ok (.iadd, 1) := by decide +kernel
theorem dX7_seen_52 : decode cX7_seen 52 = .ok (.invokevirtual 93, 3) := by decide +kernel
theorem dX7_seen_55 : decode cX7_seen 55 = .ok (.aload_n 0, 1) := by decide +kernel
theorem dX7_seen_56 : decode cX7_seen 56 = .ok (.getfield 54, 3) := by decide +kernel
theorem dX7_seen_59 : decode cX7_seen 59 = .ok (.invokevirtual 113, 3) := by decide +kernel
theorem dX7_seen_62 : decode cX7_seen 62 = .ok (.ireturn, 1) := by decide +kernel
theorem dX7_forget_0 : decode cX7_forget 0 = .ok (.aload_n 0, 1) := by decide +kernel
theorem dX7_forget_1 : decode cX7_forget 1 = .ok (.getfield 54, 3) := by decide +kernel
theorem dX7_forget_4 : decode cX7_forget 4 = .ok (.invokevirtual 113, 3) := by decide +kernel
theorem dX7_forget_7 : decode cX7_forget 7 = .ok (.istore_n 1, 1) := by decide +kernel
theorem dX7_forget_8 : decode cX7_forget 8 = .ok (.aload_n 0, 1) := by decide +kernel
theorem dX7_forget_9 : decode cX7_forget 9 = .ok (.getfield 54, 3) := by decide +kernel
theorem dX7_forget_12 : decode cX7_forget 12 = .ok (.invokevirtual 102, 3) := by decide +kernel
theorem dX7_forget_15 : decode cX7_forget 15 = .ok (.iload_n 1, 1) := by decide +kernel
theorem dX7_forget_16 : decode cX7_forget 16 = .ok (.ireturn, 1) := by decide +kernel
theorem dX7_fits_0 : decode cX7_fits 0 = .ok (.iconst 0, 1) := by decide +kernel
theorem dX7_fits_1 : decode cX7_fits 1 = .ok (.istore_n 1, 1) := by decide +kernel
theorem dX7_fits_2 : decode cX7_fits 2 = .ok (.iconst 0, 1) := by decide +kernel
theorem dX7_fits_3 : decode cX7_fits 3 = .ok (.istore_n 2, 1) := by decide +kernel
theorem dX7_fits_4 : decode cX7_fits 4 = .ok (.iload_n 2, 1) := by decide +kernel
theorem dX7_fits_5 : decode cX7_fits 5 = .ok (.iconst 4, 1) := by decide +kernel
theorem dX7_fits_6 : decode cX7_fits 6 = .ok (.if_icmp .ge 30, 3) := by decide +kernel
theorem dX7_fits_9 : decode cX7_fits 9 = .ok (.aload_n 0, 1) := by decide +kernel
theorem dX7_fits_10 : decode cX7_fits 10 = .ok (.iload_n 2, 1) := by decide +kernel
theorem dX7_fits_11 : decode cX7_fits 11 = .ok (.aload_n 0, 1) := by decide +kernel
theorem dX7_fits_12 : decode cX7_fits 12 = .ok (.getfield 34, 3) := by decide +kernel
theorem dX7_fits_15 : decode cX7_fits 15 = .ok (.getfield 223, 3) := by decide +kernel
theorem dX7_fits_18 : decode cX7_fits 18 = .ok (.invokevirtual 226, 3) := by decide +kernel
theorem dX7_fits_21 : decode cX7_fits 21 = .ok (.ifCond .eq 9, 3) := by decide +kernel
theorem dX7_fits_24 : decode cX7_fits 24 = .ok (.iload_n 1, 1) := by decide +kernel
theorem dX7_fits_25 : decode cX7_fits 25 = .ok (.iconst 1, 1) := by decide +kernel
theorem dX7_fits_26 : decode cX7_fits 26 = .ok (.iload_n 2, 1) := by decide +kernel
theorem dX7_fits_27 : decode cX7_fits 27 = .ok (.ishl, 1) := by decide +kernel
theorem dX7_fits_28 : decode cX7_fits 28 = .ok (.ior, 1) := by decide +kernel
theorem dX7_fits_29 : decode cX7_fits 29 = .ok (.istore_n 1, 1) := by decide +kernel
theorem dX7_fits_30 : decode cX7_fits 30 = .ok (.iinc 2 1, 3) := by decide +kernel
theorem dX7_fits_33 : decode cX7_fits 33 = .ok (.goto (-29), 3) := by decide +kernel
theorem dX7_fits_36 : decode cX7_fits 36 = .ok (.iload_n 1, 1) := by decide +kernel
theorem dX7_fits_37 : decode cX7_fits 37 = .ok (.ireturn, 1) := by decide +kernel
theorem dX7_firsts_0 : decode cX7_firsts 0 = .ok (.iload_n 1, 1) := by decide +kernel
theorem dX7_firsts_1 : decode cX7_firsts 1 = .ok (.invokestatic 157, 3) := by decide +kernel
theorem dX7_firsts_4 : decode cX7_firsts 4 = .ok (.ifCond .ne 5, 3) := by decide +kernel
theorem dX7_firsts_7 : decode cX7_firsts 7 = .ok (.iconst (-1), 1) := by decide +kernel
theorem dX7_firsts_8 : decode cX7_firsts 8 = .ok (.ireturn, 1) := by decide +kernel
theorem dX7_firsts_9 : decode cX7_firsts 9 = .ok (.iconst 0, 1) := by decide +kernel
theorem dX7_firsts_10 : decode cX7_firsts 10 = .ok (.istore_n 2, 1) := by decide +kernel
theorem dX7_firsts_11 : decode cX7_firsts 11 = .ok (.iconst 0, 1) := by decide +kernel
theorem dX7_firsts_12 : decode cX7_firsts 12 = .ok (.istore_n 3, 1) := by decide +kernel
theorem dX7_firsts_13 : decode cX7_firsts 13 = .ok (.iload_n 3, 1) := by decide +kernel
theorem dX7_firsts_14 : decode cX7_firsts 14 = .ok (.bipush 6, 2) := by decide +kernel
theorem dX7_firsts_16 : decode cX7_firsts 16 = .ok (.if_icmp .ge 24, 3) := by decide +kernel
theorem dX7_firsts_19 : decode cX7_firsts 19 = .ok (.aload_n 0, 1) := by decide +kernel
theorem dX7_firsts_20 : decode cX7_firsts 20 = .ok (.iload_n 1, 1) := by decide +kernel
theorem dX7_firsts_21 : decode cX7_firsts 21 = .ok (.iload_n 3, 1) := by decide +kernel
theorem dX7_firsts_22 : decode cX7_firsts 22 = .ok (.invokevirtual 226, 3) := by decide +kernel
theorem dX7_firsts_25 : decode cX7_firsts 25 = .ok (.ifCond .eq 9, 3) := by decide +kernel
theorem dX7_firsts_28 : decode cX7_firsts 28 = .ok (.iload_n 2, 1) := by decide +kernel
theorem dX7_firsts_29 : decode cX7_firsts 29 = .ok (.iconst 1, 1) := by decide +kernel
theorem dX7_firsts_30 : decode cX7_firsts 30 = .ok (.iload_n 3, 1) := by decide +kernel
theorem dX7_firsts_31 : decode cX7_firsts 31 = .ok (.ishl, 1) := by decide +kernel
theorem dX7_firsts_32 : decode cX7_firsts 32 = .ok (.ior, 1) := by decide +kernel
theorem dX7_firsts_33 : decode cX7_firsts 33 = .ok (.istore_n 2, 1) := by decide +kernel
theorem dX7_firsts_34 : decode cX7_firsts 34 = .ok (.iinc 3 1, 3) := by decide +kernel
theorem dX7_firsts_37 : decode cX7_firsts 37 = .ok (.goto (-24), 3) := by decide +kernel
theorem dX7_firsts_40 : decode cX7_firsts 40 = .ok (.iload_n 2, 1) := by decide +kernel
theorem dX7_firsts_41 : decode cX7_firsts 41 = .ok (.ireturn, 1) := by decide +kernel
theorem dX7_ask_0 : decode cX7_ask 0 = .ok (.iload_n 1, 1) := by decide +kernel
theorem dX7_ask_1 : decode cX7_ask 1 = .ok (.iconst 0, 1) := by decide +kernel
theorem dX7_ask_2 : decode cX7_ask 2 = .ok (.iconst 1, 1) := by decide +kernel
theorem dX7_ask_3 : decode cX7_ask 3 = .ok (.invokestatic 105, 3) := by decide +kernel
theorem dX7_ask_6 : decode cX7_ask 6 = .ok (.ifCond .ne 5, 3) := by decide +kernel
theorem dX7_ask_9 : decode cX7_ask 9 = .ok (.iconst (-1), 1) := by decide +kernel
theorem dX7_ask_10 : decode cX7_ask 10 = .ok (.ireturn, 1) := by decide +kernel
theorem dX7_ask_11 : decode cX7_ask 11 = .ok (.aload_n 0, 1) := by decide +kernel
theorem dX7_ask_12 : decode cX7_ask 12 = .ok (.invokevirtual 230, 3) := by decide +kernel
theorem dX7_ask_15 : decode cX7_ask 15 = .ok (.istore_n 2, 1) := by decide +kernel
theorem dX7_ask_16 : decode cX7_ask 16 = .ok (.iload_n 2, 1) := by decide +kernel
theorem dX7_ask_17 : decode cX7_ask 17 = .ok (.ifCond .ne 6, 3) := by decide +kernel
theorem dX7_ask_20 : decode cX7_ask 20 = .ok (.bipush (-4), 2) := by decide +kernel
theorem dX7_ask_22 : decode cX7_ask 22 = .ok (.ireturn, 1) := by decide +kernel
theorem dX7_ask_23 : decode cX7_ask 23 = .ok (.iconst 0, 1) := by decide +kernel
theorem dX7_ask_24 : decode cX7_ask 24 = .ok (.istore_n 3, 1) := by decide +kernel
theorem dX7_ask_25 : decode cX7_ask 25 = .ok (.iconst 5, 1) := by decide +kernel
theorem dX7_ask_26 : decode cX7_ask 26 = .ok (.istore 4, 2) := by decide +kernel
theorem dX7_ask_28 : decode cX7_ask 28 = .ok (.iconst 0, 1) := by decide +kernel
theorem dX7_ask_29 : decode cX7_ask 29 = .ok (.istore 5, 2) := by decide +kernel
theorem dX7_ask_31 : decode cX7_ask 31 = .ok (.iload 5, 2) := by decide +kernel
theorem dX7_ask_33 : decode cX7_ask 33 = .ok (.aload_n 0, 1) := by decide +kernel
theorem dX7_ask_34 : decode cX7_ask 34 = .ok (.getfield 34, 3) := by decide +kernel
theorem dX7_ask_37 : decode cX7_ask 37 = .ok (.invokevirtual 116, 3) := by decide +kernel
theorem dX7_ask_40 : decode cX7_ask 40 = .ok (.if_icmp .ge 32, 3) := by decide +kernel
theorem dX7_ask_43 : decode cX7_ask 43 = .ok (.aload_n 0, 1) := by decide +kernel
theorem dX7_ask_44 : decode cX7_ask 44 = .ok (.iload_n 2, 1) := by decide +kernel
theorem dX7_ask_45 : decode cX7_ask 45 = .ok (.iload 5, 2) := by decide +kernel
theorem dX7_ask_47 : decode cX7_ask 47 = .ok (.invokevirtual 233, 3) := by decide +kernel
theorem dX7_ask_50 : decode cX7_ask 50 = .ok (.istore 6, 2) := by decide +kernel
theorem dX7_ask_52 : decode cX7_ask 52 = .ok (.iload 6, 2) := by decide +kernel
theorem dX7_ask_54 : decode cX7_ask 54 = .ok (.iload 4, 2) := by decide +kernel
theorem dX7_ask_56 : decode cX7_ask 56 = .ok (.if_icmp .ge 10, 3) := by decide +kernel
theorem dX7_ask_59 : decode cX7_ask 59 = .ok (.iload 6, 2) := by decide +kernel
theorem dX7_ask_61 : decode cX7_ask 61 = .ok (.istore 4, 2) := by decide +kernel
theorem dX7_ask_63 : decode cX7_ask 63 = .ok (.iload 5, 2) := by decide +kernel
theorem dX7_ask_65 : decode cX7_ask 65 = .ok (.istore_n 3, 1) := by decide +kernel
theorem dX7_ask_66 : decode cX7_ask 66 = .ok (.iinc 5 1, 3) := by decide +kernel
theorem dX7_ask_69 : decode cX7_ask 69 = .ok (.goto (-38), 3) := by decide +kernel
theorem dX7_ask_72 : decode cX7_ask 72 = .ok (.iload_n 1, 1) := by decide +kernel
theorem dX7_ask_73 : decode cX7_ask 73 = .ok (.ifCond .ne 7, 3) := by decide +kernel
theorem dX7_ask_76 : decode cX7_ask 76 = .ok (.iload_n 3, 1) := by decide +kernel
theorem dX7_ask_77 : decode cX7_ask 77 = .ok (.goto 5, 3) := by decide +kernel
theorem dX7_ask_80 : decode cX7_ask 80 = .ok (.iload 4, 2) := by decide +kernel
theorem dX7_ask_82 : decode cX7_ask 82 = .ok (.ireturn, 1) := by decide +kernel
theorem dX7_rule_0 : decode cX7_rule 0 = .ok (.iload_n 1, 1) := by decide +kernel
theorem dX7_rule_1 : decode cX7_rule 1 = .ok (.invokestatic 181, 3) := by decide +kernel
theorem dX7_rule_4 : decode cX7_rule 4 = .ok (.ifCond .ne 5, 3) := by decide +kernel
theorem dX7_rule_7 : decode cX7_rule 7 = .ok (.iconst (-1), 1) := by decide +kernel
theorem dX7_rule_8 : decode cX7_rule 8 = .ok (.ireturn, 1) := by decide +kernel
theorem dX7_rule_9 : decode cX7_rule 9 = .ok (.bipush (-4), 2) := by decide +kernel
theorem dX7_rule_11 : decode cX7_rule 11 = .ok (.istore_n 2, 1) := by decide +kernel
theorem dX7_rule_12 : decode cX7_rule 12 = .ok (.ldc 236, 2) := by decide +kernel
theorem dX7_rule_14 : decode cX7_rule 14 = .ok (.istore_n 3, 1) := by decide +kernel
theorem dX7_rule_15 : decode cX7_rule 15 = .ok (.iconst 0, 1) := by decide +kernel
theorem dX7_rule_16 : decode cX7_rule 16 = .ok (.istore 4, 2) := by decide +kernel
theorem dX7_rule_18 : decode cX7_rule 18 = .ok (.iload 4, 2) := by decide +kernel
theorem dX7_rule_20 : decode cX7_rule 20 = .ok (.bipush 32, 2) := by decide +kernel
theorem dX7_rule_22 : decode cX7_rule 22 = .ok (.if_icmp .ge 54, 3) := by decide +kernel
theorem dX7_rule_25 : decode cX7_rule 25 = .ok (.iload 4, 2) := by decide +kernel
theorem dX7_rule_27 : decode cX7_rule 27 = .ok (.invokestatic 237, 3) := by decide +kernel
theorem dX7_rule_30 : decode cX7_rule 30 = .ok (.istore 5, 2) := by decide +kernel
theorem dX7_rule_32 : decode cX7_rule 32 = .ok (.iload 5, 2) := by decide +kernel
theorem dX7_rule_34 : decode cX7_rule 34 = .ok (.iload_n 3, 1) := by decide +kernel
theorem dX7_rule_35 : decode cX7_rule 35 = .ok (.if_icmp .ge 35, 3) := by decide +kernel
theorem dX7_rule_38 : decode cX7_rule 38 = .ok (.aload_n 0, 1) := by decide +kernel
theorem dX7_rule_39 : decode cX7_rule 39 = .ok (.iload_n 1, 1) := by decide +kernel
theorem dX7_rule_40 : decode cX7_rule 40 = .ok (.iload 4, 2) := by decide +kernel
theorem dX7_rule_42 : decode cX7_rule 42 = .ok (.iconst 0, 1) := by decide +kernel
theorem dX7_rule_43 : decode cX7_rule 43 = .ok (.invokevirtual 242, 3) := by decide +kernel
theorem dX7_rule_46 : decode cX7_rule 46 = .ok (.bipush (-4), 2) := by decide +kernel
theorem dX7_rule_48 : decode cX7_rule 48 = .ok (.if_icmp .ne 22, 3) := by decide +kernel
theorem dX7_rule_51 : decode cX7_rule 51 = .ok (.aload_n 0, 1) := by decide +kernel
theorem dX7_rule_52 : decode cX7_rule 52 = .ok (.iload_n 1, 1) := by decide +kernel
theorem dX7_rule_53 : decode cX7_rule 53 = .ok (.iload 4, 2) := by decide +kernel
theorem dX7_rule_55 : decode cX7_rule 55 = .ok (.iconst 1, 1) := by decide +kernel
theorem dX7_rule_56 : decode cX7_rule 56 = .ok (.invokevirtual 242, 3) := by decide +kernel
theorem dX7_rule_59 : decode cX7_rule 59 = .ok (.bipush (-4), 2) := by decide +kernel
theorem dX7_rule_61 : decode cX7_rule 61 = .ok (.if_icmp .ne 9, 3) := by decide +kernel
theorem dX7_rule_64 : decode cX7_rule 64 = .ok (.iload 5, 2) := by decide +kernel
theorem dX7_rule_66 : decode cX7_rule 66 = .ok (.istore_n 3, 1) := by decide +kernel
theorem dX7_rule_67 : decode cX7_rule 67 = .ok (.iload 4, 2) := by decide +kernel
theorem dX7_rule_69 : decode cX7_rule 69 = .ok (.istore_n 2, 1) := by decide +kernel
theorem dX7_rule_70 : decode cX7_rule 70 = .ok (.iinc 4 1, 3) := by decide +kernel
theorem dX7_rule_73 : decode cX7_rule 73 = .ok (.goto (-55), 3) := by decide +kernel
theorem dX7_rule_76 : decode cX7_rule 76 = .ok (.iload_n 2, 1) := by decide +kernel
theorem dX7_rule_77 : decode cX7_rule 77 = .ok (.ireturn, 1) := by decide +kernel
theorem dX7_wrong_0 : decode cX7_wrong 0 = .ok (.iload_n 1, 1) := by decide +kernel
theorem dX7_wrong_1 : decode cX7_wrong 1 = .ok (.invokestatic 181, 3) := by decide +kernel
theorem dX7_wrong_4 : decode cX7_wrong 4 = .ok (.ifCond .eq 13, 3) := by decide +kernel
theorem dX7_wrong_7 : decode cX7_wrong 7 = .ok (.iload_n 2, 1) := by decide +kernel
theorem dX7_wrong_8 : decode cX7_wrong 8 = .ok (.iconst 0, 1) := by decide +kernel
theorem dX7_wrong_9 : decode cX7_wrong 9 = .ok (.bipush 31, 2) := by decide +kernel
theorem dX7_wrong_11 : decode cX7_wrong 11 = .ok (.invokestatic 105, 3) := by decide +kernel
theorem dX7_wrong_14 : decode cX7_wrong 14 = .ok (.ifCond .ne 5, 3) := by decide +kernel
theorem dX7_wrong_17 : decode cX7_wrong 17 = .ok (.iconst (-1), 1) := by decide +kernel
theorem dX7_wrong_18 : decode cX7_wrong 18 = .ok (.ireturn, 1) := by decide +kernel
theorem dX7_wrong_19 : decode cX7_wrong 19 = .ok (.aload_n 0, 1) := by decide +kernel
theorem dX7_wrong_20 : decode cX7_wrong 20 = .ok (.iload_n 1, 1) := by decide +kernel
theorem dX7_wrong_21 : decode cX7_wrong 21 = .ok (.iload_n 2, 1) := by decide +kernel
theorem dX7_wrong_22 : decode cX7_wrong 22 = .ok (.iload_n 3, 1) := by decide +kernel
theorem dX7_wrong_23 : decode cX7_wrong 23 = .ok (.invokevirtual 242, 3) := by decide +kernel
theorem dX7_wrong_26 : decode cX7_wrong 26 = .ok (.ireturn, 1) := by decide +kernel
theorem dX7_byTurns_0 : decode cX7_byTurns 0 = .ok (.iload_n 1, 1) := by decide +kernel
theorem dX7_byTurns_1 : decode cX7_byTurns 1 = .ok (.iconst 0, 1) := by decide +kernel
theorem dX7_byTurns_2 : decode cX7_byTurns 2 = .ok (.iconst 2, 1) := by decide +kernel
theorem dX7_byTurns_3 : decode cX7_byTurns 3 = .ok (.invokestatic 105, 3) := by decide +kernel
theorem dX7_byTurns_6 : decode cX7_byTurns 6 = .ok (.ifCond .eq 26, 3) := by decide +kernel
theorem dX7_byTurns_9 : decode cX7_byTurns 9 = .ok (.aload_n 0, 1) := by decide +kernel
theorem dX7_byTurns_10 : decode cX7_byTurns 10 = .ok (.getfield 34, 3) := by decide +kernel
theorem dX7_byTurns_13 : decode cX7_byTurns 13 = .ok (.aload_n 0, 1) := by decide +kernel
theorem dX7_byTurns_14 : decode cX7_byTurns 14 = .ok (.aload_n 0, 1) := by decide +kernel
theorem dX7_byTurns_15 : decode cX7_byTurns 15 = .ok (.getfield 34, 3) := by decide +kernel
theorem dX7_byTurns_18 : decode cX7_byTurns 18 = .ok (.getfield 167, 3) := by decide +kernel
theorem dX7_byTurns_21 : decode cX7_byTurns 21 = .ok (.invokevirtual 160, 3) := by decide +kernel
theorem dX7_byTurns_24 : decode cX7_byTurns 24 = .ok (.iload_n 1, 1) := by decide +kernel
theorem dX7_byTurns_25 : decode cX7_byTurns 25 = .ok (.iconst 0, 1) := by decide +kernel
theorem dX7_byTurns_26 : decode cX7_byTurns 26 = .ok (.invokestatic 246, 3) := by decide +kernel
theorem dX7_byTurns_29 : decode cX7_byTurns 29 = .ok (.goto 4, 3) := by decide +kernel
theorem dX7_byTurns_32 : decode cX7_byTurns 32 = .ok (.iconst (-1), 1) := by decide +kernel
theorem dX7_byTurns_33 : decode cX7_byTurns 33 = .ok (.ireturn, 1) := by decide +kernel
theorem dX7_mean_0 : decode cX7_mean 0 = .ok (.iload_n 1, 1) := by decide +kernel
theorem dX7_mean_1 : decode cX7_mean 1 = .ok (.iconst 0, 1) := by decide +kernel
theorem dX7_mean_2 : decode cX7_mean 2 = .ok (.iconst 3, 1) := by decide +kernel
theorem dX7_mean_3 : decode cX7_mean 3 = .ok (.invokestatic 105, 3) := by decide +kernel
theorem dX7_mean_6 : decode cX7_mean 6 = .ok (.ifCond .eq 12, 3) := by decide +kernel
theorem dX7_mean_9 : decode cX7_mean 9 = .ok (.iload_n 2, 1) := by decide +kernel
theorem dX7_mean_10 : decode cX7_mean 10 = .ok (.iconst 0, 1) := by decide +kernel
theorem dX7_mean_11 : decode cX7_mean 11 = .ok (.iconst 1, 1) := by decide +kernel
theorem dX7_mean_12 : decode cX7_mean 12 = .ok (.invokestatic 105, 3) := by decide +kernel
theorem dX7_mean_15 : decode cX7_mean 15 = .ok (.ifCond .ne 5, 3) := by decide +kernel
theorem dX7_mean_18 : decode cX7_mean 18 = .ok (.iconst (-1), 1) := by decide +kernel
theorem dX7_mean_19 : decode cX7_mean 19 = .ok (.ireturn, 1) := by decide +kernel
theorem dX7_mean_20 : decode cX7_mean 20 = .ok (.aload_n 0, 1) := by decide +kernel
theorem dX7_mean_21 : decode cX7_mean 21 = .ok (.getfield 34, 3) := by decide +kernel
theorem dX7_mean_24 : decode cX7_mean 24 = .ok (.invokevirtual 250, 3) := by decide +kernel
theorem dX7_mean_27 : decode cX7_mean 27 = .ok (.istore_n 3, 1) := by decide +kernel
theorem dX7_mean_28 : decode cX7_mean 28 = .ok (.aload_n 0, 1) := by decide +kernel
theorem dX7_mean_29 : decode cX7_mean 29 = .ok (.getfield 34, 3) := by decide +kernel
theorem dX7_mean_32 : decode cX7_mean 32 = .ok (.aload_n 0, 1) := by decide +kernel
theorem dX7_mean_33 : decode cX7_mean 33 = .ok (.aload_n 0, 1) := by decide +kernel
theorem dX7_mean_34 : decode cX7_mean 34 = .ok (.getfield 34, 3) := by decide +kernel
theorem dX7_mean_37 : decode cX7_mean 37 = .ok (.getfield 167, 3) := by decide +kernel
theorem dX7_mean_40 : decode cX7_mean 40 = .ok (.invokevirtual 160, 3) := by decide +kernel
theorem dX7_mean_43 : decode cX7_mean 43 = .ok (.iload_n 1, 1) := by decide +kernel
theorem dX7_mean_44 : decode cX7_mean 44 = .ok (.iload_n 3, 1) := by decide +kernel
theorem dX7_mean_45 : decode cX7_mean 45 = .ok (.invokestatic 253, 3) := by decide +kernel
theorem dX7_mean_48 : decode cX7_mean 48 = .ok (.istore 4, 2) := by decide +kernel
theorem dX7_mean_50 : decode cX7_mean 50 = .ok (.iload_n 3, 1) := by decide +kernel
theorem dX7_mean_51 : decode cX7_mean 51 = .ok (.iload_n 1, 1) := by decide +kernel
theorem dX7_mean_52 : decode cX7_mean 52 = .ok (.invokestatic 256, 3) := by decide +kernel
theorem dX7_mean_55 : decode cX7_mean 55 = .ok (.istore 5, 2) := by decide +kernel
theorem dX7_mean_57 : decode cX7_mean 57 = .ok (.iload 4, 2) := by decide +kernel
theorem dX7_mean_59 : decode cX7_mean 59 = .ok (.iload 5, 2) := by decide +kernel
theorem dX7_mean_61 : decode cX7_mean 61 = .ok (.invokestatic 259, 3) := by decide +kernel
theorem dX7_mean_64 : decode cX7_mean 64 = .ok (.istore 6, 2) := by decide +kernel
theorem dX7_mean_66 : decode cX7_mean 66 = .ok (.iload 6, 2) := by decide +kernel
theorem dX7_mean_68 : decode cX7_mean 68 = .ok (.ifCond .ne 5, 3) := by decide +kernel
theorem dX7_mean_71 : decode cX7_mean 71 = .ok (.iconst 0, 1) := by decide +kernel
theorem dX7_mean_72 : decode cX7_mean 72 = .ok (.ireturn, 1) := by decide +kernel
theorem dX7_mean_73 : decode cX7_mean 73 = .ok (.iload_n 2, 1) := by decide +kernel
theorem dX7_mean_74 : decode cX7_mean 74 = .ok (.ifCond .ne 11, 3) := by decide +kernel
theorem dX7_mean_77 : decode cX7_mean 77 = .ok (.iload 4, 2) := by decide +kernel
theorem dX7_mean_79 : decode cX7_mean 79 = .ok (.iload 6, 2) := by decide +kernel
theorem dX7_mean_81 : decode cX7_mean 81 = .ok (.idiv, 1) := by decide +kernel
theorem dX7_mean_82 : decode cX7_mean 82 = .ok (.goto 8, 3) := by decide +kernel
theorem dX7_mean_85 : decode cX7_mean 85 = .ok (.iload 5, 2) := by decide +kernel
theorem dX7_mean_87 : decode cX7_mean 87 = .ok (.iload 6, 2) := by decide +kernel
theorem dX7_mean_89 : decode cX7_mean 89 = .ok (.idiv, 1) := by decide +kernel
theorem dX7_mean_90 : decode cX7_mean 90 = .ok (.ireturn, 1) := by decide +kernel
theorem dX7_year_0 : decode cX7_year 0 = .ok (.iload_n 1, 1) := by decide +kernel
theorem dX7_year_1 : decode cX7_year 1 = .ok (.iconst 0, 1) := by decide +kernel
theorem dX7_year_2 : decode cX7_year 2 = .ok (.sipush 9999, 3) := by decide +kernel
theorem dX7_year_5 : decode cX7_year 5 = .ok (.invokestatic 105, 3) := by decide +kernel
theorem dX7_year_8 : decode cX7_year 8 = .ok (.ifCond .eq 22, 3) := by decide +kernel
theorem dX7_year_11 : decode cX7_year 11 = .ok (.iload_n 2, 1) := by decide +kernel
theorem dX7_year_12 : decode cX7_year 12 = .ok (.iconst 1, 1) := by decide +kernel
theorem dX7_year_13 : decode cX7_year 13 = .ok (.bipush 60, 2) := by decide +kernel
theorem dX7_year_15 : decode cX7_year 15 = .ok (.invokestatic 105, 3) := by decide +kernel
theorem dX7_year_18 : decode cX7_year 18 = .ok (.ifCond .eq 12, 3) := by decide +kernel
theorem dX7_year_21 : decode cX7_year 21 = .ok (.iload_n 3, 1) := by decide +kernel
theorem dX7_year_22 : decode cX7_year 22 = .ok (.iconst 0, 1) := by decide +kernel
theorem dX7_year_23 : decode cX7_year 23 = .ok (.iconst 1, 1) := by decide +kernel
theorem dX7_year_24 : decode cX7_year 24 = .ok (.invokestatic 105, 3) := by decide +kernel
theorem dX7_year_27 : decode cX7_year 27 = .ok (.ifCond .ne 5, 3) := by decide +kernel
theorem dX7_year_30 : decode cX7_year 30 = .ok (.iconst (-1), 1) := by decide +kernel
theorem dX7_year_31 : decode cX7_year 31 = .ok (.ireturn, 1) := by decide +kernel
theorem dX7_year_32 : decode cX7_year 32 = .ok (.aload_n 0, 1) := by decide +kernel
theorem dX7_year_33 : decode cX7_year 33 = .ok (.aload_n 0, 1) := by decide +kernel
theorem dX7_year_34 : decode cX7_year 34 = .ok (.getfield 34, 3) := by decide +kernel
theorem dX7_year_37 : decode cX7_year 37 = .ok (.getfield 167, 3) := by decide +kernel
theorem dX7_year_40 : decode cX7_year 40 = .ok (.invokevirtual 160, 3) := by decide +kernel
theorem dX7_year_43 : decode cX7_year 43 = .ok (.astore 4, 2) := by decide +kernel
theorem dX7_year_45 : decode cX7_year 45 = .ok (.iconst 0, 1) := by decide +kernel
theorem dX7_year_46 : decode cX7_year 46 = .ok (.istore 5, 2) := by decide +kernel
theorem dX7_year_48 : decode cX7_year 48 = .ok (.iconst 0, 1) := by decide +kernel
theorem dX7_year_49 : decode cX7_year 49 = .ok (.istore 6, 2) := by decide +kernel
theorem dX7_year_51 : decode cX7_year 51 = .ok (.iconst 0, 1) := by decide +kernel
theorem dX7_year_52 : decode cX7_year 52 = .ok (.istore 7, 2) := by decide +kernel
theorem dX7_year_54 : decode cX7_year 54 = .ok (.iload 7, 2) := by decide +kernel
theorem dX7_year_56 : decode cX7_year 56 = .ok (.iload_n 2, 1) := by decide +kernel
theorem dX7_year_57 : decode cX7_year 57 = .ok (.if_icmp .ge 67, 3) := by decide +kernel
theorem dX7_year_60 : decode cX7_year 60 = .ok (.aload_n 0, 1) := by decide +kernel
theorem dX7_year_61 : decode cX7_year 61 = .ok (.iload_n 1, 1) := by decide +kernel
theorem dX7_year_62 : decode cX7_year 62 = .ok (.iload 7, 2) := by decide +kernel
theorem dX7_year_64 : decode cX7_year 64 = .ok (.invokevirtual 262, 3) := by decide +kernel
theorem dX7_year_67 : decode cX7_year 67 = .ok (.istore 8, 2) := by decide +kernel
theorem dX7_year_69 : decode cX7_year 69 = .ok (.aload 4, 2) := by decide +kernel
theorem dX7_year_71 : decode cX7_year 71 = .ok (.iload 8, 2) := by decide +kernel
theorem dX7_year_73 : decode cX7_year 73 = .ok (.invokevirtual 198, 3) := by decide +kernel
theorem dX7_year_76 : decode cX7_year 76 = .ok (.istore 9, 2) := by decide +kernel
theorem dX7_year_78 : decode cX7_year 78 = .ok (.iload 5, 2) := by decide +kernel
theorem dX7_year_80 : decode cX7_year 80 = .ok (.aload_n 0, 1) := by decide +kernel
theorem dX7_year_81 : decode cX7_year 81 = .ok (.getfield 34, 3) := by decide +kernel
theorem dX7_year_84 : decode cX7_year 84 = .ok (.iload 8, 2) := by decide +kernel
theorem dX7_year_86 : decode cX7_year 86 = .ok (.iload 9, 2) := by decide +kernel
theorem dX7_year_88 : decode cX7_year 88 = .ok (.invokevirtual 265, 3) := by decide +kernel
theorem dX7_year_91 : decode cX7_year 91 = .ok (.iadd, 1) := by decide +kernel
theorem dX7_year_92 : decode cX7_year 92 = .ok (.istore 5, 2) := by decide +kernel
theorem dX7_year_94 : decode cX7_year 94 = .ok (.iload 6, 2) := by decide +kernel
theorem dX7_year_96 : decode cX7_year 96 = .ok (.aload_n 0, 1) := by decide +kernel
theorem dX7_year_97 : decode cX7_year 97 = .ok (.getfield 34, 3) := by decide +kernel
theorem dX7_year_100 : decode cX7_year 100 = .ok (.iload 8, 2) := by decide +kernel
theorem dX7_year_102 : decode cX7_year 102 = .ok (.iload 9, 2) := by decide +kernel
theorem dX7_year_104 : decode cX7_year 104 = .ok (.invokevirtual 178, 3) := by decide +kernel
theorem dX7_year_107 : decode cX7_year 107 = .ok (.ifCond .ne 7, 3) := by decide +kernel
theorem dX7_year_110 : decode cX7_year 110 = .ok (.iconst 1, 1) := by decide +kernel
theorem dX7_year_111 : decode cX7_year 111 = .ok (.goto 4, 3) := by decide +kernel
theorem dX7_year_114 : decode cX7_year 114 = .ok (.iconst 0, 1) := by decide +kernel
theorem dX7_year_115 : decode cX7_year 115 = .ok (.iadd, 1) := by decide +kernel
theorem dX7_year_116 : decode cX7_year 116 = .ok (.istore 6, 2) := by decide +kernel
theorem dX7_year_118 : decode cX7_year 118 = .ok (.iinc 7 1, 3) := by decide +kernel
theorem dX7_year_121 : decode cX7_year 121 = .ok (.goto (-67), 3) := by decide +kernel
theorem dX7_year_124 : decode cX7_year 124 = .ok (.iload_n 3, 1) := by decide +kernel
theorem dX7_year_125 : decode cX7_year 125 = .ok (.ifCond .ne 8, 3) := by decide +kernel
theorem dX7_year_128 : decode cX7_year 128 = .ok (.iload 5, 2) := by decide +kernel
theorem dX7_year_130 : decode cX7_year 130 = .ok (.goto 5, 3) := by decide +kernel
theorem dX7_year_133 : decode cX7_year 133 = .ok (.iload 6, 2) := by decide +kernel
theorem dX7_year_135 : decode cX7_year 135 = .ok (.ireturn, 1) := by decide +kernel
theorem dX7_keep_0 : decode cX7_keep 0 = .ok (.aload_n 0, 1) := by decide +kernel
theorem dX7_keep_1 : decode cX7_keep 1 = .ok (.getfield 51, 3) := by decide +kernel
theorem dX7_keep_4 : decode cX7_keep 4 = .ok (.invokevirtual 268, 3) := by decide +kernel
theorem dX7_keep_7 : decode cX7_keep 7 = .ok (.ifCond .eq 6, 3) := by decide +kernel
theorem dX7_keep_10 : decode cX7_keep 10 = .ok (.bipush (-3), 2) := by decide +kernel
theorem dX7_keep_12 : decode cX7_keep 12 = .ok (.ireturn, 1) := by decide +kernel
theorem dX7_keep_13 : decode cX7_keep 13 = .ok (.aload_n 0, 1) := by decide +kernel
theorem dX7_keep_14 : decode cX7_keep 14 = .ok (.getfield 51, 3) := by decide +kernel
theorem dX7_keep_17 : decode cX7_keep 17 = .ok (.aload_n 0, 1) := by decide +kernel
theorem dX7_keep_18 : decode cX7_keep 18 = .ok (.getfield 40, 3) := by decide +kernel
theorem dX7_keep_21 : decode cX7_keep 21 = .ok (.invokevirtual 171, 3) := by decide +kernel
theorem dX7_keep_24 : decode cX7_keep 24 = .ok (.aload_n 0, 1) := by decide +kernel
theorem dX7_keep_25 : decode cX7_keep 25 = .ok (.getfield 51, 3) := by decide +kernel
theorem dX7_keep_28 : decode cX7_keep 28 = .ok (.invokevirtual 188, 3) := by decide +kernel
theorem dX7_keep_31 : decode cX7_keep 31 = .ok (.ireturn, 1) := by decide +kernel
theorem dX7_back_0 : decode cX7_back 0 = .ok (.aload_n 0, 1) := by decide +kernel
theorem dX7_back_1 : decode cX7_back 1 = .ok (.getfield 51, 3) := by decide +kernel
theorem dX7_back_4 : decode cX7_back 4 = .ok (.invokevirtual 188, 3) := by decide +kernel
theorem dX7_back_7 : decode cX7_back 7 = .ok (.ifCond .ne 6, 3) := by decide +kernel
theorem dX7_back_10 : decode cX7_back 10 = .ok (.bipush (-2), 2) := by decide +kernel
theorem dX7_back_12 : decode cX7_back 12 = .ok (.ireturn, 1) := by decide +kernel
theorem dX7_back_13 : decode cX7_back 13 = .ok (.aload_n 0, 1) := by decide +kernel
theorem dX7_back_14 : decode cX7_back 14 = .ok (.getfield 51, 3) := by decide +kernel
theorem dX7_back_17 : decode cX7_back 17 = .ok (.aload_n 0, 1) := by decide +kernel
theorem dX7_back_18 : decode cX7_back 18 = .ok (.getfield 40, 3) := by decide +kernel
theorem dX7_back_21 : decode cX7_back 21 = .ok (.invokevirtual 189, 3) := by decide +kernel
theorem dX7_back_24 : decode cX7_back 24 = .ok (.aload_n 0, 1) := by decide +kernel
theorem dX7_back_25 : decode cX7_back 25 = .ok (.getfield 47, 3) := by decide +kernel
theorem dX7_back_28 : decode cX7_back 28 = .ok (.invokevirtual 120, 3) := by decide +kernel
theorem dX7_back_31 : decode cX7_back 31 = .ok (.aload_n 0, 1) := by decide +kernel
theorem dX7_back_32 : decode cX7_back 32 = .ok (.getfield 51, 3) := by decide +kernel
theorem dX7_back_35 : decode cX7_back 35 = .ok (.invokevirtual 188, 3) := by decide +kernel
theorem dX7_back_38 : decode cX7_back 38 = .ok (.ireturn, 1) := by decide +kernel
theorem dX7_count_0 : decode cX7_count 0 = .ok (.iload_n 1, 1) := by decide +kernel
theorem dX7_count_1 : decode cX7_count 1 = .ok (.tableswitch 165 0 11 #[63, 71, 79, 87, 98, 109, 117, 125, 133, 141, 149, 157], 63) := by decide +kernel
theorem dX7_count_64 : decode cX7_count 64 = .ok (.aload_n 0, 1) := by decide +kernel
theorem dX7_count_65 : decode cX7_count 65 = .ok (.getfield 34, 3) := by decide +kernel
theorem dX7_count_68 : decode cX7_count 68 = .ok (.invokevirtual 116, 3) := by decide +kernel
theorem dX7_count_71 : decode cX7_count 71 = .ok (.ireturn, 1) := by decide +kernel
theorem dX7_count_72 : decode cX7_count 72 = .ok (.aload_n 0, 1) := by decide +kernel
theorem dX7_count_73 : decode cX7_count 73 = .ok (.getfield 34, 3) := by decide +kernel
theorem dX7_count_76 : decode cX7_count 76 = .ok (.getfield 167, 3) := by decide +kernel
theorem dX7_count_79 : decode cX7_count 79 = .ok (.ireturn, 1) := by decide +kernel
theorem dX7_count_80 : decode cX7_count 80 = .ok (.aload_n 0, 1) := by decide +kernel
theorem dX7_count_81 : decode cX7_count 81 = .ok (.getfield 34, 3) := by decide +kernel
theorem dX7_count_84 : decode cX7_count 84 = .ok (.getfield 223, 3) := by decide +kernel
theorem dX7_count_87 : decode cX7_count 87 = .ok (.ireturn, 1) := by decide +kernel
theorem dX7_count_88 : decode cX7_count 88 = .ok (.aload_n 0, 1) := by decide +kernel
theorem dX7_count_89 : decode cX7_count 89 = .ok (.getfield 34, 3) := by decide +kernel
theorem dX7_count_92 : decode cX7_count 92 = .ok (.getfield 147, 3) := by decide +kernel
theorem dX7_count_95 : decode cX7_count 95 = .ok (.invokevirtual 113, 3) := by decide +kernel
theorem dX7_count_98 : decode cX7_count 98 = .ok (.ireturn, 1) := by decide +kernel
theorem dX7_count_99 : decode cX7_count 99 = .ok (.aload_n 0, 1) := by decide +kernel
theorem dX7_count_100 : decode cX7_count 100 = .ok (.getfield 40, 3) := by decide +kernel
theorem dX7_count_103 : decode cX7_count 103 = .ok (.getfield 150, 3) := by decide +kernel
theorem dX7_count_106 : decode cX7_count 106 = .ok (.invokevirtual 113, 3) := by decide +kernel
theorem dX7_count_109 : decode cX7_count 109 = .ok (.ireturn, 1) := by decide +kernel
theorem dX7_count_110 : decode cX7_count 110 = .ok (.aload_n 0, 1) := by decide +kernel
theorem dX7_count_111 : decode cX7_count 111 = .ok (.getfield 40, 3) := by decide +kernel
theorem dX7_count_114 : decode cX7_count 114 = .ok (.getfield 269, 3) := by decide +kernel
theorem dX7_count_117 : decode cX7_count 117 = .ok (.ireturn, 1) := by decide +kernel
theorem dX7_count_118 : decode cX7_count 118 = .ok (.aload_n 0, 1) := by decide +kernel
theorem dX7_count_119 : decode cX7_count 119 = .ok (.getfield 40, 3) := by decide +kernel
theorem dX7_count_122 : decode cX7_count 122 = .ok (.getfield 272, 3) := by decide +kernel
theorem dX7_count_125 : decode cX7_count 125 = .ok (.ireturn, 1) := by decide +kernel
theorem dX7_count_126 : decode cX7_count 126 = .ok (.aload_n 0, 1) := by decide +kernel
theorem dX7_count_127 : decode cX7_count 127 = .ok (.getfield 40, 3) := by decide +kernel
theorem dX7_count_130 : decode cX7_count 130 = .ok (.getfield 274, 3) := by decide +kernel
theorem dX7_count_133 : decode cX7_count 133 = .ok (.ireturn, 1) := by decide +kernel
theorem dX7_count_134 : decode cX7_count 134 = .ok (.aload_n 0, 1) := by decide +kernel
theorem dX7_count_135 : decode cX7_count 135 = .ok (.getfield 54, 3) := by decide +kernel
theorem dX7_count_138 : decode cX7_count 138 = .ok (.invokevirtual 113, 3) := by decide +kernel
theorem dX7_count_141 : decode cX7_count 141 = .ok (.ireturn, 1) := by decide +kernel
theorem dX7_count_142 : decode cX7_count 142 = .ok (.aload_n 0, 1) := by decide +kernel
theorem dX7_count_143 : decode cX7_count 143 = .ok (.getfield 47, 3) := by decide +kernel
theorem dX7_count_146 : decode cX7_count 146 = .ok (.invokevirtual 188, 3) := by decide +kernel
theorem dX7_count_149 : decode cX7_count 149 = .ok (.ireturn, 1) := by decide +kernel
theorem dX7_count_150 : decode cX7_count 150 = .ok (.aload_n 0, 1) := by decide +kernel
theorem dX7_count_151 : decode cX7_count 151 = .ok (.getfield 51, 3) := by decide +kernel
theorem dX7_count_154 : decode cX7_count 154 = .ok (.invokevirtual 188, 3) := by decide +kernel
theorem dX7_count_157 : decode cX7_count 157 = .ok (.ireturn, 1) := by decide +kernel
theorem dX7_count_158 : decode cX7_count 158 = .ok (.aload_n 0, 1) := by decide +kernel
theorem dX7_count_159 : decode cX7_count 159 = .ok (.getfield 14, 3) := by decide +kernel
theorem dX7_count_162 : decode cX7_count 162 = .ok (.invokevirtual 113, 3) := by decide +kernel
theorem dX7_count_165 : decode cX7_count 165 = .ok (.ireturn, 1) := by decide +kernel
theorem dX7_count_166 : decode cX7_count 166 = .ok (.iconst (-1), 1) := by decide +kernel
theorem dX7_count_167 : decode cX7_count 167 = .ok (.ireturn, 1) := by decide +kernel
theorem dX7_isWithin_0 : decode cX7_isWithin 0 = .ok (.iload_n 0, 1) := by decide +kernel
theorem dX7_isWithin_1 : decode cX7_isWithin 1 = .ok (.iload_n 1, 1) := by decide +kernel
theorem dX7_isWithin_2 : decode cX7_isWithin 2 = .ok (.if_icmp .lt 12, 3) := by decide +kernel
theorem dX7_isWithin_5 : decode cX7_isWithin 5 = .ok (.iload_n 0, 1) := by decide +kernel
theorem dX7_isWithin_6 : decode cX7_isWithin 6 = .ok (.iload_n 2, 1) := by decide +kernel
theorem dX7_isWithin_7 : decode cX7_isWithin 7 = .ok (.if_icmp .gt 7, 3) := by decide +kernel
theorem dX7_isWithin_10 : decode cX7_isWithin 10 = .ok (.iconst 1, 1) := by decide +kernel
theorem dX7_isWithin_11 : decode cX7_isWithin 11 = .ok (.goto 4, 3) := by decide +kernel
theorem dX7_isWithin_14 : decode cX7_isWithin 14 = .ok (.iconst 0, 1) := by decide +kernel
theorem dX7_isWithin_15 : decode cX7_isWithin 15 = .ok (.ireturn, 1) := by decide +kernel
theorem dX7_isSort_0 : decode cX7_isSort 0 = .ok (.iload_n 0, 1) := by decide +kernel
theorem dX7_isSort_1 : decode cX7_isSort 1 = .ok (.iconst 0, 1) := by decide +kernel
theorem dX7_isSort_2 : decode cX7_isSort 2 = .ok (.iconst 3, 1) := by decide +kernel
theorem dX7_isSort_3 : decode cX7_isSort 3 = .ok (.invokestatic 105, 3) := by decide +kernel
theorem dX7_isSort_6 : decode cX7_isSort 6 = .ok (.ireturn, 1) := by decide +kernel
theorem dX7_isDoing_0 : decode cX7_isDoing 0 = .ok (.iload_n 0, 1) := by decide +kernel
theorem dX7_isDoing_1 : decode cX7_isDoing 1 = .ok (.iconst 0, 1) := by decide +kernel
theorem dX7_isDoing_2 : decode cX7_isDoing 2 = .ok (.iconst 5, 1) := by decide +kernel
theorem dX7_isDoing_3 : decode cX7_isDoing 3 = .ok (.invokestatic 105, 3) := by decide +kernel
theorem dX7_isDoing_6 : decode cX7_isDoing 6 = .ok (.ireturn, 1) := by decide +kernel
theorem dX7_wordOf_0 : decode cX7_wordOf 0 = .ok (.bipush 6, 2) := by decide +kernel
theorem dX7_wordOf_2 : decode cX7_wordOf 2 = .ok (.iload_n 0, 1) := by decide +kernel
theorem dX7_wordOf_3 : decode cX7_wordOf 3 = .ok (.imul, 1) := by decide +kernel
theorem dX7_wordOf_4 : decode cX7_wordOf 4 = .ok (.iload_n 1, 1) := by decide +kernel
theorem dX7_wordOf_5 : decode cX7_wordOf 5 = .ok (.iadd, 1) := by decide +kernel
theorem dX7_wordOf_6 : decode cX7_wordOf 6 = .ok (.ireturn, 1) := by decide +kernel
theorem dX7_marksApart_0 : decode cX7_marksApart 0 = .ok (.iload_n 0, 1) := by decide +kernel
theorem dX7_marksApart_1 : decode cX7_marksApart 1 = .ok (.iload_n 1, 1) := by decide +kernel
theorem dX7_marksApart_2 : decode cX7_marksApart 2 = .ok (.ixor, 1) := by decide +kernel
theorem dX7_marksApart_3 : decode cX7_marksApart 3 = .ok (.invokestatic 237, 3) := by decide +kernel
theorem dX7_marksApart_6 : decode cX7_marksApart 6 = .ok (.ireturn, 1) := by decide +kernel
theorem dX7_learnerNow_0 : decode cX7_learnerNow 0 = .ok (.aload_n 0, 1) := by decide +kernel
theorem dX7_learnerNow_1 : decode cX7_learnerNow 1 = .ok (.getfield 68, 3) := by decide +kernel
theorem dX7_learnerNow_4 : decode cX7_learnerNow 4 = .ok (.iload_n 1, 1) := by decide +kernel
theorem dX7_learnerNow_5 : decode cX7_learnerNow 5 = .ok (.aload_n 0, 1) := by decide +kernel
theorem dX7_learnerNow_6 : decode cX7_learnerNow 6 = .ok (.getfield 34, 3) := by decide +kernel
theorem dX7_learnerNow_9 : decode cX7_learnerNow 9 = .ok (.getfield 223, 3) := by decide +kernel
theorem dX7_learnerNow_12 : decode cX7_learnerNow 12 = .ok (.invokevirtual 277, 3) := by decide +kernel
theorem dX7_learnerNow_15 : decode cX7_learnerNow 15 = .ok (.aload_n 0, 1) := by decide +kernel
theorem dX7_learnerNow_16 : decode cX7_learnerNow 16 = .ok (.getfield 68, 3) := by decide +kernel
theorem dX7_learnerNow_19 : decode cX7_learnerNow 19 = .ok (.aload_n 0, 1) := by decide +kernel
theorem dX7_learnerNow_20 : decode cX7_learnerNow 20 = .ok (.getfield 40, 3) := by decide +kernel
theorem dX7_learnerNow_23 : decode cX7_learnerNow 23 = .ok (.getfield 150, 3) := by decide +kernel
theorem dX7_learnerNow_26 : decode cX7_learnerNow 26 = .ok (.invokevirtual 280, 3) := by decide +kernel
theorem dX7_learnerNow_29 : decode cX7_learnerNow 29 = .ok (.aload_n 0, 1) := by decide +kernel
theorem dX7_learnerNow_30 : decode cX7_learnerNow 30 = .ok (.getfield 68, 3) := by decide +kernel
theorem dX7_learnerNow_33 : decode cX7_learnerNow 33 = .ok (.areturn, 1) := by decide +kernel
theorem dX7_fillTimes_0 : decode cX7_fillTimes 0 = .ok (.aload_n 0, 1) := by decide +kernel
theorem dX7_fillTimes_1 : decode cX7_fillTimes 1 = .ok (.getfield 57, 3) := by decide +kernel
theorem dX7_fillTimes_4 : decode cX7_fillTimes 4 = .ok (.invokevirtual 102, 3) := by decide +kernel
theorem dX7_fillTimes_7 : decode cX7_fillTimes 7 = .ok (.iconst 0, 1) := by decide +kernel
theorem dX7_fillTimes_8 : decode cX7_fillTimes 8 = .ok (.istore_n 2, 1) := by decide +kernel
theorem dX7_fillTimes_9 : decode cX7_fillTimes 9 = .ok (.iload_n 2, 1) := by decide +kernel
theorem dX7_fillTimes_10 : decode cX7_fillTimes 10 = .ok (.bipush 80, 2) := by decide +kernel
theorem dX7_fillTimes_12 : decode cX7_fillTimes 12 = .ok (.if_icmp .ge 28, 3) := by decide +kernel
theorem dX7_fillTimes_15 : decode cX7_fillTimes 15 = .ok (.aload_n 1, 1) := by decide +kernel
theorem dX7_fillTimes_16 : decode cX7_fillTimes 16 = .ok (.invokevirtual 284, 3) := by decide +kernel
theorem dX7_fillTimes_19 : decode cX7_fillTimes 19 = .ok (.istore_n 3, 1) := by decide +kernel
theorem dX7_fillTimes_20 : decode cX7_fillTimes 20 = .ok (.iload_n 2, 1) := by decide +kernel
theorem dX7_fillTimes_21 : decode cX7_fillTimes 21 = .ok (.bipush 20, 2) := by decide +kernel
theorem dX7_fillTimes_23 : decode cX7_fillTimes 23 = .ok (.if_icmp .lt 11, 3) := by decide +kernel
theorem dX7_fillTimes_26 : decode cX7_fillTimes 26 = .ok (.aload_n 0, 1) := by decide +kernel
theorem dX7_fillTimes_27 : decode cX7_fillTimes 27 = .ok (.getfield 57, 3) := by decide +kernel
theorem dX7_fillTimes_30 : decode cX7_fillTimes 30 = .ok (.iload_n 3, 1) := by decide +kernel
theorem dX7_fillTimes_31 : decode cX7_fillTimes 31 = .ok (.invokevirtual 93, 3) := by decide +kernel
theorem dX7_fillTimes_34 : decode cX7_fillTimes 34 = .ok (.iinc 2 1, 3) := by decide +kernel
theorem dX7_fillTimes_37 : decode cX7_fillTimes 37 = .ok (.goto (-28), 3) := by decide +kernel
theorem dX7_fillTimes_40 : decode cX7_fillTimes 40 = .ok (.return_, 1) := by decide +kernel
theorem dX7_comesRoundAfter_0 : decode cX7_comesRoundAfter 0 = .ok (.iconst 0, 1) := by decide +kernel
theorem dX7_comesRoundAfter_1 : decode cX7_comesRoundAfter 1 = .ok (.istore_n 2, 1) := by decide +kernel
theorem dX7_comesRoundAfter_2 : decode cX7_comesRoundAfter 2 = .ok (.iload_n 2, 1) := by decide +kernel
theorem dX7_comesRoundAfter_3 : decode cX7_comesRoundAfter 3 = .ok (.iload_n 1, 1) := by decide +kernel
theorem dX7_comesRoundAfter_4 : decode cX7_comesRoundAfter 4 = .ok (.if_icmp .ge 50, 3) := by decide +kernel
theorem dX7_comesRoundAfter_7 : decode cX7_comesRoundAfter 7 = .ok (.aload_n 0, 1) := by decide +kernel
theorem dX7_comesRoundAfter_8 : decode cX7_comesRoundAfter 8 = .ok (.getfield 57, 3) := by decide +kernel
theorem dX7_comesRoundAfter_11 : decode cX7_comesRoundAfter 11 = .ok (.iload_n 2, 1) := by decide +kernel
theorem dX7_comesRoundAfter_12 : decode cX7_comesRoundAfter 12 = .ok (.invokevirtual 128, 3) := by decide +kernel
theorem dX7_comesRoundAfter_15 : decode cX7_comesRoundAfter 15 = .ok (.istore_n 3, 1) := by decide +kernel
theorem dX7_comesRoundAfter_16 : decode cX7_comesRoundAfter 16 = .ok (.aload_n 0, 1) := by decide +kernel
theorem dX7_comesRoundAfter_17 : decode cX7_comesRoundAfter 17 = .ok (.getfield 57, 3) := by decide +kernel
theorem dX7_comesRoundAfter_20 : decode cX7_comesRoundAfter 20 = .ok (.iload_n 1, 1) := by decide +kernel
theorem dX7_comesRoundAfter_21 : decode cX7_comesRoundAfter 21 = .ok (.iload_n 2, 1) := by decide +kernel
theorem dX7_comesRoundAfter_22 : decode cX7_comesRoundAfter 22 = .ok (.iadd, 1) := by decide +kernel
theorem dX7_comesRoundAfter_23 : decode cX7_comesRoundAfter 23 = .ok (.invokevirtual 128, 3) := by decide +kernel
theorem dX7_comesRoundAfter_26 : decode cX7_comesRoundAfter 26 = .ok (.iload_n 3, 1) := by decide +kernel
theorem dX7_comesRoundAfter_27 : decode cX7_comesRoundAfter 27 = .ok (.if_icmp .ne 19, 3) := by decide +kernel
theorem dX7_comesRoundAfter_30 : decode cX7_comesRoundAfter 30 = .ok (.aload_n 0, 1) := by decide +kernel
theorem dX7_comesRoundAfter_31 : decode cX7_comesRoundAfter 31 = .ok (.getfield 57, 3) := by decide +kernel
theorem dX7_comesRoundAfter_34 : decode cX7_comesRoundAfter 34 = .ok (.iconst 2, 1) := by decide +kernel
theorem dX7_comesRoundAfter_35 : decode cX7_comesRoundAfter 35 = .ok (.iload_n 1, 1) := by decide +kernel
theorem dX7_comesRoundAfter_36 : decode cX7_comesRoundAfter 36 = .ok (.imul, 1) := by decide +kernel
theorem dX7_comesRoundAfter_37 : decode cX7_comesRoundAfter 37 = .ok (.iload_n 2, 1) := by decide +kernel
theorem dX7_comesRoundAfter_38 : decode cX7_comesRoundAfter 38 = .ok (.iadd, 1) := by decide +kernel
theorem dX7_comesRoundAfter_39 : decode cX7_comesRoundAfter 39 = .ok (.invokevirtual 128, 3) := by decide +kernel
theorem dX7_comesRoundAfter_42 : decode cX7_comesRoundAfter 42 = .ok (.iload_n 3, 1) := by decide +kernel
theorem dX7_comesRoundAfter_43 : decode cX7_comesRoundAfter 43 = .ok (.if_icmp .eq 5, 3) := by decide +kernel
theorem dX7_comesRoundAfter_46 : decode cX7_comesRoundAfter 46 = .ok (.iconst 0, 1) := by decide +kernel
theorem dX7_comesRoundAfter_47 : decode cX7_comesRoundAfter 47 = .ok (.ireturn, 1) := by decide +kernel
theorem dX7_comesRoundAfter_48 : decode cX7_comesRoundAfter 48 = .ok (.iinc 2 1, 3) := by decide +kernel
theorem dX7_comesRoundAfter_51 : decode cX7_comesRoundAfter 51 = .ok (.goto (-49), 3) := by decide +kernel
theorem dX7_comesRoundAfter_54 : decode cX7_comesRoundAfter 54 = .ok (.iconst 1, 1) := by decide +kernel
theorem dX7_comesRoundAfter_55 : decode cX7_comesRoundAfter 55 = .ok (.ireturn, 1) := by decide +kernel
theorem dX7_canBe_0 : decode cX7_canBe 0 = .ok (.aload_n 0, 1) := by decide +kernel
theorem dX7_canBe_1 : decode cX7_canBe 1 = .ok (.getfield 68, 3) := by decide +kernel
theorem dX7_canBe_4 : decode cX7_canBe 4 = .ok (.iload_n 1, 1) := by decide +kernel
theorem dX7_canBe_5 : decode cX7_canBe 5 = .ok (.iload_n 2, 1) := by decide +kernel
theorem dX7_canBe_6 : decode cX7_canBe 6 = .ok (.invokevirtual 277, 3) := by decide +kernel
theorem dX7_canBe_9 : decode cX7_canBe 9 = .ok (.iconst 0, 1) := by decide +kernel
theorem dX7_canBe_10 : decode cX7_canBe 10 = .ok (.istore_n 3, 1) := by decide +kernel
theorem dX7_canBe_11 : decode cX7_canBe 11 = .ok (.iload_n 3, 1) := by decide +kernel
theorem dX7_canBe_12 : decode cX7_canBe 12 = .ok (.aload_n 0, 1) := by decide +kernel
theorem dX7_canBe_13 : decode cX7_canBe 13 = .ok (.getfield 34, 3) := by decide +kernel
theorem dX7_canBe_16 : decode cX7_canBe 16 = .ok (.getfield 147, 3) := by decide +kernel
theorem dX7_canBe_19 : decode cX7_canBe 19 = .ok (.invokevirtual 113, 3) := by decide +kernel
theorem dX7_canBe_22 : decode cX7_canBe 22 = .ok (.if_icmp .ge 41, 3) := by decide +kernel
theorem dX7_canBe_25 : decode cX7_canBe 25 = .ok (.aload_n 0, 1) := by decide +kernel
theorem dX7_canBe_26 : decode cX7_canBe 26 = .ok (.getfield 68, 3) := by decide +kernel
theorem dX7_canBe_29 : decode cX7_canBe 29 = .ok (.aload_n 0, 1) := by decide +kernel
theorem dX7_canBe_30 : decode cX7_canBe 30 = .ok (.getfield 34, 3) := by decide +kernel
theorem dX7_canBe_33 : decode cX7_canBe 33 = .ok (.getfield 147, 3) := by decide +kernel
theorem dX7_canBe_36 : decode cX7_canBe 36 = .ok (.iload_n 3, 1) := by decide +kernel
theorem dX7_canBe_37 : decode cX7_canBe 37 = .ok (.invokevirtual 128, 3) := by decide +kernel
theorem dX7_canBe_40 : decode cX7_canBe 40 = .ok (.invokevirtual 198, 3) := by decide +kernel
theorem dX7_canBe_43 : decode cX7_canBe 43 = .ok (.istore 4, 2) := by decide +kernel
theorem dX7_canBe_45 : decode cX7_canBe 45 = .ok (.aload_n 0, 1) := by decide +kernel
theorem dX7_canBe_46 : decode cX7_canBe 46 = .ok (.iload_n 3, 1) := by decide +kernel
theorem dX7_canBe_47 : decode cX7_canBe 47 = .ok (.iload 4, 2) := by decide +kernel
theorem dX7_canBe_49 : decode cX7_canBe 49 = .ok (.invokevirtual 287, 3) := by decide +kernel
theorem dX7_canBe_52 : decode cX7_canBe 52 = .ok (.ifCond .eq 5, 3) := by decide +kernel
theorem dX7_canBe_55 : decode cX7_canBe 55 = .ok (.iconst 0, 1) := by decide +kernel
theorem dX7_canBe_56 : decode cX7_canBe 56 = .ok (.ireturn, 1) := by decide +kernel
theorem dX7_canBe_57 : decode cX7_canBe 57 = .ok (.iinc 3 1, 3) := by decide +kernel
theorem dX7_canBe_60 : decode cX7_canBe 60 = .ok (.goto (-49), 3) := by decide +kernel
theorem dX7_canBe_63 : decode cX7_canBe 63 = .ok (.iconst 1, 1) := by decide +kernel
theorem dX7_canBe_64 : decode cX7_canBe 64 = .ok (.ireturn, 1) := by decide +kernel
theorem dX7_speaksAgainst_0 : decode cX7_speaksAgainst 0 = .ok (.iconst 0, 1) := by decide +kernel
theorem dX7_speaksAgainst_1 : decode cX7_speaksAgainst 1 = .ok (.istore_n 3, 1) := by decide +kernel
theorem dX7_speaksAgainst_2 : decode cX7_speaksAgainst 2 = .ok (.iload_n 3, 1) := by decide +kernel
theorem dX7_speaksAgainst_3 : decode cX7_speaksAgainst 3 = .ok (.aload_n 0, 1) := by decide +kernel
theorem dX7_speaksAgainst_4 : decode cX7_speaksAgainst 4 = .ok (.getfield 54, 3) := by decide +kernel
theorem dX7_speaksAgainst_7 : decode cX7_speaksAgainst 7 = .ok (.invokevirtual 113, 3) := by decide +kernel
theorem dX7_speaksAgainst_10 : decode cX7_speaksAgainst 10 = .ok (.if_icmp .ge 39, 3) := by decide +kernel
theorem dX7_speaksAgainst_13 : decode cX7_speaksAgainst 13 = .ok (.aload_n 0, 1) := by decide +kernel
theorem dX7_speaksAgainst_14 : decode cX7_speaksAgainst 14 = .ok (.getfield 54, 3) := by decide +kernel
theorem dX7_speaksAgainst_17 : decode cX7_speaksAgainst 17 = .ok (.iload_n 3, 1) := by decide +kernel
theorem dX7_speaksAgainst_18 : decode cX7_speaksAgainst 18 = .ok (.invokevirtual 128, 3) := by decide +kernel
theorem dX7_speaksAgainst_21 : decode cX7_speaksAgainst 21 = .ok (.istore 4, 2) := by decide +kernel
theorem dX7_speaksAgainst_23 : decode cX7_speaksAgainst 23 = .ok (.iload 4, 2) := by decide +kernel
theorem dX7_speaksAgainst_25 : decode cX7_speaksAgainst 25 = .ok (.bipush 6, 2) := by decide +kernel
theorem dX7_speaksAgainst_27 : decode cX7_speaksAgainst 27 = .ok (.idiv, 1) := by decide +kernel
theorem dX7_speaksAgainst_28 : decode cX7_speaksAgainst 28 = .ok (.iload_n 1, 1) := by decide +kernel
theorem dX7_speaksAgainst_29 : decode cX7_speaksAgainst 29 = .ok (.if_icmp .ne 14, 3) := by decide +kernel
theorem dX7_speaksAgainst_32 : decode cX7_speaksAgainst 32 = .ok (.iload 4, 2) := by decide +kernel
theorem dX7_speaksAgainst_34 : decode cX7_speaksAgainst 34 = .ok (.bipush 6, 2) := by decide +kernel
theorem dX7_speaksAgainst_36 : decode cX7_speaksAgainst 36 = .ok (.irem, 1) := by decide +kernel
theorem dX7_speaksAgainst_37 : decode cX7_speaksAgainst 37 = .ok (.iload_n 2, 1) := by decide +kernel
theorem dX7_speaksAgainst_38 : decode cX7_speaksAgainst 38 = .ok (.if_icmp .eq 5, 3) := by decide +kernel
theorem dX7_speaksAgainst_41 : decode cX7_speaksAgainst 41 = .ok (.iconst 1, 1) := by decide +kernel
theorem dX7_speaksAgainst_42 : decode cX7_speaksAgainst 42 = .ok (.ireturn, 1) := by decide +kernel
theorem dX7_speaksAgainst_43 : decode cX7_speaksAgainst 43 = .ok (.iinc 3 1, 3) := by decide +kernel
theorem dX7_speaksAgainst_46 : decode cX7_speaksAgainst 46 = .ok (.goto (-44), 3) := by decide +kernel
theorem dX7_speaksAgainst_49 : decode cX7_speaksAgainst 49 = .ok (.iconst 0, 1) := by decide +kernel
theorem dX7_speaksAgainst_50 : decode cX7_speaksAgainst 50 = .ok (.ireturn, 1) := by decide +kernel
theorem dX7_mostAlike_0 : decode cX7_mostAlike 0 = .ok (.iconst 0, 1) := by decide +kernel
theorem dX7_mostAlike_1 : decode cX7_mostAlike 1 = .ok (.istore_n 3, 1) := by decide +kernel
theorem dX7_mostAlike_2 : decode cX7_mostAlike 2 = .ok (.aload_n 0, 1) := by decide +kernel
theorem dX7_mostAlike_3 : decode cX7_mostAlike 3 = .ok (.getfield 60, 3) := by decide +kernel
theorem dX7_mostAlike_6 : decode cX7_mostAlike 6 = .ok (.bipush 6, 2) := by decide +kernel
theorem dX7_mostAlike_8 : decode cX7_mostAlike 8 = .ok (.iconst 0, 1) := by decide +kernel
theorem dX7_mostAlike_9 : decode cX7_mostAlike 9 = .ok (.invokevirtual 290, 3) := by decide +kernel
theorem dX7_mostAlike_12 : decode cX7_mostAlike 12 = .ok (.iconst 0, 1) := by decide +kernel
theorem dX7_mostAlike_13 : decode cX7_mostAlike 13 = .ok (.istore 4, 2) := by decide +kernel
theorem dX7_mostAlike_15 : decode cX7_mostAlike 15 = .ok (.iload 4, 2) := by decide +kernel
theorem dX7_mostAlike_17 : decode cX7_mostAlike 17 = .ok (.iconst 4, 1) := by decide +kernel
theorem dX7_mostAlike_18 : decode cX7_mostAlike 18 = .ok (.if_icmp .ge 65, 3) := by decide +kernel
theorem dX7_mostAlike_21 : decode cX7_mostAlike 21 = .ok (.iload_n 1, 1) := by decide +kernel
theorem dX7_mostAlike_22 : decode cX7_mostAlike 22 = .ok (.iload 4, 2) := by decide +kernel
theorem dX7_mostAlike_24 : decode cX7_mostAlike 24 = .ok (.ishr, 1) := by decide +kernel
theorem dX7_mostAlike_25 : decode cX7_mostAlike 25 = .ok (.iconst 1, 1) := by decide +kernel
theorem dX7_mostAlike_26 : decode cX7_mostAlike 26 = .ok (.iand, 1) := by decide +kernel
theorem dX7_mostAlike_27 : decode cX7_mostAlike 27 = .ok (.iconst 1, 1) := by decide +kernel
theorem dX7_mostAlike_28 : decode cX7_mostAlike 28 = .ok (.if_icmp .ne 49, 3) := by decide +kernel
theorem dX7_mostAlike_31 : decode cX7_mostAlike 31 = .ok (.aload_n 0, 1) := by decide +kernel
theorem dX7_mostAlike_32 : decode cX7_mostAlike 32 = .ok (.iload 4, 2) := by decide +kernel
theorem dX7_mostAlike_34 : decode cX7_mostAlike 34 = .ok (.invokevirtual 160, 3) := by decide +kernel
theorem dX7_mostAlike_37 : decode cX7_mostAlike 37 = .ok (.iload_n 2, 1) := by decide +kernel
theorem dX7_mostAlike_38 : decode cX7_mostAlike 38 = .ok (.invokevirtual 164, 3) := by decide +kernel
theorem dX7_mostAlike_41 : decode cX7_mostAlike 41 = .ok (.istore 5, 2) := by decide +kernel
theorem dX7_mostAlike_43 : decode cX7_mostAlike 43 = .ok (.aload_n 0, 1) := by decide +kernel
theorem dX7_mostAlike_44 : decode cX7_mostAlike 44 = .ok (.getfield 60, 3) := by decide +kernel
theorem dX7_mostAlike_47 : decode cX7_mostAlike 47 = .ok (.iload 5, 2) := by decide +kernel
theorem dX7_mostAlike_49 : decode cX7_mostAlike 49 = .ok (.aload_n 0, 1) := by decide +kernel
theorem dX7_mostAlike_50 : decode cX7_mostAlike 50 = .ok (.getfield 60, 3) := by decide +kernel
theorem dX7_mostAlike_53 : decode cX7_mostAlike 53 = .ok (.iload 5, 2) := by decide +kernel
theorem dX7_mostAlike_55 : decode cX7_mostAlike 55 = .ok (.invokevirtual 128, 3) := by decide +kernel
theorem dX7_mostAlike_58 : decode cX7_mostAlike 58 = .ok (.iconst 1, 1) := by decide +kernel
theorem dX7_mostAlike_59 : decode cX7_mostAlike 59 = .ok (.iadd, 1) := by decide +kernel
theorem dX7_mostAlike_60 : decode cX7_mostAlike 60 = .ok (.invokevirtual 293, 3) := by decide +kernel
theorem dX7_mostAlike_63 : decode cX7_mostAlike 63 = .ok (.iload_n 3, 1) := by decide +kernel
theorem dX7_mostAlike_64 : decode cX7_mostAlike 64 = .ok (.aload_n 0, 1) := by decide +kernel
theorem dX7_mostAlike_65 : decode cX7_mostAlike 65 = .ok (.getfield 60, 3) := by decide +kernel
theorem dX7_mostAlike_68 : decode cX7_mostAlike 68 = .ok (.iload 5, 2) := by decide +kernel
theorem dX7_mostAlike_70 : decode cX7_mostAlike 70 = .ok (.invokevirtual 128, 3) := by decide +kernel
theorem dX7_mostAlike_73 : decode cX7_mostAlike 73 = .ok (.invokestatic 296, 3) := by decide +kernel
theorem dX7_mostAlike_76 : decode cX7_mostAlike 76 = .ok (.istore_n 3, 1) := by decide +kernel
theorem dX7_mostAlike_77 : decode cX7_mostAlike 77 = .ok (.iinc 4 1, 3) := by decide +kernel
theorem dX7_mostAlike_80 : decode cX7_mostAlike 80 = .ok (.goto (-65), 3) := by decide +kernel
theorem dX7_mostAlike_83 : decode cX7_mostAlike 83 = .ok (.iload_n 3, 1) := by decide +kernel
theorem dX7_mostAlike_84 : decode cX7_mostAlike 84 = .ok (.ireturn, 1) := by decide +kernel
theorem dX7_firstWrong_0 : decode cX7_firstWrong 0 = .ok (.iconst 0, 1) := by decide +kernel
theorem dX7_firstWrong_1 : decode cX7_firstWrong 1 = .ok (.istore 4, 2) := by decide +kernel
theorem dX7_firstWrong_3 : decode cX7_firstWrong 3 = .ok (.iload 4, 2) := by decide +kernel
theorem dX7_firstWrong_5 : decode cX7_firstWrong 5 = .ok (.aload_n 0, 1) := by decide +kernel
theorem dX7_firstWrong_6 : decode cX7_firstWrong 6 = .ok (.getfield 34, 3) := by decide +kernel
theorem dX7_firstWrong_9 : decode cX7_firstWrong 9 = .ok (.invokevirtual 116, 3) := by decide +kernel
theorem dX7_firstWrong_12 : decode cX7_firstWrong 12 = .ok (.if_icmp .ge 87, 3) := by decide +kernel
theorem dX7_firstWrong_15 : decode cX7_firstWrong 15 = .ok (.aload_n 0, 1) := by decide +kernel
theorem dX7_firstWrong_16 : decode cX7_firstWrong 16 = .ok (.getfield 34, 3) := by decide +kernel
theorem dX7_firstWrong_19 : decode cX7_firstWrong 19 = .ok (.getfield 125, 3) := by decide +kernel
theorem dX7_firstWrong_22 : decode cX7_firstWrong 22 = .ok (.iload 4, 2) := by decide +kernel
theorem dX7_firstWrong_24 : decode cX7_firstWrong 24 = .ok (.invokevirtual 128, 3) := by decide +kernel
theorem dX7_firstWrong_27 : decode cX7_firstWrong 27 = .ok (.iload_n 2, 1) := by decide +kernel
theorem dX7_firstWrong_28 : decode cX7_firstWrong 28 = .ok (.iand, 1) := by decide +kernel
theorem dX7_firstWrong_29 : decode cX7_firstWrong 29 = .ok (.iload_n 2, 1) := by decide +kernel
theorem dX7_firstWrong_30 : decode cX7_firstWrong 30 = .ok (.if_icmp .ne 7, 3) := by decide +kernel
theorem dX7_firstWrong_33 : decode cX7_firstWrong 33 = .ok (.iconst 1, 1) := by decide +kernel
theorem dX7_firstWrong_34 : decode cX7_firstWrong 34 = .ok (.goto 4, 3) := by decide +kernel
theorem dX7_firstWrong_37 : decode cX7_firstWrong 37 = .ok (.iconst 0, 1) := by decide +kernel
theorem dX7_firstWrong_38 : decode cX7_firstWrong 38 = .ok (.istore 5, 2) := by decide +kernel
theorem dX7_firstWrong_40 : decode cX7_firstWrong 40 = .ok (.aload_n 0, 1) := by decide +kernel
theorem dX7_firstWrong_41 : decode cX7_firstWrong 41 = .ok (.getfield 34, 3) := by decide +kernel
theorem dX7_firstWrong_44 : decode cX7_firstWrong 44 = .ok (.getfield 132, 3) := by decide +kernel
theorem dX7_firstWrong_47 : decode cX7_firstWrong 47 = .ok (.iload 4, 2) := by decide +kernel
theorem dX7_firstWrong_49 : decode cX7_firstWrong 49 = .ok (.invokevirtual 128, 3) := by decide +kernel
theorem dX7_firstWrong_52 : decode cX7_firstWrong 52 = .ok (.iload_n 1, 1) := by decide +kernel
theorem dX7_firstWrong_53 : decode cX7_firstWrong 53 = .ok (.if_icmp .ne 7, 3) := by decide +kernel
theorem dX7_firstWrong_56 : decode cX7_firstWrong 56 = .ok (.iconst 1, 1) := by decide +kernel
theorem dX7_firstWrong_57 : decode cX7_firstWrong 57 = .ok (.goto 4, 3) := by decide +kernel
theorem dX7_firstWrong_60 : decode cX7_firstWrong 60 = .ok (.iconst 0, 1) := by decide +kernel
theorem dX7_firstWrong_61 : decode cX7_firstWrong 61 = .ok (.istore 6, 2) := by decide +kernel
theorem dX7_firstWrong_63 : decode cX7_firstWrong 63 = .ok (.iload_n 3, 1) := by decide +kernel
theorem dX7_firstWrong_64 : decode cX7_firstWrong 64 = .ok (.ifCond .eq 16, 3) := by decide +kernel
theorem dX7_firstWrong_67 : decode cX7_firstWrong 67 = .ok (.iload 6, 2) := by decide +kernel
theorem dX7_firstWrong_69 : decode cX7_firstWrong 69 = .ok (.ifCond .eq 24, 3) := by decide +kernel
theorem dX7_firstWrong_72 : decode cX7_firstWrong 72 = .ok (.iload 5, 2) := by decide +kernel
theorem dX7_firstWrong_74 : decode cX7_firstWrong 74 = .ok (.ifCond .ne 19, 3) := by decide +kernel
theorem dX7_firstWrong_77 : decode cX7_firstWrong 77 = .ok (.goto 13, 3) := by decide +kernel
theorem dX7_firstWrong_80 : decode cX7_firstWrong 80 = .ok (.iload 5, 2) := by decide +kernel
theorem dX7_firstWrong_82 : decode cX7_firstWrong 82 = .ok (.ifCond .eq 11, 3) := by decide +kernel
theorem dX7_firstWrong_85 : decode cX7_firstWrong 85 = .ok (.iload 6, 2) := by decide +kernel
theorem dX7_firstWrong_87 : decode cX7_firstWrong 87 = .ok (.ifCond .ne 6, 3) := by decide +kernel
theorem dX7_firstWrong_90 : decode cX7_firstWrong 90 = .ok (.iload 4, 2) := by decide +kernel
theorem dX7_firstWrong_92 : decode cX7_firstWrong 92 = .ok (.ireturn, 1) := by decide +kernel
theorem dX7_firstWrong_93 : decode cX7_firstWrong 93 = .ok (.iinc 4 1, 3) := by decide +kernel
theorem dX7_firstWrong_96 : decode cX7_firstWrong 96 = .ok (.goto (-93), 3) := by decide +kernel
theorem dX7_firstWrong_99 : decode cX7_firstWrong 99 = .ok (.bipush (-4), 2) := by decide +kernel
theorem dX7_firstWrong_101 : decode cX7_firstWrong 101 = .ok (.ireturn, 1) := by decide +kernel
theorem dX7_drawnKind_0 : decode cX7_drawnKind 0 = .ok (.aload_n 0, 1) := by decide +kernel
theorem dX7_drawnKind_1 : decode cX7_drawnKind 1 = .ok (.getfield 34, 3) := by decide +kernel
theorem dX7_drawnKind_4 : decode cX7_drawnKind 4 = .ok (.invokevirtual 116, 3) := by decide +kernel
theorem dX7_drawnKind_7 : decode cX7_drawnKind 7 = .ok (.istore_n 3, 1) := by decide +kernel
theorem dX7_drawnKind_8 : decode cX7_drawnKind 8 = .ok (.iload_n 3, 1) := by decide +kernel
theorem dX7_drawnKind_9 : decode cX7_drawnKind 9 = .ok (.ifCond .gt 5, 3) := by decide +kernel
theorem dX7_drawnKind_12 : decode cX7_drawnKind 12 = .ok (.iconst 0, 1) := by decide +kernel
theorem dX7_drawnKind_13 : decode cX7_drawnKind 13 = .ok (.ireturn, 1) := by decide +kernel
theorem dX7_drawnKind_14 : decode cX7_drawnKind 14 = .ok (.ldc2_w 301, 3) := by decide +kernel
theorem dX7_drawnKind_17 : decode cX7_drawnKind 17 = .ok (.iload_n 1, 1) := by decide +kernel
theorem dX7_drawnKind_18 : decode cX7_drawnKind 18 = .ok (.i2l, 1) := by decide +kernel
theorem dX7_drawnKind_19 : decode cX7_drawnKind 19 = .ok (.lmul, 1) := by decide +kernel
theorem dX7_drawnKind_20 : decode cX7_drawnKind 20 = .ok (.ldc2_w 303, 3) := by decide +kernel
theorem dX7_drawnKind_23 : decode cX7_drawnKind 23 = .ok (.iload_n 2, 1) := by decide +kernel
theorem dX7_drawnKind_24 : decode cX7_drawnKind 24 = .ok (.i2l, 1) := by decide +kernel
theorem dX7_drawnKind_25 : decode cX7_drawnKind 25 = .ok (.lmul, 1) := by decide +kernel
theorem dX7_drawnKind_26 : decode cX7_drawnKind 26 = .ok (.ladd, 1) := by decide +kernel
theorem dX7_drawnKind_27 : decode cX7_drawnKind 27 = .ok (.lconst 1, 1) := by decide +kernel
theorem dX7_drawnKind_28 : decode cX7_drawnKind 28 = .ok (.ladd, 1) := by decide +kernel
theorem dX7_drawnKind_29 : decode cX7_drawnKind 29 = .ok (.lstore 4, 2) := by decide +kernel
theorem dX7_drawnKind_31 : decode cX7_drawnKind 31 = .ok (.lload 4, 2) := by decide +kernel
theorem dX7_drawnKind_33 : decode cX7_drawnKind 33 = .ok (.lload 4, 2) := by decide +kernel
theorem dX7_drawnKind_35 : decode cX7_drawnKind 35 = .ok (.lmul, 1) := by decide +kernel
theorem dX7_drawnKind_36 : decode cX7_drawnKind 36 = .ok (.ldc2_w 305, 3) := by decide +kernel
theorem dX7_drawnKind_39 : decode cX7_drawnKind 39 = .ok (.lrem, 1) := by decide +kernel
theorem dX7_drawnKind_40 : decode cX7_drawnKind 40 = .ok (.ldc2_w 307, 3) := by decide +kernel
theorem dX7_drawnKind_43 : decode cX7_drawnKind 43 = .ok (.ldiv, 1) := by decide +kernel
theorem dX7_drawnKind_44 : decode cX7_drawnKind 44 = .ok (.iload_n 3, 1) := by decide +kernel
theorem dX7_drawnKind_45 : decode cX7_drawnKind 45 = .ok (.i2l, 1) := by decide +kernel
theorem dX7_drawnKind_46 : decode cX7_drawnKind 46 = .ok (.lrem, 1) := by decide +kernel
theorem dX7_drawnKind_47 : decode cX7_drawnKind 47 = .ok (.l2i, 1) := by decide +kernel
theorem dX7_drawnKind_48 : decode cX7_drawnKind 48 = .ok (.ireturn, 1) := by decide +kernel
theorem dX7_lossAtMothersTurn_0 : decode cX7_lossAtMothersTurn 0 = .ok (.iload_n 2, 1) := by decide +kernel
theorem dX7_lossAtMothersTurn_1 : decode cX7_lossAtMothersTurn 1 = .ok (.ifCond .gt 5, 3) := by decide +kernel
theorem dX7_lossAtMothersTurn_4 : decode cX7_lossAtMothersTurn 4 = .ok (.iconst 0, 1) := by decide +kernel
theorem dX7_lossAtMothersTurn_5 : decode cX7_lossAtMothersTurn 5 = .ok (.ireturn, 1) := by decide +kernel
theorem dX7_lossAtMothersTurn_6 : decode cX7_lossAtMothersTurn 6 = .ok (.aload_n 0, 1) := by decide +kernel
theorem dX7_lossAtMothersTurn_7 : decode cX7_lossAtMothersTurn 7 = .ok (.aload_n 1, 1) := by decide +kernel
theorem dX7_lossAtMothersTurn_8 : decode cX7_lossAtMothersTurn 8 = .ok (.iload_n 2, 1) := by decide +kernel
theorem dX7_lossAtMothersTurn_9 : decode cX7_lossAtMothersTurn 9 = .ok (.ldc 236, 2) := by decide +kernel
theorem dX7_lossAtMothersTurn_11 : decode cX7_lossAtMothersTurn 11 = .ok (.invokestatic 309, 3) := by decide +kernel
theorem dX7_lossAtMothersTurn_14 : decode cX7_lossAtMothersTurn 14 = .ok (.istore 4, 2) := by decide +kernel
theorem dX7_lossAtMothersTurn_16 : decode cX7_lossAtMothersTurn 16 = .ok (.iconst 0, 1) := by decide +kernel
theorem dX7_lossAtMothersTurn_17 : decode cX7_lossAtMothersTurn 17 = .ok (.istore 5, 2) := by decide +kernel
theorem dX7_lossAtMothersTurn_19 : decode cX7_lossAtMothersTurn 19 = .ok (.iload 5, 2) := by decide +kernel
theorem dX7_lossAtMothersTurn_21 : decode cX7_lossAtMothersTurn 21 = .ok (.aload_n 0, 1) := by decide +kernel
theorem dX7_lossAtMothersTurn_22 : decode cX7_lossAtMothersTurn 22 = .ok (.invokevirtual 116, 3) := by decide +kernel
theorem dX7_lossAtMothersTurn_25 : decode cX7_lossAtMothersTurn 25 = .ok (.bipush 6, 2) := by decide +kernel
theorem dX7_lossAtMothersTurn_27 : decode cX7_lossAtMothersTurn 27 = .ok (.imul, 1) := by decide +kernel
theorem dX7_lossAtMothersTurn_28 : decode cX7_lossAtMothersTurn 28 = .ok (.if_icmp .ge 60, 3) := by decide +kernel
theorem dX7_lossAtMothersTurn_31 : decode cX7_lossAtMothersTurn 31 = .ok (.iload 4, 2) := by decide +kernel
theorem dX7_lossAtMothersTurn_33 : decode cX7_lossAtMothersTurn 33 = .ok (.iload_n 3, 1) := by decide +kernel
theorem dX7_lossAtMothersTurn_34 : decode cX7_lossAtMothersTurn 34 = .ok (.if_icmp .le 54, 3) := by decide +kernel
theorem dX7_lossAtMothersTurn_37 : decode cX7_lossAtMothersTurn 37 = .ok (.aload_n 1, 1) := by decide +kernel
theorem dX7_lossAtMothersTurn_38 : decode cX7_lossAtMothersTurn 38 = .ok (.invokevirtual 312, 3) := by decide +kernel
theorem dX7_lossAtMothersTurn_41 : decode cX7_lossAtMothersTurn 41 = .ok (.astore 6, 2) := by decide +kernel
theorem dX7_lossAtMothersTurn_43 : decode cX7_lossAtMothersTurn 43 = .ok (.aload 6, 2) := by decide +kernel
theorem dX7_lossAtMothersTurn_45 : decode cX7_lossAtMothersTurn 45 = .ok (.ifnonnull 6, 3) := by decide +kernel
theorem dX7_lossAtMothersTurn_48 : decode cX7_lossAtMothersTurn 48 = .ok (.iload 4, 2) := by decide +kernel
theorem dX7_lossAtMothersTurn_50 : decode cX7_lossAtMothersTurn 50 = .ok (.ireturn, 1) := by decide +kernel
theorem dX7_lossAtMothersTurn_51 : decode cX7_lossAtMothersTurn 51 = .ok (.aload 6, 2) := by decide +kernel
theorem dX7_lossAtMothersTurn_53 : decode cX7_lossAtMothersTurn 53 = .ok (.iload 5, 2) := by decide +kernel
theorem dX7_lossAtMothersTurn_55 : decode cX7_lossAtMothersTurn 55 = .ok (.bipush 6, 2) := by decide +kernel
theorem dX7_lossAtMothersTurn_57 : decode cX7_lossAtMothersTurn 57 = .ok (.idiv, 1) := by decide +kernel
theorem dX7_lossAtMothersTurn_58 : decode cX7_lossAtMothersTurn 58 = .ok (.iload 5, 2) := by decide +kernel
theorem dX7_lossAtMothersTurn_60 : decode cX7_lossAtMothersTurn 60 = .ok (.bipush 6, 2) := by decide +kernel
theorem dX7_lossAtMothersTurn_62 : decode cX7_lossAtMothersTurn 62 = .ok (.irem, 1) := by decide +kernel
theorem dX7_lossAtMothersTurn_63 : decode cX7_lossAtMothersTurn 63 = .ok (.invokevirtual 217, 3) := by decide +kernel
theorem dX7_lossAtMothersTurn_66 : decode cX7_lossAtMothersTurn 66 = .ok (.iload 4, 2) := by decide +kernel
theorem dX7_lossAtMothersTurn_68 : decode cX7_lossAtMothersTurn 68 = .ok (.aload_n 0, 1) := by decide +kernel
theorem dX7_lossAtMothersTurn_69 : decode cX7_lossAtMothersTurn 69 = .ok (.aload 6, 2) := by decide +kernel
theorem dX7_lossAtMothersTurn_71 : decode cX7_lossAtMothersTurn 71 = .ok (.iload_n 2, 1) := by decide +kernel
theorem dX7_lossAtMothersTurn_72 : decode cX7_lossAtMothersTurn 72 = .ok (.iload 4, 2) := by decide +kernel
theorem dX7_lossAtMothersTurn_74 : decode cX7_lossAtMothersTurn 74 = .ok (.invokestatic 309, 3) := by decide +kernel
theorem dX7_lossAtMothersTurn_77 : decode cX7_lossAtMothersTurn 77 = .ok (.invokestatic 316, 3) := by decide +kernel
theorem dX7_lossAtMothersTurn_80 : decode cX7_lossAtMothersTurn 80 = .ok (.istore 4, 2) := by decide +kernel
theorem dX7_lossAtMothersTurn_82 : decode cX7_lossAtMothersTurn 82 = .ok (.iinc 5 1, 3) := by decide +kernel
theorem dX7_lossAtMothersTurn_85 : decode cX7_lossAtMothersTurn 85 = .ok (.goto (-66), 3) := by decide +kernel
theorem dX7_lossAtMothersTurn_88 : decode cX7_lossAtMothersTurn 88 = .ok (.iload 4, 2) := by decide +kernel
theorem dX7_lossAtMothersTurn_90 : decode cX7_lossAtMothersTurn 90 = .ok (.ireturn, 1) := by decide +kernel
theorem dX7_lossAtOthersTurn_0 : decode cX7_lossAtOthersTurn 0 = .ok (.iconst 0, 1) := by decide +kernel
theorem dX7_lossAtOthersTurn_1 : decode cX7_lossAtOthersTurn 1 = .ok (.istore 4, 2) := by decide +kernel
theorem dX7_lossAtOthersTurn_3 : decode cX7_lossAtOthersTurn 3 = .ok (.iconst 0, 1) := by decide +kernel
theorem dX7_lossAtOthersTurn_4 : decode cX7_lossAtOthersTurn 4 = .ok (.istore 5, 2) := by decide +kernel
theorem dX7_lossAtOthersTurn_6 : decode cX7_lossAtOthersTurn 6 = .ok (.iload 5, 2) := by decide +kernel
theorem dX7_lossAtOthersTurn_8 : decode cX7_lossAtOthersTurn 8 = .ok (.aload_n 0, 1) := by decide +kernel
theorem dX7_lossAtOthersTurn_9 : decode cX7_lossAtOthersTurn 9 = .ok (.invokevirtual 116, 3) := by decide +kernel
theorem dX7_lossAtOthersTurn_12 : decode cX7_lossAtOthersTurn 12 = .ok (.if_icmp .ge 89, 3) := by decide +kernel
theorem dX7_lossAtOthersTurn_15 : decode cX7_lossAtOthersTurn 15 = .ok (.iload 4, 2) := by decide +kernel
theorem dX7_lossAtOthersTurn_17 : decode cX7_lossAtOthersTurn 17 = .ok (.iload_n 3, 1) := by decide +kernel
theorem dX7_lossAtOthersTurn_18 : decode cX7_lossAtOthersTurn 18 = .ok (.if_icmp .ge 83, 3) := by decide +kernel
theorem dX7_lossAtOthersTurn_21 : decode cX7_lossAtOthersTurn 21 = .ok (.aload_n 0, 1) := by decide +kernel
theorem dX7_lossAtOthersTurn_22 : decode cX7_lossAtOthersTurn 22 = .ok (.iload 5, 2) := by decide +kernel
theorem dX7_lossAtOthersTurn_24 : decode cX7_lossAtOthersTurn 24 = .ok (.aload_n 1, 1) := by decide +kernel
theorem dX7_lossAtOthersTurn_25 : decode cX7_lossAtOthersTurn 25 = .ok (.iload 5, 2) := by decide +kernel
theorem dX7_lossAtOthersTurn_27 : decode cX7_lossAtOthersTurn 27 = .ok (.invokevirtual 164, 3) := by decide +kernel
theorem dX7_lossAtOthersTurn_30 : decode cX7_lossAtOthersTurn 30 = .ok (.invokevirtual 265, 3) := by decide +kernel
theorem dX7_lossAtOthersTurn_33 : decode cX7_lossAtOthersTurn 33 = .ok (.istore 6, 2) := by decide +kernel
theorem dX7_lossAtOthersTurn_35 : decode cX7_lossAtOthersTurn 35 = .ok (.iload_n 2, 1) := by decide +kernel
theorem dX7_lossAtOthersTurn_36 : decode cX7_lossAtOthersTurn 36 = .ok (.iconst 1, 1) := by decide +kernel
theorem dX7_lossAtOthersTurn_37 : decode cX7_lossAtOthersTurn 37 = .ok (.if_icmp .le 10, 3) := by decide +kernel
theorem dX7_lossAtOthersTurn_40 : decode cX7_lossAtOthersTurn 40 = .ok (.aload_n 1, 1) := by decide +kernel
theorem dX7_lossAtOthersTurn_41 : decode cX7_lossAtOthersTurn 41 = .ok (.invokevirtual 312, 3) := by decide +kernel
theorem dX7_lossAtOthersTurn_44 : decode cX7_lossAtOthersTurn 44 = .ok (.goto 4, 3) := by decide +kernel
theorem dX7_lossAtOthersTurn_47 : decode cX7_lossAtOthersTurn 47 = .ok (.aconst_null, 1) := by decide +kernel
theorem dX7_lossAtOthersTurn_48 : decode cX7_lossAtOthersTurn 48 = .ok (.astore 7, 2) := by decide +kernel
theorem dX7_lossAtOthersTurn_50 : decode cX7_lossAtOthersTurn 50 = .ok (.aload 7, 2) := by decide +kernel
theorem dX7_lossAtOthersTurn_52 : decode cX7_lossAtOthersTurn 52 = .ok (.ifnull 34, 3) := by decide +kernel
theorem dX7_lossAtOthersTurn_55 : decode cX7_lossAtOthersTurn 55 = .ok (.aload 7, 2) := by decide +kernel
theorem dX7_lossAtOthersTurn_57 : decode cX7_lossAtOthersTurn 57 = .ok (.iload 5, 2) := by decide +kernel
theorem dX7_lossAtOthersTurn_59 : decode cX7_lossAtOthersTurn 59 = .ok (.invokevirtual 198, 3) := by decide +kernel
theorem dX7_lossAtOthersTurn_62 : decode cX7_lossAtOthersTurn 62 = .ok (.pop, 1) := by decide +kernel
theorem dX7_lossAtOthersTurn_63 : decode cX7_lossAtOthersTurn 63 = .ok (.iload 6, 2) := by decide +kernel
theorem dX7_lossAtOthersTurn_65 : decode cX7_lossAtOthersTurn 65 = .ok (.aload_n 0, 1) := by decide +kernel
theorem dX7_lossAtOthersTurn_66 : decode cX7_lossAtOthersTurn 66 = .ok (.aload 7, 2) := by decide +kernel
theorem dX7_lossAtOthersTurn_68 : decode cX7_lossAtOthersTurn 68 = .ok (.iload_n 2, 1) := by decide +kernel
theorem dX7_lossAtOthersTurn_69 : decode cX7_lossAtOthersTurn 69 = .ok (.iconst 1, 1) := by decide +kernel
theorem dX7_lossAtOthersTurn_70 : decode cX7_lossAtOthersTurn 70 = .ok (.isub, 1) := by decide +kernel
theorem dX7_lossAtOthersTurn_71 : decode cX7_lossAtOthersTurn 71 = .ok (.iconst 0, 1) := by decide +kernel
theorem dX7_lossAtOthersTurn_72 : decode cX7_lossAtOthersTurn 72 = .ok (.iload 4, 2) := by decide +kernel
theorem dX7_lossAtOthersTurn_74 : decode cX7_lossAtOthersTurn 74 = .ok (.iload 6, 2) := by decide +kernel
theorem dX7_lossAtOthersTurn_76 : decode cX7_lossAtOthersTurn 76 = .ok (.isub, 1) := by decide +kernel
theorem dX7_lossAtOthersTurn_77 : decode cX7_lossAtOthersTurn 77 = .ok (.invokestatic 296, 3) := by decide +kernel
theorem dX7_lossAtOthersTurn_80 : decode cX7_lossAtOthersTurn 80 = .ok (.invokestatic 246, 3) := by decide +kernel
theorem dX7_lossAtOthersTurn_83 : decode cX7_lossAtOthersTurn 83 = .ok (.iadd, 1) := by decide +kernel
theorem dX7_lossAtOthersTurn_84 : decode cX7_lossAtOthersTurn 84 = .ok (.istore 6, 2) := by decide +kernel
theorem dX7_lossAtOthersTurn_86 : decode cX7_lossAtOthersTurn 86 = .ok (.iload 4, 2) := by decide +kernel
theorem dX7_lossAtOthersTurn_88 : decode cX7_lossAtOthersTurn 88 = .ok (.iload 6, 2) := by decide +kernel
theorem dX7_lossAtOthersTurn_90 : decode cX7_lossAtOthersTurn 90 = .ok (.invokestatic 296, 3) := by decide +kernel
theorem dX7_lossAtOthersTurn_93 : decode cX7_lossAtOthersTurn 93 = .ok (.istore 4, 2) := by decide +kernel
theorem dX7_lossAtOthersTurn_95 : decode cX7_lossAtOthersTurn 95 = .ok (.iinc 5 1, 3) := by decide +kernel
theorem dX7_lossAtOthersTurn_98 : decode cX7_lossAtOthersTurn 98 = .ok (.goto (-92), 3) := by decide +kernel
theorem dX7_lossAtOthersTurn_101 : decode cX7_lossAtOthersTurn 101 = .ok (.iload 4, 2) := by decide +kernel
theorem dX7_lossAtOthersTurn_103 : decode cX7_lossAtOthersTurn 103 = .ok (.ireturn, 1) := by decide +kernel
theorem dX7_lossByChances_0 : decode cX7_lossByChances 0 = .ok (.iload_n 2, 1) := by decide +kernel
theorem dX7_lossByChances_1 : decode cX7_lossByChances 1 = .ok (.ifCond .gt 5, 3) := by decide +kernel
theorem dX7_lossByChances_4 : decode cX7_lossByChances 4 = .ok (.iconst 0, 1) := by decide +kernel
theorem dX7_lossByChances_5 : decode cX7_lossByChances 5 = .ok (.ireturn, 1) := by decide +kernel
theorem dX7_lossByChances_6 : decode cX7_lossByChances 6 = .ok (.iconst 0, 1) := by decide +kernel
theorem dX7_lossByChances_7 : decode cX7_lossByChances 7 = .ok (.istore 4, 2) := by decide +kernel
theorem dX7_lossByChances_9 : decode cX7_lossByChances 9 = .ok (.iconst 0, 1) := by decide +kernel
theorem dX7_lossByChances_10 : decode cX7_lossByChances 10 = .ok (.istore 5, 2) := by decide +kernel
theorem dX7_lossByChances_12 : decode cX7_lossByChances 12 = .ok (.iload 5, 2) := by decide +kernel
theorem dX7_lossByChances_14 : decode cX7_lossByChances 14 = .ok (.aload_n 0, 1) := by decide +kernel
theorem dX7_lossByChances_15 : decode cX7_lossByChances 15 = .ok (.invokevirtual 116, 3) := by decide +kernel
theorem dX7_lossByChances_18 : decode cX7_lossByChances 18 = .ok (.if_icmp .ge 91, 3) := by decide +kernel
theorem dX7_lossByChances_21 : decode cX7_lossByChances 21 = .ok (.aload_n 0, 1) := by decide +kernel
theorem dX7_lossByChances_22 : decode cX7_lossByChances 22 = .ok (.iload 5, 2) := by decide +kernel
theorem dX7_lossByChances_24 : decode cX7_lossByChances 24 = .ok (.aload_n 1, 1) := by decide +kernel
theorem dX7_lossByChances_25 : decode cX7_lossByChances 25 = .ok (.iload 5, 2) := by decide +kernel
theorem dX7_lossByChances_27 : decode cX7_lossByChances 27 = .ok (.invokevirtual 164, 3) := by decide +kernel
theorem dX7_lossByChances_30 : decode cX7_lossByChances 30 = .ok (.invokevirtual 265, 3) := by decide +kernel
theorem dX7_lossByChances_33 : decode cX7_lossByChances 33 = .ok (.iload_n 3, 1) := by decide +kernel
theorem dX7_lossByChances_34 : decode cX7_lossByChances 34 = .ok (.iload_n 2, 1) := by decide +kernel
theorem dX7_lossByChances_35 : decode cX7_lossByChances 35 = .ok (.iconst 1, 1) := by decide +kernel
theorem dX7_lossByChances_36 : decode cX7_lossByChances 36 = .ok (.isub, 1) := by decide +kernel
theorem dX7_lossByChances_37 : decode cX7_lossByChances 37 = .ok (.invokestatic 256, 3) := by decide +kernel
theorem dX7_lossByChances_40 : decode cX7_lossByChances 40 = .ok (.imul, 1) := by decide +kernel
theorem dX7_lossByChances_41 : decode cX7_lossByChances 41 = .ok (.istore 6, 2) := by decide +kernel
theorem dX7_lossByChances_43 : decode cX7_lossByChances 43 = .ok (.iload_n 2, 1) := by decide +kernel
theorem dX7_lossByChances_44 : decode cX7_lossByChances 44 = .ok (.iconst 1, 1) := by decide +kernel
theorem dX7_lossByChances_45 : decode cX7_lossByChances 45 = .ok (.if_icmp .le 10, 3) := by decide +kernel
theorem dX7_lossByChances_48 : decode cX7_lossByChances 48 = .ok (.aload_n 1, 1) := by decide +kernel
theorem dX7_lossByChances_49 : decode cX7_lossByChances 49 = .ok (.invokevirtual 312, 3) := by decide +kernel
theorem dX7_lossByChances_52 : decode cX7_lossByChances 52 = .ok (.goto 4, 3) := by decide +kernel
theorem dX7_lossByChances_55 : decode cX7_lossByChances 55 = .ok (.aconst_null, 1) := by decide +kernel
theorem dX7_lossByChances_56 : decode cX7_lossByChances 56 = .ok (.astore 7, 2) := by decide +kernel
theorem dX7_lossByChances_58 : decode cX7_lossByChances 58 = .ok (.aload 7, 2) := by decide +kernel
theorem dX7_lossByChances_60 : decode cX7_lossByChances 60 = .ok (.ifnull 26, 3) := by decide +kernel
theorem dX7_lossByChances_63 : decode cX7_lossByChances 63 = .ok (.aload 7, 2) := by decide +kernel
theorem dX7_lossByChances_65 : decode cX7_lossByChances 65 = .ok (.iload 5, 2) := by decide +kernel
theorem dX7_lossByChances_67 : decode cX7_lossByChances 67 = .ok (.invokevirtual 198, 3) := by decide +kernel
theorem dX7_lossByChances_70 : decode cX7_lossByChances 70 = .ok (.pop, 1) := by decide +kernel
theorem dX7_lossByChances_71 : decode cX7_lossByChances 71 = .ok (.iload 6, 2) := by decide +kernel
theorem dX7_lossByChances_73 : decode cX7_lossByChances 73 = .ok (.aload_n 0, 1) := by decide +kernel
theorem dX7_lossByChances_74 : decode cX7_lossByChances 74 = .ok (.aload 7, 2) := by decide +kernel
theorem dX7_lossByChances_76 : decode cX7_lossByChances 76 = .ok (.iload_n 2, 1) := by decide +kernel
theorem dX7_lossByChances_77 : decode cX7_lossByChances 77 = .ok (.iconst 1, 1) := by decide +kernel
theorem dX7_lossByChances_78 : decode cX7_lossByChances 78 = .ok (.isub, 1) := by decide +kernel
theorem dX7_lossByChances_79 : decode cX7_lossByChances 79 = .ok (.iload_n 3, 1) := by decide +kernel
theorem dX7_lossByChances_80 : decode cX7_lossByChances 80 = .ok (.invokestatic 253, 3) := by decide +kernel
theorem dX7_lossByChances_83 : decode cX7_lossByChances 83 = .ok (.iadd, 1) := by decide +kernel
theorem dX7_lossByChances_84 : decode cX7_lossByChances 84 = .ok (.istore 6, 2) := by decide +kernel
theorem dX7_lossByChances_86 : decode cX7_lossByChances 86 = .ok (.iload 4, 2) := by decide +kernel
theorem dX7_lossByChances_88 : decode cX7_lossByChances 88 = .ok (.aload_n 0, 1) := by decide +kernel
theorem dX7_lossByChances_89 : decode cX7_lossByChances 89 = .ok (.getfield 141, 3) := by decide +kernel
theorem dX7_lossByChances_92 : decode cX7_lossByChances 92 = .ok (.iload 5, 2) := by decide +kernel
theorem dX7_lossByChances_94 : decode cX7_lossByChances 94 = .ok (.invokevirtual 128, 3) := by decide +kernel
theorem dX7_lossByChances_97 : decode cX7_lossByChances 97 = .ok (.iload 6, 2) := by decide +kernel
theorem dX7_lossByChances_99 : decode cX7_lossByChances 99 = .ok (.imul, 1) := by decide +kernel
theorem dX7_lossByChances_100 : decode cX7_lossByChances 100 = .ok (.iadd, 1) := by decide +kernel
theorem dX7_lossByChances_101 : decode cX7_lossByChances 101 = .ok (.istore 4, 2) := by decide +kernel
theorem dX7_lossByChances_103 : decode cX7_lossByChances 103 = .ok (.iinc 5 1, 3) := by decide +kernel
theorem dX7_lossByChances_106 : decode cX7_lossByChances 106 = .ok (.goto (-94), 3) := by decide +kernel
theorem dX7_lossByChances_109 : decode cX7_lossByChances 109 = .ok (.iload 4, 2) := by decide +kernel
theorem dX7_lossByChances_111 : decode cX7_lossByChances 111 = .ok (.ireturn, 1) := by decide +kernel
theorem dX7_power_0 : decode cX7_power 0 = .ok (.iconst 1, 1) := by decide +kernel
theorem dX7_power_1 : decode cX7_power 1 = .ok (.istore_n 2, 1) := by decide +kernel
theorem dX7_power_2 : decode cX7_power 2 = .ok (.iconst 0, 1) := by decide +kernel
theorem dX7_power_3 : decode cX7_power 3 = .ok (.istore_n 3, 1) := by decide +kernel
theorem dX7_power_4 : decode cX7_power 4 = .ok (.iload_n 3, 1) := by decide +kernel
theorem dX7_power_5 : decode cX7_power 5 = .ok (.iload_n 1, 1) := by decide +kernel
theorem dX7_power_6 : decode cX7_power 6 = .ok (.if_icmp .ge 13, 3) := by decide +kernel
theorem dX7_power_9 : decode cX7_power 9 = .ok (.iload_n 2, 1) := by decide +kernel
theorem dX7_power_10 : decode cX7_power 10 = .ok (.iload_n 0, 1) := by decide +kernel
theorem dX7_power_11 : decode cX7_power 11 = .ok (.imul, 1) := by decide +kernel
theorem dX7_power_12 : decode cX7_power 12 = .ok (.istore_n 2, 1) := by decide +kernel
theorem dX7_power_13 : decode cX7_power 13 = .ok (.iinc 3 1, 3) := by decide +kernel
theorem dX7_power_16 : decode cX7_power 16 = .ok (.goto (-12), 3) := by decide +kernel
theorem dX7_power_19 : decode cX7_power 19 = .ok (.iload_n 2, 1) := by decide +kernel
theorem dX7_power_20 : decode cX7_power 20 = .ok (.ireturn, 1) := by decide +kernel
theorem dX7_greatestDivisor_0 : decode cX7_greatestDivisor 0 = .ok (.iload_n 0, 1) := by decide +kernel
theorem dX7_greatestDivisor_1 : decode cX7_greatestDivisor 1 = .ok (.istore_n 2, 1) := by decide +kernel
theorem dX7_greatestDivisor_2 : decode cX7_greatestDivisor 2 = .ok (.iload_n 1, 1) := by decide +kernel
theorem dX7_greatestDivisor_3 : decode cX7_greatestDivisor 3 = .ok (.istore_n 3, 1) := by decide +kernel
theorem dX7_greatestDivisor_4 : decode cX7_greatestDivisor 4 = .ok (.iconst 0, 1) := by decide +kernel
theorem dX7_greatestDivisor_5 : decode cX7_greatestDivisor 5 = .ok (.istore 4, 2) := by decide +kernel
theorem dX7_greatestDivisor_7 : decode cX7_greatestDivisor 7 = .ok (.iload 4, 2) := by decide +kernel
theorem dX7_greatestDivisor_9 : decode cX7_greatestDivisor 9 = .ok (.bipush 64, 2) := by decide +kernel
theorem dX7_greatestDivisor_11 : decode cX7_greatestDivisor 11 = .ok (.if_icmp .ge 23, 3) := by decide +kernel
theorem dX7_greatestDivisor_14 : decode cX7_greatestDivisor 14 = .ok (.iload_n 3, 1) := by decide +kernel
theorem dX7_greatestDivisor_15 : decode cX7_greatestDivisor 15 = .ok (.ifCond .eq 19, 3) := by decide +kernel
theorem dX7_greatestDivisor_18 : decode cX7_greatestDivisor 18 = .ok (.iload_n 2, 1) := by decide +kernel
theorem dX7_greatestDivisor_19 : decode cX7_greatestDivisor 19 = .ok (.iload_n 3, 1) := by decide +kernel
theorem dX7_greatestDivisor_20 : decode cX7_greatestDivisor 20 = .ok (.irem, 1) := by decide +kernel
theorem dX7_greatestDivisor_21 : decode cX7_greatestDivisor 21 = .ok (.istore 5, 2) := by decide +kernel
theorem dX7_greatestDivisor_23 : decode cX7_greatestDivisor 23 = .ok (.iload_n 3, 1) := by decide +kernel
theorem dX7_greatestDivisor_24 : decode cX7_greatestDivisor 24 = .ok (.istore_n 2, 1) := by decide +kernel
theorem dX7_greatestDivisor_25 : decode cX7_greatestDivisor 25 = .ok (.iload 5, 2) := by decide +kernel
theorem dX7_greatestDivisor_27 : decode cX7_greatestDivisor 27 = .ok (.istore_n 3, 1) := by decide +kernel
theorem dX7_greatestDivisor_28 : decode cX7_greatestDivisor 28 = .ok (.iinc 4 1, 3) := by decide +kernel
theorem dX7_greatestDivisor_31 : decode cX7_greatestDivisor 31 = .ok (.goto (-24), 3) := by decide +kernel
theorem dX7_greatestDivisor_34 : decode cX7_greatestDivisor 34 = .ok (.iload_n 2, 1) := by decide +kernel
theorem dX7_greatestDivisor_35 : decode cX7_greatestDivisor 35 = .ok (.ireturn, 1) := by decide +kernel
theorem dX8_init_0 : decode cX8_init 0 = .ok (.aload_n 0, 1) := by decide +kernel
theorem dX8_init_1 : decode cX8_init 1 = .ok (.invokespecial 1, 3) := by decide +kernel
theorem dX8_init_4 : decode cX8_init 4 = .ok (.aload_n 0, 1) := by decide +kernel
theorem dX8_init_5 : decode cX8_init 5 = .ok (.bipush 30, 2) := by decide +kernel
theorem dX8_init_7 : decode cX8_init 7 = .ok (.newarray .int, 2) := by decide +kernel
theorem dX8_init_9 : decode cX8_init 9 = .ok (.putfield 7, 3) := by decide +kernel
theorem dX8_init_12 : decode cX8_init 12 = .ok (.aload_n 0, 1) := by decide +kernel
theorem dX8_init_13 : decode cX8_init 13 = .ok (.bipush 10, 2) := by decide +kernel
theorem dX8_init_15 : decode cX8_init 15 = .ok (.newarray .int, 2) := by decide +kernel
theorem dX8_init_17 : decode cX8_init 17 = .ok (.putfield 13, 3) := by decide +kernel
theorem dX8_init_20 : decode cX8_init 20 = .ok (.aload_n 0, 1) := by decide +kernel
theorem dX8_init_21 : decode cX8_init 21 = .ok (.bipush 50, 2) := by decide +kernel
theorem dX8_init_23 : decode cX8_init 23 = .ok (.newarray .int, 2) := by decide +kernel
theorem dX8_init_25 : decode cX8_init 25 = .ok (.putfield 16, 3) := by decide +kernel
theorem dX8_init_28 : decode cX8_init 28 = .ok (.aload_n 0, 1) := by decide +kernel
theorem dX8_init_29 : decode cX8_init 29 = .ok (.sipush 200, 3) := by decide +kernel
theorem dX8_init_32 : decode cX8_init 32 = .ok (.newarray .int, 2) := by decide +kernel
theorem dX8_init_34 : decode cX8_init 34 = .ok (.putfield 19, 3) := by decide +kernel
theorem dX8_init_37 : decode cX8_init 37 = .ok (.aload_n 0, 1) := by decide +kernel
theorem dX8_init_38 : decode cX8_init 38 = .ok (.iconst 5, 1) := by decide +kernel
theorem dX8_init_39 : decode cX8_init 39 = .ok (.newarray .int, 2) := by decide +kernel
theorem dX8_init_41 : decode cX8_init 41 = .ok (.putfield 22, 3) := by decide +kernel
theorem dX8_init_44 : decode cX8_init 44 = .ok (.aload_n 0, 1) := by decide +kernel
theorem dX8_init_45 : decode cX8_init 45 = .ok (.bipush 30, 2) := by decide +kernel
theorem dX8_init_47 : decode cX8_init 47 = .ok (.newarray .int, 2) := by decide +kernel
theorem dX8_init_49 : decode cX8_init 49 = .ok (.putfield 25, 3) := by decide +kernel
theorem dX8_init_52 : decode cX8_init 52 = .ok (.aload_n 0, 1) := by decide +kernel
theorem dX8_init_53 : decode cX8_init 53 = .ok (.bipush 10, 2) := by decide +kernel
theorem dX8_init_55 : decode cX8_init 55 = .ok (.newarray .int, 2) := by decide +kernel
theorem dX8_init_57 : decode cX8_init 57 = .ok (.putfield 28, 3) := by decide +kernel
theorem dX8_init_60 : decode cX8_init 60 = .ok (.aload_n 0, 1) := by decide +kernel
theorem dX8_init_61 : decode cX8_init 61 = .ok (.sipush 400, 3) := by decide +kernel
theorem dX8_init_64 : decode cX8_init 64 = .ok (.newarray .int, 2) := by decide +kernel
theorem dX8_init_66 : decode cX8_init 66 = .ok (.putfield 31, 3) := by decide +kernel
theorem dX8_init_69 : decode cX8_init 69 = .ok (.aload_n 0, 1) := by decide +kernel
theorem dX8_init_70 : decode cX8_init 70 = .ok (.bipush 50, 2) := by decide +kernel
theorem dX8_init_72 : decode cX8_init 72 = .ok (.newarray .int, 2) := by decide +kernel
theorem dX8_init_74 : decode cX8_init 74 = .ok (.putfield 34, 3) := by decide +kernel
theorem dX8_init_77 : decode cX8_init 77 = .ok (.aload_n 0, 1) := by decide +kernel
theorem dX8_init_78 : decode cX8_init 78 = .ok (.bipush 10, 2) := by decide +kernel
theorem dX8_init_80 : decode cX8_init 80 = .ok (.newarray .int, 2) := by decide +kernel
theorem dX8_init_82 : decode cX8_init 82 = .ok (.putfield 37, 3) := by decide +kernel
theorem dX8_init_85 : decode cX8_init 85 = .ok (.aload_n 0, 1) := by decide +kernel
theorem dX8_init_86 : decode cX8_init 86 = .ok (.bipush 10, 2) := by decide +kernel
theorem dX8_init_88 : decode cX8_init 88 = .ok (.newarray .int, 2) := by decide +kernel
theorem dX8_init_90 : decode cX8_init 90 = .ok (.putfield 40, 3) := by decide +kernel
theorem dX8_init_93 : decode cX8_init 93 = .ok (.aload_n 0, 1) := by decide +kernel
theorem dX8_init_94 : decode cX8_init 94 = .ok (.sipush 800, 3) := by decide +kernel
theorem dX8_init_97 : decode cX8_init 97 = .ok (.newarray .int, 2) := by decide +kernel
theorem dX8_init_99 : decode cX8_init 99 = .ok (.putfield 43, 3) := by decide +kernel
theorem dX8_init_102 : decode cX8_init 102 = .ok (.aload_n 0, 1) := by decide +kernel
theorem dX8_init_103 : decode cX8_init 103 = .ok (.bipush 10, 2) := by decide +kernel
theorem dX8_init_105 : decode cX8_init 105 = .ok (.newarray .int, 2) := by decide +kernel
theorem dX8_init_107 : decode cX8_init 107 = .ok (.putfield 46, 3) := by decide +kernel
theorem dX8_init_110 : decode cX8_init 110 = .ok (.aload_n 0, 1) := by decide +kernel
theorem dX8_init_111 : decode cX8_init 111 = .ok (.bipush 10, 2) := by decide +kernel
theorem dX8_init_113 : decode cX8_init 113 = .ok (.newarray .int, 2) := by decide +kernel
theorem dX8_init_115 : decode cX8_init 115 = .ok (.putfield 49, 3) := by decide +kernel
theorem dX8_init_118 : decode cX8_init 118 = .ok (.aload_n 0, 1) := by decide +kernel
theorem dX8_init_119 : decode cX8_init 119 = .ok (.bipush 8, 2) := by decide +kernel
theorem dX8_init_121 : decode cX8_init 121 = .ok (.newarray .int, 2) := by decide +kernel
theorem dX8_init_123 : decode cX8_init 123 = .ok (.putfield 52, 3) := by decide +kernel
theorem dX8_init_126 : decode cX8_init 126 = .ok (.aload_n 0, 1) := by decide +kernel
theorem dX8_init_127 : decode cX8_init 127 = .ok (.bipush 8, 2) := by decide +kernel
theorem dX8_init_129 : decode cX8_init 129 = .ok (.newarray .int, 2) := by decide +kernel
theorem dX8_init_131 : decode cX8_init 131 = .ok (.putfield 55, 3) := by decide +kernel
theorem dX8_init_134 : decode cX8_init 134 = .ok (.aload_n 0, 1) := by decide +kernel
theorem dX8_init_135 : decode cX8_init 135 = .ok (.bipush 50, 2) := by decide +kernel
theorem dX8_init_137 : decode cX8_init 137 = .ok (.newarray .int, 2) := by decide +kernel
theorem dX8_init_139 : decode cX8_init 139 = .ok (.putfield 58, 3) := by decide +kernel
theorem dX8_init_142 : decode cX8_init 142 = .ok (.aload_n 0, 1) := by decide +kernel
theorem dX8_init_143 : decode cX8_init 143 = .ok (.bipush 50, 2) := by decide +kernel
theorem dX8_init_145 : decode cX8_init 145 = .ok (.newarray .int, 2) := by decide +kernel
theorem dX8_init_147 : decode cX8_init 147 = .ok (.putfield 61, 3) := by decide +kernel
theorem dX8_init_150 : decode cX8_init 150 = .ok (.aload_n 0, 1) := by decide +kernel
theorem dX8_init_151 : decode cX8_init 151 = .ok (.bipush 100, 2) := by decide +kernel
theorem dX8_init_153 : decode cX8_init 153 = .ok (.newarray .int, 2) := by decide +kernel
theorem dX8_init_155 : decode cX8_init 155 = .ok (.putfield 64, 3) := by decide +kernel
theorem dX8_init_158 : decode cX8_init 158 = .ok (.aload_n 0, 1) := by decide +kernel
theorem dX8_init_159 : decode cX8_init 159 = .ok (.iconst 1, 1) := by decide +kernel
theorem dX8_init_160 : decode cX8_init 160 = .ok (.iconst 0, 1) := by decide +kernel
theorem dX8_init_161 : decode cX8_init 161 = .ok (.bipush 62, 2) := by decide +kernel
theorem dX8_init_163 : decode cX8_init 163 = .ok (.iconst 3, 1) := by decide +kernel
theorem dX8_init_164 : decode cX8_init 164 = .ok (.iconst 2, 1) := by decide +kernel
theorem dX8_init_165 : decode cX8_init 165 = .ok (.invokevirtual 67, 3) := by decide +kernel
theorem dX8_init_168 : decode cX8_init 168 = .ok (.aload_n 0, 1) := by decide +kernel
theorem dX8_init_169 : decode cX8_init 169 = .ok (.iconst 3, 1) := by decide +kernel
theorem dX8_init_170 : decode cX8_init 170 = .ok (.iconst 1, 1) := by decide +kernel
theorem dX8_init_171 : decode cX8_init 171 = .ok (.bipush 13, 2) := by decide +kernel
theorem dX8_init_173 : decode cX8_init 173 = .ok (.iconst 5, 1) := by decide +kernel
theorem dX8_init_174 : decode cX8_init 174 = .ok (.iconst 1, 1) := by decide +kernel
theorem dX8_init_175 : decode cX8_init 175 = .ok (.invokevirtual 67, 3) := by decide +kernel
theorem dX8_init_178 : decode cX8_init 178 = .ok (.aload_n 0, 1) := by decide +kernel
theorem dX8_init_179 : decode cX8_init 179 = .ok (.bipush 6, 2) := by decide +kernel
theorem dX8_init_181 : decode cX8_init 181 = .ok (.iconst 2, 1) := by decide +kernel
theorem dX8_init_182 : decode cX8_init 182 = .ok (.iconst 3, 1) := by decide +kernel
theorem dX8_init_183 : decode cX8_init 183 = .ok (.bipush 8, 2) := by decide +kernel
theorem dX8_init_185 : decode cX8_init 185 = .ok (.iconst 1, 1) := by decide +kernel
theorem dX8_init_186 : decode cX8_init 186 = .ok (.invokevirtual 67, 3) := by decide +kernel
theorem dX8_init_189 : decode cX8_init 189 = .ok (.aload_n 0, 1) := by decide +kernel
theorem dX8_init_190 : decode cX8_init 190 = .ok (.bipush 24, 2) := by decide +kernel
theorem dX8_init_192 : decode cX8_init 192 = .ok (.iconst 3, 1) := by decide +kernel
theorem dX8_init_193 : decode cX8_init 193 = .ok (.bipush 63, 2) := by decide +kernel
theorem dX8_init_195 : decode cX8_init 195 = .ok (.iconst 4, 1) := by decide +kernel
theorem dX8_init_196 : decode cX8_init 196 = .ok (.iconst 3, 1) := by decide +kernel
theorem dX8_init_197 : decode cX8_init 197 = .ok (.invokevirtual 67, 3) := by decide +kernel
theorem dX8_init_200 : decode cX8_init 200 = .ok (.iconst 0, 1) := by decide +kernel
theorem dX8_init_201 : decode cX8_init 201 = .ok (.istore_n 1, 1) := by decide +kernel
theorem dX8_init_202 : decode cX8_init 202 = .ok (.iload_n 1, 1) := by decide +kernel
theorem dX8_init_203 : decode cX8_init 203 = .ok (.iconst 4, 1) := by decide +kernel
theorem dX8_init_204 : decode cX8_init 204 = .ok (.if_icmp .ge 16, 3) := by decide +kernel
theorem dX8_init_207 : decode cX8_init 207 = .ok (.aload_n 0, 1) := by decide +kernel
theorem dX8_init_208 : decode cX8_init 208 = .ok (.getfield 13, 3) := by decide +kernel
theorem dX8_init_211 : decode cX8_init 211 = .ok (.iload_n 1, 1) := by decide +kernel
theorem dX8_init_212 : decode cX8_init 212 = .ok (.iload_n 1, 1) := by decide +kernel
theorem dX8_init_213 : decode cX8_init 213 = .ok (.iastore, 1) := by decide +kernel
theorem dX8_init_214 : decode cX8_init 214 = .ok (.iinc 1 1, 3) := by decide +kernel
theorem dX8_init_217 : decode cX8_init 217 = .ok (.goto (-15), 3) := by decide +kernel
theorem dX8_init_220 : decode cX8_init 220 = .ok (.aload_n 0, 1) := by decide +kernel
theorem dX8_init_221 : decode cX8_init 221 = .ok (.getfield 13, 3) := by decide +kernel
theorem dX8_init_224 : decode cX8_init 224 = .ok (.iconst 4, 1) := by decide +kernel
theorem dX8_init_225 : decode cX8_init 225 = .ok (.iconst 1, 1) := by decide +kernel
theorem dX8_init_226 : decode cX8_init 226 = .ok (.iastore, 1) := by decide +kernel
theorem dX8_init_227 : decode cX8_init 227 = .ok (.aload_n 0, 1) := by decide +kernel
theorem dX8_init_228 : decode cX8_init 228 = .ok (.iconst 5, 1) := by decide +kernel
theorem dX8_init_229 : decode cX8_init 229 = .ok (.putfield 71, 3) := by decide +kernel
theorem dX8_init_232 : decode cX8_init 232 = .ok (.return_, 1) := by decide +kernel
theorem dX8_tellKind_0 : decode cX8_tellKind 0 = .ok (.aload_n 0, 1) := by decide +kernel
theorem dX8_tellKind_1 : decode cX8_tellKind 1 = .ok (.getfield 7, 3) := by decide +kernel
theorem dX8_tellKind_4 : decode cX8_tellKind 4 = .ok (.iconst 5, 1) := by decide +kernel
theorem dX8_tellKind_5 : decode cX8_tellKind 5 = .ok (.aload_n 0, 1) := by decide +kernel
theorem dX8_tellKind_6 : decode cX8_tellKind 6 = .ok (.getfield 75, 3) := by decide +kernel
theorem dX8_tellKind_9 : decode cX8_tellKind 9 = .ok (.imul, 1) := by decide +kernel
theorem dX8_tellKind_10 : decode cX8_tellKind 10 = .ok (.iload_n 1, 1) := by decide +kernel
theorem dX8_tellKind_11 : decode cX8_tellKind 11 = .ok (.iastore, 1) := by decide +kernel
theorem dX8_tellKind_12 : decode cX8_tellKind 12 = .ok (.aload_n 0, 1) := by decide +kernel
theorem dX8_tellKind_13 : decode cX8_tellKind 13 = .ok (.getfield 7, 3) := by decide +kernel
theorem dX8_tellKind_16 : decode cX8_tellKind 16 = .ok (.iconst 5, 1) := by decide +kernel
theorem dX8_tellKind_17 : decode cX8_tellKind 17 = .ok (.aload_n 0, 1) := by decide +kernel
theorem dX8_tellKind_18 : decode cX8_tellKind 18 = .ok (.getfield 75, 3) := by decide +kernel
theorem dX8_tellKind_21 : decode cX8_tellKind 21 = .ok (.imul, 1) := by decide +kernel
theorem dX8_tellKind_22 : decode cX8_tellKind 22 = .ok (.iconst 1, 1) := by decide +kernel
theorem dX8_tellKind_23 : decode cX8_tellKind 23 = .ok (.iadd, 1) := by decide +kernel
theorem dX8_tellKind_24 : decode cX8_tellKind 24 = .ok (.iload_n 2, 1) := by decide +kernel
theorem dX8_tellKind_25 : decode cX8_tellKind 25 = .ok (.iastore, 1) := by decide +kernel
theorem dX8_tellKind_26 : decode cX8_tellKind 26 = .ok (.aload_n 0, 1) := by decide +kernel
theorem dX8_tellKind_27 : decode cX8_tellKind 27 = .ok (.getfield 7, 3) := by decide +kernel
theorem dX8_tellKind_30 : decode cX8_tellKind 30 = .ok (.iconst 5, 1) := by decide +kernel
theorem dX8_tellKind_31 : decode cX8_tellKind 31 = .ok (.aload_n 0, 1) := by decide +kernel
theorem dX8_tellKind_32 : decode cX8_tellKind 32 = .ok (.getfield 75, 3) := by decide +kernel
theorem dX8_tellKind_35 : decode cX8_tellKind 35 = .ok (.imul, 1) := by decide +kernel
theorem dX8_tellKind_36 : decode cX8_tellKind 36 = .ok (.iconst 2, 1) := by decide +kernel
theorem dX8_tellKind_37 : decode cX8_tellKind 37 = .ok (.iadd, 1) := by decide +kernel
theorem dX8_tellKind_38 : decode cX8_tellKind 38 = .ok (.iload_n 3, 1) := by decide +kernel
theorem dX8_tellKind_39 : decode cX8_tellKind 39 = .ok (.iastore, 1) := by decide +kernel
theorem dX8_tellKind_40 : decode cX8_tellKind 40 = .ok (.aload_n 0, 1) := by decide +kernel
theorem dX8_tellKind_41 : decode cX8_tellKind 41 = .ok (.getfield 7, 3) := by decide +kernel
theorem dX8_tellKind_44 : decode cX8_tellKind 44 = .ok (.iconst 5, 1) := by decide +kernel
theorem dX8_tellKind_45 : decode cX8_tellKind 45 = .ok (.aload_n 0, 1) := by decide +kernel
theorem dX8_tellKind_46 : decode cX8_tellKind 46 = .ok (.getfield 75, 3) := by decide +kernel
theorem dX8_tellKind_49 : decode cX8_tellKind 49 = .ok (.imul, 1) := by decide +kernel
theorem dX8_tellKind_50 : decode cX8_tellKind 50 = .ok (.iconst 3, 1) := by decide +kernel
theorem dX8_tellKind_51 : decode cX8_tellKind 51 = .ok (.iadd, 1) := by decide +kernel
theorem dX8_tellKind_52 : decode cX8_tellKind 52 = .ok (.iload 4, 2) := by decide +kernel
theorem dX8_tellKind_54 : decode cX8_tellKind 54 = .ok (.iastore, 1) := by decide +kernel
theorem dX8_tellKind_55 : decode cX8_tellKind 55 = .ok (.aload_n 0, 1) := by decide +kernel
theorem dX8_tellKind_56 : decode cX8_tellKind 56 = .ok (.getfield 7, 3) := by decide +kernel
theorem dX8_tellKind_59 : decode cX8_tellKind 59 = .ok (.iconst 5, 1) := by decide +kernel
theorem dX8_tellKind_60 : decode cX8_tellKind 60 = .ok (.aload_n 0, 1) := by decide +kernel
theorem dX8_tellKind_61 : decode cX8_tellKind 61 = .ok (.getfield 75, 3) := by decide +kernel
theorem dX8_tellKind_64 : decode cX8_tellKind 64 = .ok (.imul, 1) := by decide +kernel
theorem dX8_tellKind_65 : decode cX8_tellKind 65 = .ok (.iconst 4, 1) := by decide +kernel
theorem dX8_tellKind_66 : decode cX8_tellKind 66 = .ok (.iadd, 1) := by decide +kernel
theorem dX8_tellKind_67 : decode cX8_tellKind 67 = .ok (.iload 5, 2) := by decide +kernel
theorem dX8_tellKind_69 : decode cX8_tellKind 69 = .ok (.iastore, 1) := by decide +kernel
theorem dX8_tellKind_70 : decode cX8_tellKind 70 = .ok (.aload_n 0, 1) := by decide +kernel
theorem dX8_tellKind_71 : decode cX8_tellKind 71 = .ok (.dup, 1) := by decide +kernel
theorem dX8_tellKind_72 : decode cX8_tellKind 72 = .ok (.getfield 75, 3) := by decide +kernel
theorem dX8_tellKind_75 : decode cX8_tellKind 75 = .ok (.iconst 1, 1) := by decide +kernel
theorem dX8_tellKind_76 : decode cX8_tellKind 76 = .ok (.iadd, 1) := by decide +kernel
theorem dX8_tellKind_77 : decode cX8_tellKind 77 = .ok (.putfield 75, 3) := by decide +kernel
theorem dX8_tellKind_80 : decode cX8_tellKind 80 = .ok (.return_, 1) := by decide +kernel
theorem dX8_in_0 : decode cX8_in 0 = .ok (.lload_n 0, 1) := by decide +kernel
theorem dX8_in_1 : decode cX8_in 1 = .ok (.lload_n 2, 1) := by decide +kernel
theorem dX8_in_2 : decode cX8_in 2 = .ok (.lcmp, 1) := by decide +kernel
theorem dX8_in_3 : decode cX8_in 3 = .ok (.ifCond .lt 14, 3) := by decide +kernel
theorem dX8_in_6 : decode cX8_in 6 = .ok (.lload_n 0, 1) := by decide +kernel
theorem dX8_in_7 : decode cX8_in 7 = .ok (.lload 4, 2) := by decide +kernel
theorem dX8_in_9 : decode cX8_in 9 = .ok (.lcmp, 1) := by decide +kernel
theorem dX8_in_10 : decode cX8_in 10 = .ok (.ifCond .gt 7, 3) := by decide +kernel
theorem dX8_in_13 : decode cX8_in 13 = .ok (.iconst 1, 1) := by decide +kernel
theorem dX8_in_14 : decode cX8_in 14 = .ok (.goto 4, 3) := by decide +kernel
theorem dX8_in_17 : decode cX8_in 17 = .ok (.iconst 0, 1) := by decide +kernel
theorem dX8_in_18 : decode cX8_in 18 = .ok (.ireturn, 1) := by decide +kernel
theorem dX8_has_0 : decode cX8_has 0 = .ok (.iload_n 0, 1) := by decide +kernel
theorem dX8_has_1 : decode cX8_has 1 = .ok (.iload_n 1, 1) := by decide +kernel
theorem dX8_has_2 : decode cX8_has 2 = .ok (.ishr, 1) := by decide +kernel
theorem dX8_has_3 : decode cX8_has 3 = .ok (.iconst 1, 1) := by decide +kernel
theorem dX8_has_4 : decode cX8_has 4 = .ok (.iand, 1) := by decide +kernel
theorem dX8_has_5 : decode cX8_has 5 = .ok (.iconst 1, 1) := by decide +kernel
theorem dX8_has_6 : decode cX8_has 6 = .ok (.if_icmp .ne 7, 3) := by decide +kernel
theorem dX8_has_9 : decode cX8_has 9 = .ok (.iconst 1, 1) := by decide +kernel
theorem dX8_has_10 : decode cX8_has 10 = .ok (.goto 4, 3) := by decide +kernel
theorem dX8_has_13 : decode cX8_has 13 = .ok (.iconst 0, 1) := by decide +kernel
theorem dX8_has_14 : decode cX8_has 14 = .ok (.ireturn, 1) := by decide +kernel
theorem dX8_ones_0 : decode cX8_ones 0 = .ok (.iconst 0, 1) := by decide +kernel
theorem dX8_ones_1 : decode cX8_ones 1 = .ok (.istore_n 1, 1) := by decide +kernel
theorem dX8_ones_2 : decode cX8_ones 2 = .ok (.iload_n 0, 1) := by decide +kernel
theorem dX8_ones_3 : decode cX8_ones 3 = .ok (.istore_n 2, 1) := by decide +kernel
theorem dX8_ones_4 : decode cX8_ones 4 = .ok (.iload_n 2, 1) := by decide +kernel
theorem dX8_ones_5 : decode cX8_ones 5 = .ok (.ifCond .eq 15, 3) := by decide +kernel
theorem dX8_ones_8 : decode cX8_ones 8 = .ok (.iinc 1 1, 3) := by decide +kernel
theorem dX8_ones_11 : decode cX8_ones 11 = .ok (.iload_n 2, 1) := by decide +kernel
theorem dX8_ones_12 : decode cX8_ones 12 = .ok (.iload_n 2, 1) := by decide +kernel
theorem dX8_ones_13 : decode cX8_ones 13 = .ok (.iconst 1, 1) := by decide +kernel
theorem dX8_ones_14 : decode cX8_ones 14 = .ok (.isub, 1) := by decide +kernel
theorem dX8_ones_15 : decode cX8_ones 15 = .ok (.iand, 1) := by decide +kernel
theorem dX8_ones_16 : decode cX8_ones 16 = .ok (.istore_n 2, 1) := by decide +kernel
theorem dX8_ones_17 : decode cX8_ones 17 = .ok (.goto (-13), 3) := by decide +kernel
theorem dX8_ones_20 : decode cX8_ones 20 = .ok (.iload_n 1, 1) := by decide +kernel
theorem dX8_ones_21 : decode cX8_ones 21 = .ok (.ireturn, 1) := by decide +kernel
theorem dX8_isKind_0 : decode cX8_isKind 0 = .ok (.iload_n 1, 1) := by decide +kernel
theorem dX8_isKind_1 : decode cX8_isKind 1 = .ok (.i2l, 1) := by decide +kernel
theorem dX8_isKind_2 : decode cX8_isKind 2 = .ok (.lconst 0, 1) := by decide +kernel
theorem dX8_isKind_3 : decode cX8_isKind 3 = .ok (.aload_n 0, 1) := by decide +kernel
theorem dX8_isKind_4 : decode cX8_isKind 4 = .ok (.getfield 75, 3) := by decide +kernel
theorem dX8_isKind_7 : decode cX8_isKind 7 = .ok (.iconst 1, 1) := by decide +kernel
theorem dX8_isKind_8 : decode cX8_isKind 8 = .ok (.isub, 1) := by decide +kernel
theorem dX8_isKind_9 : decode cX8_isKind 9 = .ok (.i2l, 1) := by decide +kernel
theorem dX8_isKind_10 : decode cX8_isKind 10 = .ok (.invokestatic 78, 3) := by decide +kernel
theorem dX8_isKind_13 : decode cX8_isKind 13 = .ok (.ireturn, 1) := by decide +kernel
theorem dX8_isDoing_0 : decode cX8_isDoing 0 = .ok (.iload_n 0, 1) := by decide +kernel
theorem dX8_isDoing_1 : decode cX8_isDoing 1 = .ok (.i2l, 1) := by decide +kernel
theorem dX8_isDoing_2 : decode cX8_isDoing 2 = .ok (.lconst 0, 1) := by decide +kernel
theorem dX8_isDoing_3 : decode cX8_isDoing 3 = .ok (.ldc2_w 82, 3) := by decide +kernel
theorem dX8_isDoing_6 : decode cX8_isDoing 6 = .ok (.invokestatic 78, 3) := by decide +kernel
theorem dX8_isDoing_9 : decode cX8_isDoing 9 = .ok (.ireturn, 1) := by decide +kernel
theorem dX8_write_0 : decode cX8_write 0 = .ok (.iload_n 1, 1) := by decide +kernel
theorem dX8_write_1 : decode cX8_write 1 = .ok (.i2l, 1) := by decide +kernel
theorem dX8_write_2 : decode cX8_write 2 = .ok (.ldc2_w 84, 3) := by decide +kernel
theorem dX8_write_5 : decode cX8_write 5 = .ok (.ldc2_w 86, 3) := by decide +kernel
theorem dX8_write_8 : decode cX8_write 8 = .ok (.invokestatic 78, 3) := by decide +kernel
theorem dX8_write_11 : decode cX8_write 11 = .ok (.ifCond .ne 5, 3) := by decide +kernel
theorem dX8_write_14 : decode cX8_write 14 = .ok (.iconst (-1), 1) := by decide +kernel
theorem dX8_write_15 : decode cX8_write 15 = .ok (.ireturn, 1) := by decide +kernel
theorem dX8_write_16 : decode cX8_write 16 = .ok (.aload_n 0, 1) := by decide +kernel
theorem dX8_write_17 : decode cX8_write 17 = .ok (.getfield 88, 3) := by decide +kernel
theorem dX8_write_20 : decode cX8_write 20 = .ok (.sipush 200, 3) := by decide +kernel
theorem dX8_write_23 : decode cX8_write 23 = .ok (.if_icmp .ne 6, 3) := by decide +kernel
theorem dX8_write_26 : decode cX8_write 26 = .ok (.bipush (-3), 2) := by decide +kernel
theorem dX8_write_28 : decode cX8_write 28 = .ok (.ireturn, 1) := by decide +kernel
theorem dX8_write_29 : decode cX8_write 29 = .ok (.aload_n 0, 1) := by decide +kernel
theorem dX8_write_30 : decode cX8_write 30 = .ok (.getfield 19, 3) := by decide +kernel
theorem dX8_write_33 : decode cX8_write 33 = .ok (.aload_n 0, 1) := by decide +kernel
theorem dX8_write_34 : decode cX8_write 34 = .ok (.getfield 88, 3) := by decide +kernel
theorem dX8_write_37 : decode cX8_write 37 = .ok (.iload_n 1, 1) := by decide +kernel
theorem dX8_write_38 : decode cX8_write 38 = .ok (.iastore, 1) := by decide +kernel
theorem dX8_write_39 : decode cX8_write 39 = .ok (.aload_n 0, 1) := by decide +kernel
theorem dX8_write_40 : decode cX8_write 40 = .ok (.dup, 1) := by decide +kernel
theorem dX8_write_41 : decode cX8_write 41 = .ok (.getfield 88, 3) := by decide +kernel
theorem dX8_write_44 : decode cX8_write 44 = .ok (.iconst 1, 1) := by decide +kernel
theorem dX8_write_45 : decode cX8_write 45 = .ok (.iadd, 1) := by decide +kernel
theorem dX8_write_46 : decode cX8_write 46 = .ok (.putfield 88, 3) := by decide +kernel
theorem dX8_write_49 : decode cX8_write 49 = .ok (.aload_n 0, 1) := by decide +kernel
theorem dX8_write_50 : decode cX8_write 50 = .ok (.getfield 88, 3) := by decide +kernel
theorem dX8_write_53 : decode cX8_write 53 = .ok (.ireturn, 1) := by decide +kernel
theorem dX8_wipe_0 : decode cX8_wipe 0 = .ok (.aload_n 0, 1) := by decide +kernel
theorem dX8_wipe_1 : decode cX8_wipe 1 = .ok (.getfield 88, 3) := by decide +kernel
theorem dX8_wipe_4 : decode cX8_wipe 4 = .ok (.istore_n 1, 1) := by decide +kernel
theorem dX8_wipe_5 : decode cX8_wipe 5 = .ok (.aload_n 0, 1) := by decide +kernel
theorem dX8_wipe_6 : decode cX8_wipe 6 = .ok (.iconst 0, 1) := by decide +kernel
theorem dX8_wipe_7 : decode cX8_wipe 7 = .ok (.putfield 88, 3) := by decide +kernel
theorem dX8_wipe_10 : decode cX8_wipe 10 = .ok (.iload_n 1, 1) := by decide +kernel
theorem dX8_wipe_11 : decode cX8_wipe 11 = .ok (.ireturn, 1) := by decide +kernel
theorem dX8_readNumbers_0 : decode cX8_readNumbers 0 = .ok (.iconst 0, 1) := by decide +kernel
theorem dX8_readNumbers_1 : decode cX8_readNumbers 1 = .ok (.istore_n 2, 1) := by decide +kernel
theorem dX8_readNumbers_2 : decode cX8_readNumbers 2 = .ok (.iload_n 2, 1) := by decide +kernel
theorem dX8_readNumbers_3 : decode cX8_readNumbers 3 = .ok (.iload_n 1, 1) := by decide +kernel
theorem dX8_readNumbers_4 : decode cX8_readNumbers 4 = .ok (.if_icmp .ge 162, 3) := by decide +kernel
theorem dX8_readNumbers_7 : decode cX8_readNumbers 7 = .ok (.aload_n 0, 1) := by decide +kernel
theorem dX8_readNumbers_8 : decode cX8_readNumbers 8 = .ok (.getfield 91, 3) := by decide +kernel
theorem dX8_readNumbers_11 : decode cX8_readNumbers 11 = .ok (.istore_n 3, 1) := by decide +kernel
theorem dX8_readNumbers_12 : decode cX8_readNumbers 12 = .ok (.iconst 0, 1) := by decide +kernel
theorem dX8_readNumbers_13 : decode cX8_readNumbers 13 = .ok (.istore 4, 2) := by decide +kernel
theorem dX8_readNumbers_15 : decode cX8_readNumbers 15 = .ok (.aload_n 0, 1) := by decide +kernel
theorem dX8_readNumbers_16 : decode cX8_readNumbers 16 = .ok (.getfield 91, 3) := by decide +kernel
theorem dX8_readNumbers_19 : decode cX8_readNumbers 19 = .ok (.aload_n 0, 1) := by decide +kernel
theorem dX8_readNumbers_20 : decode cX8_readNumbers 20 = .ok (.getfield 88, 3) := by decide +kernel
theorem dX8_readNumbers_23 : decode cX8_readNumbers 23 = .ok (.if_icmp .ge 68, 3) := by decide +kernel
theorem dX8_readNumbers_26 : decode cX8_readNumbers 26 = .ok (.aload_n 0, 1) := by decide +kernel
theorem dX8_readNumbers_27 : decode cX8_readNumbers 27 = .ok (.getfield 91, 3) := by decide +kernel
theorem dX8_readNumbers_30 : decode cX8_readNumbers 30 = .ok (.iload_n 3, 1) := by decide +kernel
theorem dX8_readNumbers_31 : decode cX8_readNumbers 31 = .ok (.iconst 2, 1) := by decide +kernel
theorem dX8_readNumbers_32 : decode cX8_readNumbers 32 = .ok (.iadd, 1) := by decide +kernel
theorem dX8_readNumbers_33 : decode cX8_readNumbers 33 = .ok (.if_icmp .ge 58, 3) := by decide +kernel
theorem dX8_readNumbers_36 : decode cX8_readNumbers 36 = .ok (.aload_n 0, 1) := by decide +kernel
theorem dX8_readNumbers_37 : decode cX8_readNumbers 37 = .ok (.getfield 19, 3) := by decide +kernel
theorem dX8_readNumbers_40 : decode cX8_readNumbers 40 = .ok (.aload_n 0, 1) := by decide +kernel
theorem dX8_readNumbers_41 : decode cX8_readNumbers 41 = .ok (.getfield 91, 3) := by decide +kernel
theorem dX8_readNumbers_44 : decode cX8_readNumbers 44 = .ok (.iaload, 1) := by decide +kernel
theorem dX8_readNumbers_45 : decode cX8_readNumbers 45 = .ok (.i2l, 1) := by decide +kernel
theorem dX8_readNumbers_46 : decode cX8_readNumbers 46 = .ok (.ldc2_w 94, 3) := by decide +kernel
theorem dX8_readNumbers_49 : decode cX8_readNumbers 49 = .ok (.ldc2_w 96, 3) := by decide +kernel
theorem dX8_readNumbers_52 : decode cX8_readNumbers 52 = .ok (.invokestatic 78, 3) := by decide +kernel
theorem dX8_readNumbers_55 : decode cX8_readNumbers 55 = .ok (.ifCond .eq 36, 3) := by decide +kernel
theorem dX8_readNumbers_58 : decode cX8_readNumbers 58 = .ok (.bipush 10, 2) := by decide +kernel
theorem dX8_readNumbers_60 : decode cX8_readNumbers 60 = .ok (.iload 4, 2) := by decide +kernel
theorem dX8_readNumbers_62 : decode cX8_readNumbers 62 = .ok (.imul, 1) := by decide +kernel
theorem dX8_readNumbers_63 : decode cX8_readNumbers 63 = .ok (.aload_n 0, 1) := by decide +kernel
theorem dX8_readNumbers_64 : decode cX8_readNumbers 64 = .ok (.getfield 19, 3) := by decide +kernel
theorem dX8_readNumbers_67 : decode cX8_readNumbers 67 = .ok (.aload_n 0, 1) := by decide +kernel
theorem dX8_readNumbers_68 : decode cX8_readNumbers 68 = .ok (.getfield 91, 3) := by decide +kernel
theorem dX8_readNumbers_71 : decode cX8_readNumbers 71 = .ok (.iaload, 1) := by decide +kernel
theorem dX8_readNumbers_72 : decode cX8_readNumbers 72 = .ok (.iadd, 1) := by decide +kernel
theorem dX8_readNumbers_73 : decode cX8_readNumbers 73 = .ok (.bipush 48, 2) := by decide +kernel
theorem dX8_readNumbers_75 : decode cX8_readNumbers 75 = .ok (.isub, 1) := by decide +kernel
theorem dX8_readNumbers_76 : decode cX8_readNumbers 76 = .ok (.istore 4, 2) := by decide +kernel
theorem dX8_readNumbers_78 : decode cX8_readNumbers 78 = .ok (.aload_n 0, 1) := by decide +kernel
theorem dX8_readNumbers_79 : decode cX8_readNumbers 79 = .ok (.dup, 1) := by decide +kernel
theorem dX8_readNumbers_80 : decode cX8_readNumbers 80 = .ok (.getfield 91, 3) := by decide +kernel
theorem dX8_readNumbers_83 : decode cX8_readNumbers 83 = .ok (.iconst 1, 1) := by decide +kernel
theorem dX8_readNumbers_84 : decode cX8_readNumbers 84 = .ok (.iadd, 1) := by decide +kernel
theorem dX8_readNumbers_85 : decode cX8_readNumbers 85 = .ok (.putfield 91, 3) := by decide +kernel
theorem dX8_readNumbers_88 : decode cX8_readNumbers 88 = .ok (.goto (-73), 3) := by decide +kernel
theorem dX8_readNumbers_91 : decode cX8_readNumbers 91 = .ok (.aload_n 0, 1) := by decide +kernel
theorem dX8_readNumbers_92 : decode cX8_readNumbers 92 = .ok (.getfield 22, 3) := by decide +kernel
theorem dX8_readNumbers_95 : decode cX8_readNumbers 95 = .ok (.iload_n 2, 1) := by decide +kernel
theorem dX8_readNumbers_96 : decode cX8_readNumbers 96 = .ok (.iload 4, 2) := by decide +kernel
theorem dX8_readNumbers_98 : decode cX8_readNumbers 98 = .ok (.iastore, 1) := by decide +kernel
theorem dX8_readNumbers_99 : decode cX8_readNumbers 99 = .ok (.iload_n 2, 1) := by decide +kernel
theorem dX8_readNumbers_100 : decode cX8_readNumbers 100 = .ok (.iload_n 1, 1) := by decide +kernel
theorem dX8_readNumbers_101 : decode cX8_readNumbers 101 = .ok (.iconst 1, 1) := by decide +kernel
theorem dX8_readNumbers_102 : decode cX8_readNumbers 102 = .ok (.isub, 1) := by decide +kernel
theorem dX8_readNumbers_103 : decode cX8_readNumbers 103 = .ok (.if_icmp .ne 8, 3) := by decide +kernel
theorem dX8_readNumbers_106 : decode cX8_readNumbers 106 = .ok (.bipush 59, 2) := by decide +kernel
theorem dX8_readNumbers_108 : decode cX8_readNumbers 108 = .ok (.goto 5, 3) := by decide +kernel
theorem dX8_readNumbers_111 : decode cX8_readNumbers 111 = .ok (.bipush 44, 2) := by decide +kernel
theorem dX8_readNumbers_113 : decode cX8_readNumbers 113 = .ok (.istore 5, 2) := by decide +kernel
theorem dX8_readNumbers_115 : decode cX8_readNumbers 115 = .ok (.aload_n 0, 1) := by decide +kernel
theorem dX8_readNumbers_116 : decode cX8_readNumbers 116 = .ok (.getfield 91, 3) := by decide +kernel
theorem dX8_readNumbers_119 : decode cX8_readNumbers 119 = .ok (.iload_n 3, 1) := by decide +kernel
theorem dX8_readNumbers_120 : decode cX8_readNumbers 120 = .ok (.if_icmp .eq 28, 3) := by decide +kernel
theorem dX8_readNumbers_123 : decode cX8_readNumbers 123 = .ok (.aload_n 0, 1) := by decide +kernel
theorem dX8_readNumbers_124 : decode cX8_readNumbers 124 = .ok (.getfield 91, 3) := by decide +kernel
theorem dX8_readNumbers_127 : decode cX8_readNumbers 127 = .ok (.aload_n 0, 1) := by decide +kernel
theorem dX8_readNumbers_128 : decode cX8_readNumbers 128 = .ok (.getfield 88, 3) := by decide +kernel
theorem dX8_readNumbers_131 : decode cX8_readNumbers 131 = .ok (.if_icmp .eq 17, 3) := by decide +kernel
theorem dX8_readNumbers_134 : decode cX8_readNumbers 134 = .ok (.aload_n 0, 1) := by decide +kernel
theorem dX8_readNumbers_135 : decode cX8_readNumbers 135 = .ok (.getfield 19, 3) := by decide +kernel
theorem dX8_readNumbers_138 : decode cX8_readNumbers 138 = .ok (.aload_n 0, 1) := by decide +kernel
theorem dX8_readNumbers_139 : decode cX8_readNumbers 139 = .ok (.getfield 91, 3) := by decide +kernel
theorem dX8_readNumbers_142 : decode cX8_readNumbers 142 = .ok (.iaload, 1) := by decide +kernel
theorem dX8_readNumbers_143 : decode cX8_readNumbers 143 = .ok (.iload 5, 2) := by decide +kernel
theorem dX8_readNumbers_145 : decode cX8_readNumbers 145 = .ok (.if_icmp .eq 5, 3) := by decide +kernel
theorem dX8_readNumbers_148 : decode cX8_readNumbers 148 = .ok (.iconst 0, 1) := by decide +kernel
theorem dX8_readNumbers_149 : decode cX8_readNumbers 149 = .ok (.ireturn, 1) := by decide +kernel
theorem dX8_readNumbers_150 : decode cX8_readNumbers 150 = .ok (.aload_n 0, 1) := by decide +kernel
theorem dX8_readNumbers_151 : decode cX8_readNumbers 151 = .ok (.dup, 1) := by decide +kernel
theorem dX8_readNumbers_152 : decode cX8_readNumbers 152 = .ok (.getfield 91, 3) := by decide +kernel
theorem dX8_readNumbers_155 : decode cX8_readNumbers 155 = .ok (.iconst 1, 1) := by decide +kernel
theorem dX8_readNumbers_156 : decode cX8_readNumbers 156 = .ok (.iadd, 1) := by decide +kernel
theorem dX8_readNumbers_157 : decode cX8_readNumbers 157 = .ok (.putfield 91, 3) := by decide +kernel
theorem dX8_readNumbers_160 : decode cX8_readNumbers 160 = .ok (.iinc 2 1, 3) := by decide +kernel
theorem dX8_readNumbers_163 : decode cX8_readNumbers 163 = .ok (.goto (-161), 3) := by decide +kernel
theorem dX8_readNumbers_166 : decode cX8_readNumbers 166 = .ok (.iconst 1, 1) := by decide +kernel
theorem dX8_readNumbers_167 : decode cX8_readNumbers 167 = .ok (.ireturn, 1) := by decide +kernel
theorem dX8_readKind_0 : decode cX8_readKind 0 = .ok (.aload_n 0, 1) := by decide +kernel
theorem dX8_readKind_1 : decode cX8_readKind 1 = .ok (.getfield 98, 3) := by decide +kernel
theorem dX8_readKind_4 : decode cX8_readKind 4 = .ok (.bipush 6, 2) := by decide +kernel
theorem dX8_readKind_6 : decode cX8_readKind 6 = .ok (.if_icmp .ge 87, 3) := by decide +kernel
theorem dX8_readKind_9 : decode cX8_readKind 9 = .ok (.aload_n 0, 1) := by decide +kernel
theorem dX8_readKind_10 : decode cX8_readKind 10 = .ok (.getfield 22, 3) := by decide +kernel
theorem dX8_readKind_13 : decode cX8_readKind 13 = .ok (.iconst 0, 1) := by decide +kernel
theorem dX8_readKind_14 : decode cX8_readKind 14 = .ok (.iaload, 1) := by decide +kernel
theorem dX8_readKind_15 : decode cX8_readKind 15 = .ok (.i2l, 1) := by decide +kernel
theorem dX8_readKind_16 : decode cX8_readKind 16 = .ok (.lconst 0, 1) := by decide +kernel
theorem dX8_readKind_17 : decode cX8_readKind 17 = .ok (.ldc2_w 101, 3) := by decide +kernel
theorem dX8_readKind_20 : decode cX8_readKind 20 = .ok (.invokestatic 78, 3) := by decide +kernel
theorem dX8_readKind_23 : decode cX8_readKind 23 = .ok (.ifCond .eq 70, 3) := by decide +kernel
theorem dX8_readKind_26 : decode cX8_readKind 26 = .ok (.aload_n 0, 1) := by decide +kernel
theorem dX8_readKind_27 : decode cX8_readKind 27 = .ok (.getfield 22, 3) := by decide +kernel
theorem dX8_readKind_30 : decode cX8_readKind 30 = .ok (.iconst 1, 1) := by decide +kernel
theorem dX8_readKind_31 : decode cX8_readKind 31 = .ok (.iaload, 1) := by decide +kernel
theorem dX8_readKind_32 : decode cX8_readKind 32 = .ok (.invokestatic 103, 3) := by decide +kernel
theorem dX8_readKind_35 : decode cX8_readKind 35 = .ok (.ifCond .eq 58, 3) := by decide +kernel
theorem dX8_readKind_38 : decode cX8_readKind 38 = .ok (.aload_n 0, 1) := by decide +kernel
theorem dX8_readKind_39 : decode cX8_readKind 39 = .ok (.getfield 22, 3) := by decide +kernel
theorem dX8_readKind_42 : decode cX8_readKind 42 = .ok (.iconst 2, 1) := by decide +kernel
theorem dX8_readKind_43 : decode cX8_readKind 43 = .ok (.iaload, 1) := by decide +kernel
theorem dX8_readKind_44 : decode cX8_readKind 44 = .ok (.i2l, 1) := by decide +kernel
theorem dX8_readKind_45 : decode cX8_readKind 45 = .ok (.lconst 0, 1) := by decide +kernel
theorem dX8_readKind_46 : decode cX8_readKind 46 = .ok (.ldc2_w 107, 3) := by decide +kernel
theorem dX8_readKind_49 : decode cX8_readKind 49 = .ok (.invokestatic 78, 3) := by decide +kernel
theorem dX8_readKind_52 : decode cX8_readKind 52 = .ok (.ifCond .eq 41, 3) := by decide +kernel
theorem dX8_readKind_55 : decode cX8_readKind 55 = .ok (.aload_n 0, 1) := by decide +kernel
theorem dX8_readKind_56 : decode cX8_readKind 56 = .ok (.getfield 22, 3) := by decide +kernel
theorem dX8_readKind_59 : decode cX8_readKind 59 = .ok (.iconst 3, 1) := by decide +kernel
theorem dX8_readKind_60 : decode cX8_readKind 60 = .ok (.iaload, 1) := by decide +kernel
theorem dX8_readKind_61 : decode cX8_readKind 61 = .ok (.i2l, 1) := by decide +kernel
theorem dX8_readKind_62 : decode cX8_readKind 62 = .ok (.lconst 0, 1) := by decide +kernel
theorem dX8_readKind_63 : decode cX8_readKind 63 = .ok (.ldc2_w 109, 3) := by decide +kernel
theorem dX8_readKind_66 : decode cX8_readKind 66 = .ok (.invokestatic 78, 3) := by decide +kernel
theorem dX8_readKind_69 : decode cX8_readKind 69 = .ok (.ifCond .eq 24, 3) := by decide +kernel
theorem dX8_readKind_72 : decode cX8_readKind 72 = .ok (.aload_n 0, 1) := by decide +kernel
theorem dX8_readKind_73 : decode cX8_readKind 73 = .ok (.getfield 22, 3) := by decide +kernel
theorem dX8_readKind_76 : decode cX8_readKind 76 = .ok (.iconst 4, 1) := by decide +kernel
theorem dX8_readKind_77 : decode cX8_readKind 77 = .ok (.iaload, 1) := by decide +kernel
theorem dX8_readKind_78 : decode cX8_readKind 78 = .ok (.i2l, 1) := by decide +kernel
theorem dX8_readKind_79 : decode cX8_readKind 79 = .ok (.lconst 1, 1) := by decide +kernel
theorem dX8_readKind_80 : decode cX8_readKind 80 = .ok (.ldc2_w 111, 3) := by decide +kernel
theorem dX8_readKind_83 : decode cX8_readKind 83 = .ok (.invokestatic 78, 3) := by decide +kernel
theorem dX8_readKind_86 : decode cX8_readKind 86 = .ok (.ifCond .eq 7, 3) := by decide +kernel
theorem dX8_readKind_89 : decode cX8_readKind 89 = .ok (.iconst 1, 1) := by decide +kernel
theorem dX8_readKind_90 : decode cX8_readKind 90 = .ok (.goto 4, 3) := by decide +kernel
theorem dX8_readKind_93 : decode cX8_readKind 93 = .ok (.iconst 0, 1) := by decide +kernel
theorem dX8_readKind_94 : decode cX8_readKind 94 = .ok (.istore_n 1, 1) := by decide +kernel
theorem dX8_readKind_95 : decode cX8_readKind 95 = .ok (.iconst 0, 1) := by decide +kernel
theorem dX8_readKind_96 : decode cX8_readKind 96 = .ok (.istore_n 2, 1) := by decide +kernel
theorem dX8_readKind_97 : decode cX8_readKind 97 = .ok (.iload_n 2, 1) := by decide +kernel
theorem dX8_readKind_98 : decode cX8_readKind 98 = .ok (.iconst 5, 1) := by decide +kernel
theorem dX8_readKind_99 : decode cX8_readKind 99 = .ok (.if_icmp .ge 32, 3) := by decide +kernel
theorem dX8_readKind_102 : decode cX8_readKind 102 = .ok (.iload_n 1, 1) := by decide +kernel
theorem dX8_readKind_103 : decode cX8_readKind 103 = .ok (.ifCond .eq 28, 3) := by decide +kernel
theorem dX8_readKind_106 : decode cX8_readKind 106 = .ok (.aload_n 0, 1) := by decide +kernel
theorem dX8_readKind_107 : decode cX8_readKind 107 = .ok (.getfield 25, 3) := by decide +kernel
theorem dX8_readKind_110 : decode cX8_readKind 110 = .ok (.iconst 5, 1) := by decide +kernel
theorem dX8_readKind_111 : decode cX8_readKind 111 = .ok (.aload_n 0, 1) := by decide +kernel
theorem dX8_readKind_112 : decode cX8_readKind 112 = .ok (.getfield 98, 3) := by decide +kernel
theorem dX8_readKind_115 : decode cX8_readKind 115 = .ok (.imul, 1) := by decide +kernel
theorem dX8_readKind_116 : decode cX8_readKind 116 = .ok (.iload_n 2, 1) := by decide +kernel
theorem dX8_readKind_117 : decode cX8_readKind 117 = .ok (.iadd, 1) := by decide +kernel
theorem dX8_readKind_118 : decode cX8_readKind 118 = .ok (.aload_n 0, 1) := by decide +kernel
theorem dX8_readKind_119 : decode cX8_readKind 119 = .ok (.getfield 22, 3) := by decide +kernel
theorem dX8_readKind_122 : decode cX8_readKind 122 = .ok (.iload_n 2, 1) := by decide +kernel
theorem dX8_readKind_123 : decode cX8_readKind 123 = .ok (.iaload, 1) := by decide +kernel
theorem dX8_readKind_124 : decode cX8_readKind 124 = .ok (.iastore, 1) := by decide +kernel
theorem dX8_readKind_125 : decode cX8_readKind 125 = .ok (.iinc 2 1, 3) := by decide +kernel
theorem dX8_readKind_128 : decode cX8_readKind 128 = .ok (.goto (-31), 3) := by decide +kernel
theorem dX8_readKind_131 : decode cX8_readKind 131 = .ok (.aload_n 0, 1) := by decide +kernel
theorem dX8_readKind_132 : decode cX8_readKind 132 = .ok (.dup, 1) := by decide +kernel
theorem dX8_readKind_133 : decode cX8_readKind 133 = .ok (.getfield 98, 3) := by decide +kernel
theorem dX8_readKind_136 : decode cX8_readKind 136 = .ok (.iload_n 1, 1) := by decide +kernel
theorem dX8_readKind_137 : decode cX8_readKind 137 = .ok (.ifCond .eq 7, 3) := by decide +kernel
theorem dX8_readKind_140 : decode cX8_readKind 140 = .ok (.iconst 1, 1) := by decide +kernel
theorem dX8_readKind_141 : decode cX8_readKind 141 = .ok (.goto 4, 3) := by decide +kernel
theorem dX8_readKind_144 : decode cX8_readKind 144 = .ok (.iconst 0, 1) := by decide +kernel
theorem dX8_readKind_145 : decode cX8_readKind 145 = .ok (.iadd, 1) := by decide +kernel
theorem dX8_readKind_146 : decode cX8_readKind 146 = .ok (.putfield 98, 3) := by decide +kernel
theorem dX8_readKind_149 : decode cX8_readKind 149 = .ok (.iload_n 1, 1) := by decide +kernel
theorem dX8_readKind_150 : decode cX8_readKind 150 = .ok (.ireturn, 1) := by decide +kernel
theorem dX8_readItem_0 : decode cX8_readItem 0 = .ok (.aload_n 0, 1) := by decide +kernel
theorem dX8_readItem_1 : decode cX8_readItem 1 = .ok (.getfield 19, 3) := by decide +kernel
theorem dX8_readItem_4 : decode cX8_readItem 4 = .ok (.aload_n 0, 1) := by decide +kernel
theorem dX8_readItem_5 : decode cX8_readItem 5 = .ok (.getfield 91, 3) := by decide +kernel
theorem dX8_readItem_8 : decode cX8_readItem 8 = .ok (.iaload, 1) := by decide +kernel
theorem dX8_readItem_9 : decode cX8_readItem 9 = .ok (.istore_n 1, 1) := by decide +kernel
theorem dX8_readItem_10 : decode cX8_readItem 10 = .ok (.aload_n 0, 1) := by decide +kernel
theorem dX8_readItem_11 : decode cX8_readItem 11 = .ok (.dup, 1) := by decide +kernel
theorem dX8_readItem_12 : decode cX8_readItem 12 = .ok (.getfield 91, 3) := by decide +kernel
theorem dX8_readItem_15 : decode cX8_readItem 15 = .ok (.iconst 1, 1) := by decide +kernel
theorem dX8_readItem_16 : decode cX8_readItem 16 = .ok (.iadd, 1) := by decide +kernel
theorem dX8_readItem_17 : decode cX8_readItem 17 = .ok (.putfield 91, 3) := by decide +kernel
theorem dX8_readItem_20 : decode cX8_readItem 20 = .ok (.iload_n 1, 1) := by decide +kernel
theorem dX8_readItem_21 : decode cX8_readItem 21 = .ok (.bipush 107, 2) := by decide +kernel
theorem dX8_readItem_23 : decode cX8_readItem 23 = .ok (.if_icmp .ne 7, 3) := by decide +kernel
theorem dX8_readItem_26 : decode cX8_readItem 26 = .ok (.iconst 5, 1) := by decide +kernel
theorem dX8_readItem_27 : decode cX8_readItem 27 = .ok (.goto 26, 3) := by decide +kernel
theorem dX8_readItem_30 : decode cX8_readItem 30 = .ok (.iload_n 1, 1) := by decide +kernel
theorem dX8_readItem_31 : decode cX8_readItem 31 = .ok (.bipush 108, 2) := by decide +kernel
theorem dX8_readItem_33 : decode cX8_readItem 33 = .ok (.if_icmp .eq 15, 3) := by decide +kernel
theorem dX8_readItem_36 : decode cX8_readItem 36 = .ok (.iload_n 1, 1) := by decide +kernel
theorem dX8_readItem_37 : decode cX8_readItem 37 = .ok (.bipush 102, 2) := by decide +kernel
theorem dX8_readItem_39 : decode cX8_readItem 39 = .ok (.if_icmp .eq 9, 3) := by decide +kernel
theorem dX8_readItem_42 : decode cX8_readItem 42 = .ok (.iload_n 1, 1) := by decide +kernel
theorem dX8_readItem_43 : decode cX8_readItem 43 = .ok (.bipush 101, 2) := by decide +kernel
theorem dX8_readItem_45 : decode cX8_readItem 45 = .ok (.if_icmp .ne 7, 3) := by decide +kernel
theorem dX8_readItem_48 : decode cX8_readItem 48 = .ok (.iconst 1, 1) := by decide +kernel
theorem dX8_readItem_49 : decode cX8_readItem 49 = .ok (.goto 4, 3) := by decide +kernel
theorem dX8_readItem_52 : decode cX8_readItem 52 = .ok (.iconst 0, 1) := by decide +kernel
theorem dX8_readItem_53 : decode cX8_readItem 53 = .ok (.istore_n 2, 1) := by decide +kernel
theorem dX8_readItem_54 : decode cX8_readItem 54 = .ok (.iload_n 2, 1) := by decide +kernel
theorem dX8_readItem_55 : decode cX8_readItem 55 = .ok (.ifCond .eq 11, 3) := by decide +kernel
theorem dX8_readItem_58 : decode cX8_readItem 58 = .ok (.aload_n 0, 1) := by decide +kernel
theorem dX8_readItem_59 : decode cX8_readItem 59 = .ok (.iload_n 2, 1) := by decide +kernel
theorem dX8_readItem_60 : decode cX8_readItem 60 = .ok (.invokevirtual 113, 3) := by decide +kernel
theorem dX8_readItem_63 : decode cX8_readItem 63 = .ok (.ifCond .ne 5, 3) := by decide +kernel
theorem dX8_readItem_66 : decode cX8_readItem 66 = .ok (.iconst 0, 1) := by decide +kernel
theorem dX8_readItem_67 : decode cX8_readItem 67 = .ok (.ireturn, 1) := by decide +kernel
theorem dX8_readItem_68 : decode cX8_readItem 68 = .ok (.aload_n 0, 1) := by decide +kernel
theorem dX8_readItem_69 : decode cX8_readItem 69 = .ok (.getfield 22, 3) := by decide +kernel
theorem dX8_readItem_72 : decode cX8_readItem 72 = .ok (.iconst 0, 1) := by decide +kernel
theorem dX8_readItem_73 : decode cX8_readItem 73 = .ok (.iaload, 1) := by decide +kernel
theorem dX8_readItem_74 : decode cX8_readItem 74 = .ok (.istore_n 3, 1) := by decide +kernel
theorem dX8_readItem_75 : decode cX8_readItem 75 = .ok (.iload_n 1, 1) := by decide +kernel
theorem dX8_readItem_76 : decode cX8_readItem 76 = .ok (.bipush 107, 2) := by decide +kernel
theorem dX8_readItem_78 : decode cX8_readItem 78 = .ok (.if_icmp .ne 8, 3) := by decide +kernel
theorem dX8_readItem_81 : decode cX8_readItem 81 = .ok (.aload_n 0, 1) := by decide +kernel
theorem dX8_readItem_82 : decode cX8_readItem 82 = .ok (.invokevirtual 116, 3) := by decide +kernel
theorem dX8_readItem_85 : decode cX8_readItem 85 = .ok (.ireturn, 1) := by decide +kernel
theorem dX8_readItem_86 : decode cX8_readItem 86 = .ok (.iload_n 1, 1) := by decide +kernel
theorem dX8_readItem_87 : decode cX8_readItem 87 = .ok (.bipush 108, 2) := by decide +kernel
theorem dX8_readItem_89 : decode cX8_readItem 89 = .ok (.if_icmp .ne 19, 3) := by decide +kernel
theorem dX8_readItem_92 : decode cX8_readItem 92 = .ok (.aload_n 0, 1) := by decide +kernel
theorem dX8_readItem_93 : decode cX8_readItem 93 = .ok (.iload_n 3, 1) := by decide +kernel
theorem dX8_readItem_94 : decode cX8_readItem 94 = .ok (.putfield 120, 3) := by decide +kernel
theorem dX8_readItem_97 : decode cX8_readItem 97 = .ok (.iload_n 3, 1) := by decide +kernel
theorem dX8_readItem_98 : decode cX8_readItem 98 = .ok (.iconst 4, 1) := by decide +kernel
theorem dX8_readItem_99 : decode cX8_readItem 99 = .ok (.if_icmp .ge 7, 3) := by decide +kernel
theorem dX8_readItem_102 : decode cX8_readItem 102 = .ok (.iconst 1, 1) := by decide +kernel
theorem dX8_readItem_103 : decode cX8_readItem 103 = .ok (.goto 4, 3) := by decide +kernel
theorem dX8_readItem_106 : decode cX8_readItem 106 = .ok (.iconst 0, 1) := by decide +kernel
theorem dX8_readItem_107 : decode cX8_readItem 107 = .ok (.ireturn, 1) := by decide +kernel
theorem dX8_readItem_108 : decode cX8_readItem 108 = .ok (.iload_n 1, 1) := by decide +kernel
theorem dX8_readItem_109 : decode cX8_readItem 109 = .ok (.bipush 102, 2) := by decide +kernel
theorem dX8_readItem_111 : decode cX8_readItem 111 = .ok (.if_icmp .ne 20, 3) := by decide +kernel
theorem dX8_readItem_114 : decode cX8_readItem 114 = .ok (.aload_n 0, 1) := by decide +kernel
theorem dX8_readItem_115 : decode cX8_readItem 115 = .ok (.iload_n 3, 1) := by decide +kernel
theorem dX8_readItem_116 : decode cX8_readItem 116 = .ok (.putfield 123, 3) := by decide +kernel
theorem dX8_readItem_119 : decode cX8_readItem 119 = .ok (.iload_n 3, 1) := by decide +kernel
theorem dX8_readItem_120 : decode cX8_readItem 120 = .ok (.bipush 6, 2) := by decide +kernel
theorem dX8_readItem_122 : decode cX8_readItem 122 = .ok (.if_icmp .ge 7, 3) := by decide +kernel
theorem dX8_readItem_125 : decode cX8_readItem 125 = .ok (.iconst 1, 1) := by decide +kernel
theorem dX8_readItem_126 : decode cX8_readItem 126 = .ok (.goto 4, 3) := by decide +kernel
theorem dX8_readItem_129 : decode cX8_readItem 129 = .ok (.iconst 0, 1) := by decide +kernel
theorem dX8_readItem_130 : decode cX8_readItem 130 = .ok (.ireturn, 1) := by decide +kernel
theorem dX8_readItem_131 : decode cX8_readItem 131 = .ok (.iload_n 3, 1) := by decide +kernel
theorem dX8_readItem_132 : decode cX8_readItem 132 = .ok (.aload_n 0, 1) := by decide +kernel
theorem dX8_readItem_133 : decode cX8_readItem 133 = .ok (.getfield 98, 3) := by decide +kernel
theorem dX8_readItem_136 : decode cX8_readItem 136 = .ok (.if_icmp .ge 12, 3) := by decide +kernel
theorem dX8_readItem_139 : decode cX8_readItem 139 = .ok (.aload_n 0, 1) := by decide +kernel
theorem dX8_readItem_140 : decode cX8_readItem 140 = .ok (.getfield 126, 3) := by decide +kernel
theorem dX8_readItem_143 : decode cX8_readItem 143 = .ok (.bipush 10, 2) := by decide +kernel
theorem dX8_readItem_145 : decode cX8_readItem 145 = .ok (.if_icmp .ne 5, 3) := by decide +kernel
theorem dX8_readItem_148 : decode cX8_readItem 148 = .ok (.iconst 0, 1) := by decide +kernel
theorem dX8_readItem_149 : decode cX8_readItem 149 = .ok (.ireturn, 1) := by decide +kernel
theorem dX8_readItem_150 : decode cX8_readItem 150 = .ok (.aload_n 0, 1) := by decide +kernel
theorem dX8_readItem_151 : decode cX8_readItem 151 = .ok (.getfield 28, 3) := by decide +kernel
theorem dX8_readItem_154 : decode cX8_readItem 154 = .ok (.aload_n 0, 1) := by decide +kernel
theorem dX8_readItem_155 : decode cX8_readItem 155 = .ok (.getfield 126, 3) := by decide +kernel
theorem dX8_readItem_158 : decode cX8_readItem 158 = .ok (.iload_n 3, 1) := by decide +kernel
theorem dX8_readItem_159 : decode cX8_readItem 159 = .ok (.iastore, 1) := by decide +kernel
theorem dX8_readItem_160 : decode cX8_readItem 160 = .ok (.aload_n 0, 1) := by decide +kernel
theorem dX8_readItem_161 : decode cX8_readItem 161 = .ok (.dup, 1) := by decide +kernel
theorem dX8_readItem_162 : decode cX8_readItem 162 = .ok (.getfield 126, 3) := by decide +kernel
theorem dX8_readItem_165 : decode cX8_readItem 165 = .ok (.iconst 1, 1) := by decide +kernel
theorem dX8_readItem_166 : decode cX8_readItem 166 = .ok (.iadd, 1) := by decide +kernel
theorem dX8_readItem_167 : decode cX8_readItem 167 = .ok (.putfield 126, 3) := by decide +kernel
theorem dX8_readItem_170 : decode cX8_readItem 170 = .ok (.iconst 1, 1) := by decide +kernel
theorem dX8_readItem_171 : decode cX8_readItem 171 = .ok (.ireturn, 1) := by decide +kernel
theorem dX8_fault_0 : decode cX8_fault 0 = .ok (.aload_n 0, 1) := by decide +kernel
theorem dX8_fault_1 : decode cX8_fault 1 = .ok (.iconst 0, 1) := by decide +kernel
theorem dX8_fault_2 : decode cX8_fault 2 = .ok (.putfield 91, 3) := by decide +kernel
theorem dX8_fault_5 : decode cX8_fault 5 = .ok (.aload_n 0, 1) := by decide +kernel
theorem dX8_fault_6 : decode cX8_fault 6 = .ok (.iconst 0, 1) := by decide +kernel
theorem dX8_fault_7 : decode cX8_fault 7 = .ok (.putfield 98, 3) := by decide +kernel
theorem dX8_fault_10 : decode cX8_fault 10 = .ok (.aload_n 0, 1) := by decide +kernel
theorem dX8_fault_11 : decode cX8_fault 11 = .ok (.iconst 0, 1) := by decide +kernel
theorem dX8_fault_12 : decode cX8_fault 12 = .ok (.putfield 120, 3) := by decide +kernel
theorem dX8_fault_15 : decode cX8_fault 15 = .ok (.aload_n 0, 1) := by decide +kernel
theorem dX8_fault_16 : decode cX8_fault 16 = .ok (.iconst 0, 1) := by decide +kernel
theorem dX8_fault_17 : decode cX8_fault 17 = .ok (.putfield 123, 3) := by decide +kernel
theorem dX8_fault_20 : decode cX8_fault 20 = .ok (.aload_n 0, 1) := by decide +kernel
theorem dX8_fault_21 : decode cX8_fault 21 = .ok (.iconst 0, 1) := by decide +kernel
theorem dX8_fault_22 : decode cX8_fault 22 = .ok (.putfield 126, 3) := by decide +kernel
theorem dX8_fault_25 : decode cX8_fault 25 = .ok (.aload_n 0, 1) := by decide +kernel
theorem dX8_fault_26 : decode cX8_fault 26 = .ok (.getfield 91, 3) := by decide +kernel
theorem dX8_fault_29 : decode cX8_fault 29 = .ok (.aload_n 0, 1) := by decide +kernel
theorem dX8_fault_30 : decode cX8_fault 30 = .ok (.getfield 88, 3) := by decide +kernel
theorem dX8_fault_33 : decode cX8_fault 33 = .ok (.if_icmp .ge 20, 3) := by decide +kernel
theorem dX8_fault_36 : decode cX8_fault 36 = .ok (.aload_n 0, 1) := by decide +kernel
theorem dX8_fault_37 : decode cX8_fault 37 = .ok (.getfield 91, 3) := by decide +kernel
theorem dX8_fault_40 : decode cX8_fault 40 = .ok (.istore_n 1, 1) := by decide +kernel
theorem dX8_fault_41 : decode cX8_fault 41 = .ok (.aload_n 0, 1) := by decide +kernel
theorem dX8_fault_42 : decode cX8_fault 42 = .ok (.invokevirtual 129, 3) := by decide +kernel
theorem dX8_fault_45 : decode cX8_fault 45 = .ok (.ifCond .ne 5, 3) := by decide +kernel
theorem dX8_fault_48 : decode cX8_fault 48 = .ok (.iload_n 1, 1) := by decide +kernel
theorem dX8_fault_49 : decode cX8_fault 49 = .ok (.ireturn, 1) := by decide +kernel
theorem dX8_fault_50 : decode cX8_fault 50 = .ok (.goto (-25), 3) := by decide +kernel
theorem dX8_fault_53 : decode cX8_fault 53 = .ok (.bipush (-4), 2) := by decide +kernel
theorem dX8_fault_55 : decode cX8_fault 55 = .ok (.ireturn, 1) := by decide +kernel
theorem dX8_lay_0 : decode cX8_lay 0 = .ok (.aload_n 0, 1) := by decide +kernel
theorem dX8_lay_1 : decode cX8_lay 1 = .ok (.invokevirtual 132, 3) := by decide +kernel
theorem dX8_lay_4 : decode cX8_lay 4 = .ok (.bipush (-4), 2) := by decide +kernel
theorem dX8_lay_6 : decode cX8_lay 6 = .ok (.if_icmp .ne 10, 3) := by decide +kernel
theorem dX8_lay_9 : decode cX8_lay 9 = .ok (.aload_n 0, 1) := by decide +kernel
theorem dX8_lay_10 : decode cX8_lay 10 = .ok (.getfield 98, 3) := by decide +kernel
theorem dX8_lay_13 : decode cX8_lay 13 = .ok (.ifCond .ne 6, 3) := by decide +kernel
theorem dX8_lay_16 : decode cX8_lay 16 = .ok (.bipush (-2), 2) := by decide +kernel
theorem dX8_lay_18 : decode cX8_lay 18 = .ok (.ireturn, 1) := by decide +kernel
theorem dX8_lay_19 : decode cX8_lay 19 = .ok (.aload_n 0, 1) := by decide +kernel
theorem dX8_lay_20 : decode cX8_lay 20 = .ok (.aload_n 0, 1) := by decide +kernel
theorem dX8_lay_21 : decode cX8_lay 21 = .ok (.getfield 98, 3) := by decide +kernel
theorem dX8_lay_24 : decode cX8_lay 24 = .ok (.putfield 75, 3) := by decide +kernel
theorem dX8_lay_27 : decode cX8_lay 27 = .ok (.aload_n 0, 1) := by decide +kernel
theorem dX8_lay_28 : decode cX8_lay 28 = .ok (.aload_n 0, 1) := by decide +kernel
theorem dX8_lay_29 : decode cX8_lay 29 = .ok (.getfield 120, 3) := by decide +kernel
theorem dX8_lay_32 : decode cX8_lay 32 = .ok (.putfield 136, 3) := by decide +kernel
theorem dX8_lay_35 : decode cX8_lay 35 = .ok (.aload_n 0, 1) := by decide +kernel
theorem dX8_lay_36 : decode cX8_lay 36 = .ok (.aload_n 0, 1) := by decide +kernel
theorem dX8_lay_37 : decode cX8_lay 37 = .ok (.getfield 123, 3) := by decide +kernel
theorem dX8_lay_40 : decode cX8_lay 40 = .ok (.putfield 139, 3) := by decide +kernel
theorem dX8_lay_43 : decode cX8_lay 43 = .ok (.aload_n 0, 1) := by decide +kernel
theorem dX8_lay_44 : decode cX8_lay 44 = .ok (.aload_n 0, 1) := by decide +kernel
theorem dX8_lay_45 : decode cX8_lay 45 = .ok (.getfield 126, 3) := by decide +kernel
theorem dX8_lay_48 : decode cX8_lay 48 = .ok (.putfield 71, 3) := by decide +kernel
theorem dX8_lay_51 : decode cX8_lay 51 = .ok (.iconst 0, 1) := by decide +kernel
theorem dX8_lay_52 : decode cX8_lay 52 = .ok (.istore_n 1, 1) := by decide +kernel
theorem dX8_lay_53 : decode cX8_lay 53 = .ok (.iload_n 1, 1) := by decide +kernel
theorem dX8_lay_54 : decode cX8_lay 54 = .ok (.bipush 30, 2) := by decide +kernel
theorem dX8_lay_56 : decode cX8_lay 56 = .ok (.if_icmp .ge 21, 3) := by decide +kernel
theorem dX8_lay_59 : decode cX8_lay 59 = .ok (.aload_n 0, 1) := by decide +kernel
theorem dX8_lay_60 : decode cX8_lay 60 = .ok (.getfield 7, 3) := by decide +kernel
theorem dX8_lay_63 : decode cX8_lay 63 = .ok (.iload_n 1, 1) := by decide +kernel
theorem dX8_lay_64 : decode cX8_lay 64 = .ok (.aload_n 0, 1) := by decide +kernel
theorem dX8_lay_65 : decode cX8_lay 65 = .ok (.getfield 25, 3) := by decide +kernel
theorem dX8_lay_68 : decode cX8_lay 68 = .ok (.iload_n 1, 1) := by decide +kernel
theorem dX8_lay_69 : decode cX8_lay 69 = .ok (.iaload, 1) := by decide +kernel
theorem dX8_lay_70 : decode cX8_lay 70 = .ok (.iastore, 1) := by decide +kernel
theorem dX8_lay_71 : decode cX8_lay 71 = .ok (.iinc 1 1, 3) := by decide +kernel
theorem dX8_lay_74 : decode cX8_lay 74 = .ok (.goto (-21), 3) := by decide +kernel
theorem dX8_lay_77 : decode cX8_lay 77 = .ok (.iconst 0, 1) := by decide +kernel
theorem dX8_lay_78 : decode cX8_lay 78 = .ok (.istore_n 1, 1) := by decide +kernel
theorem dX8_lay_79 : decode cX8_lay 79 = .ok (.iload_n 1, 1) := by decide +kernel
theorem dX8_lay_80 : decode cX8_lay 80 = .ok (.bipush 10, 2) := by decide +kernel
theorem dX8_lay_82 : decode cX8_lay 82 = .ok (.if_icmp .ge 21, 3) := by decide +kernel
theorem dX8_lay_85 : decode cX8_lay 85 = .ok (.aload_n 0, 1) := by decide +kernel
theorem dX8_lay_86 : decode cX8_lay 86 = .ok (.getfield 13, 3) := by decide +kernel
theorem dX8_lay_89 : decode cX8_lay 89 = .ok (.iload_n 1, 1) := by decide +kernel
theorem dX8_lay_90 : decode cX8_lay 90 = .ok (.aload_n 0, 1) := by decide +kernel
theorem dX8_lay_91 : decode cX8_lay 91 = .ok (.getfield 28, 3) := by decide +kernel
theorem dX8_lay_94 : decode cX8_lay 94 = .ok (.iload_n 1, 1) := by decide +kernel
theorem dX8_lay_95 : decode cX8_lay 95 = .ok (.iaload, 1) := by decide +kernel
theorem dX8_lay_96 : decode cX8_lay 96 = .ok (.iastore, 1) := by decide +kernel
theorem dX8_lay_97 : decode cX8_lay 97 = .ok (.iinc 1 1, 3) := by decide +kernel
theorem dX8_lay_100 : decode cX8_lay 100 = .ok (.goto (-21), 3) := by decide +kernel
theorem dX8_lay_103 : decode cX8_lay 103 = .ok (.iconst 0, 1) := by decide +kernel
theorem dX8_lay_104 : decode cX8_lay 104 = .ok (.istore_n 1, 1) := by decide +kernel
theorem dX8_lay_105 : decode cX8_lay 105 = .ok (.iload_n 1, 1) := by decide +kernel
theorem dX8_lay_106 : decode cX8_lay 106 = .ok (.bipush 50, 2) := by decide +kernel
theorem dX8_lay_108 : decode cX8_lay 108 = .ok (.if_icmp .ge 16, 3) := by decide +kernel
theorem dX8_lay_111 : decode cX8_lay 111 = .ok (.aload_n 0, 1) := by decide +kernel
theorem dX8_lay_112 : decode cX8_lay 112 = .ok (.getfield 16, 3) := by decide +kernel
theorem dX8_lay_115 : decode cX8_lay 115 = .ok (.iload_n 1, 1) := by decide +kernel
theorem dX8_lay_116 : decode cX8_lay 116 = .ok (.iconst 0, 1) := by decide +kernel
theorem dX8_lay_117 : decode cX8_lay 117 = .ok (.iastore, 1) := by decide +kernel
theorem dX8_lay_118 : decode cX8_lay 118 = .ok (.iinc 1 1, 3) := by decide +kernel
theorem dX8_lay_121 : decode cX8_lay 121 = .ok (.goto (-16), 3) := by decide +kernel
theorem dX8_lay_124 : decode cX8_lay 124 = .ok (.aload_n 0, 1) := by decide +kernel
theorem dX8_lay_125 : decode cX8_lay 125 = .ok (.iconst 0, 1) := by decide +kernel
theorem dX8_lay_126 : decode cX8_lay 126 = .ok (.putfield 142, 3) := by decide +kernel
theorem dX8_lay_129 : decode cX8_lay 129 = .ok (.aload_n 0, 1) := by decide +kernel
theorem dX8_lay_130 : decode cX8_lay 130 = .ok (.iconst 0, 1) := by decide +kernel
theorem dX8_lay_131 : decode cX8_lay 131 = .ok (.putfield 145, 3) := by decide +kernel
theorem dX8_lay_134 : decode cX8_lay 134 = .ok (.aload_n 0, 1) := by decide +kernel
theorem dX8_lay_135 : decode cX8_lay 135 = .ok (.iconst 0, 1) := by decide +kernel
theorem dX8_lay_136 : decode cX8_lay 136 = .ok (.putfield 148, 3) := by decide +kernel
theorem dX8_lay_139 : decode cX8_lay 139 = .ok (.aload_n 0, 1) := by decide +kernel
theorem dX8_lay_140 : decode cX8_lay 140 = .ok (.getfield 75, 3) := by decide +kernel
theorem dX8_lay_143 : decode cX8_lay 143 = .ok (.ireturn, 1) := by decide +kernel
theorem dX8_kind_0 : decode cX8_kind 0 = .ok (.aload_n 0, 1) := by decide +kernel
theorem dX8_kind_1 : decode cX8_kind 1 = .ok (.iload_n 1, 1) := by decide +kernel
theorem dX8_kind_2 : decode cX8_kind 2 = .ok (.invokevirtual 151, 3) := by decide +kernel
theorem dX8_kind_5 : decode cX8_kind 5 = .ok (.ifCond .eq 15, 3) := by decide +kernel
theorem dX8_kind_8 : decode cX8_kind 8 = .ok (.iload_n 2, 1) := by decide +kernel
theorem dX8_kind_9 : decode cX8_kind 9 = .ok (.i2l, 1) := by decide +kernel
theorem dX8_kind_10 : decode cX8_kind 10 = .ok (.lconst 0, 1) := by decide +kernel
theorem dX8_kind_11 : decode cX8_kind 11 = .ok (.ldc2_w 82, 3) := by decide +kernel
theorem dX8_kind_14 : decode cX8_kind 14 = .ok (.invokestatic 78, 3) := by decide +kernel
theorem dX8_kind_17 : decode cX8_kind 17 = .ok (.ifCond .ne 5, 3) := by decide +kernel
theorem dX8_kind_20 : decode cX8_kind 20 = .ok (.iconst (-1), 1) := by decide +kernel
theorem dX8_kind_21 : decode cX8_kind 21 = .ok (.ireturn, 1) := by decide +kernel
theorem dX8_kind_22 : decode cX8_kind 22 = .ok (.iload_n 2, 1) := by decide +kernel
theorem dX8_kind_23 : decode cX8_kind 23 = .ok (.iconst 5, 1) := by decide +kernel
theorem dX8_kind_24 : decode cX8_kind 24 = .ok (.if_icmp .ne 15, 3) := by decide +kernel
theorem dX8_kind_27 : decode cX8_kind 27 = .ok (.aload_n 0, 1) := by decide +kernel
theorem dX8_kind_28 : decode cX8_kind 28 = .ok (.getfield 16, 3) := by decide +kernel
theorem dX8_kind_31 : decode cX8_kind 31 = .ok (.bipush 44, 2) := by decide +kernel
theorem dX8_kind_33 : decode cX8_kind 33 = .ok (.iload_n 1, 1) := by decide +kernel
theorem dX8_kind_34 : decode cX8_kind 34 = .ok (.iadd, 1) := by decide +kernel
theorem dX8_kind_35 : decode cX8_kind 35 = .ok (.iaload, 1) := by decide +kernel
theorem dX8_kind_36 : decode cX8_kind 36 = .ok (.goto 13, 3) := by decide +kernel
theorem dX8_kind_39 : decode cX8_kind 39 = .ok (.aload_n 0, 1) := by decide +kernel
theorem dX8_kind_40 : decode cX8_kind 40 = .ok (.getfield 7, 3) := by decide +kernel
theorem dX8_kind_43 : decode cX8_kind 43 = .ok (.iconst 5, 1) := by decide +kernel
theorem dX8_kind_44 : decode cX8_kind 44 = .ok (.iload_n 1, 1) := by decide +kernel
theorem dX8_kind_45 : decode cX8_kind 45 = .ok (.imul, 1) := by decide +kernel
theorem dX8_kind_46 : decode cX8_kind 46 = .ok (.iload_n 2, 1) := by decide +kernel
theorem dX8_kind_47 : decode cX8_kind 47 = .ok (.iadd, 1) := by decide +kernel
theorem dX8_kind_48 : decode cX8_kind 48 = .ok (.iaload, 1) := by decide +kernel
theorem dX8_kind_49 : decode cX8_kind 49 = .ok (.ireturn, 1) := by decide +kernel
theorem dX8_errand_0 : decode cX8_errand 0 = .ok (.iload_n 1, 1) := by decide +kernel
theorem dX8_errand_1 : decode cX8_errand 1 = .ok (.ifCond .ge 7, 3) := by decide +kernel
theorem dX8_errand_4 : decode cX8_errand 4 = .ok (.iconst (-1), 1) := by decide +kernel
theorem dX8_errand_5 : decode cX8_errand 5 = .ok (.goto 22, 3) := by decide +kernel
theorem dX8_errand_8 : decode cX8_errand 8 = .ok (.iload_n 1, 1) := by decide +kernel
theorem dX8_errand_9 : decode cX8_errand 9 = .ok (.aload_n 0, 1) := by decide +kernel
theorem dX8_errand_10 : decode cX8_errand 10 = .ok (.getfield 71, 3) := by decide +kernel
theorem dX8_errand_13 : decode cX8_errand 13 = .ok (.if_icmp .ge 12, 3) := by decide +kernel
theorem dX8_errand_16 : decode cX8_errand 16 = .ok (.aload_n 0, 1) := by decide +kernel
theorem dX8_errand_17 : decode cX8_errand 17 = .ok (.getfield 13, 3) := by decide +kernel
theorem dX8_errand_20 : decode cX8_errand 20 = .ok (.iload_n 1, 1) := by decide +kernel
theorem dX8_errand_21 : decode cX8_errand 21 = .ok (.iaload, 1) := by decide +kernel
theorem dX8_errand_22 : decode cX8_errand 22 = .ok (.goto 5, 3) := by decide +kernel
theorem dX8_errand_25 : decode cX8_errand 25 = .ok (.bipush (-4), 2) := by decide +kernel
theorem dX8_errand_27 : decode cX8_errand 27 = .ok (.ireturn, 1) := by decide +kernel
theorem dX8_word_0 : decode cX8_word 0 = .ok (.iload_n 1, 1) := by decide +kernel
theorem dX8_word_1 : decode cX8_word 1 = .ok (.ifCond .ge 7, 3) := by decide +kernel
theorem dX8_word_4 : decode cX8_word 4 = .ok (.iconst (-1), 1) := by decide +kernel
theorem dX8_word_5 : decode cX8_word 5 = .ok (.goto 35, 3) := by decide +kernel
theorem dX8_word_8 : decode cX8_word 8 = .ok (.iload_n 1, 1) := by decide +kernel
theorem dX8_word_9 : decode cX8_word 9 = .ok (.aload_n 0, 1) := by decide +kernel
theorem dX8_word_10 : decode cX8_word 10 = .ok (.getfield 16, 3) := by decide +kernel
theorem dX8_word_13 : decode cX8_word 13 = .ok (.bipush 40, 2) := by decide +kernel
theorem dX8_word_15 : decode cX8_word 15 = .ok (.iaload, 1) := by decide +kernel
theorem dX8_word_16 : decode cX8_word 16 = .ok (.if_icmp .ge 22, 3) := by decide +kernel
theorem dX8_word_19 : decode cX8_word 19 = .ok (.aload_n 0, 1) := by decide +kernel
theorem dX8_word_20 : decode cX8_word 20 = .ok (.getfield 16, 3) := by decide +kernel
theorem dX8_word_23 : decode cX8_word 23 = .ok (.aload_n 0, 1) := by decide +kernel
theorem dX8_word_24 : decode cX8_word 24 = .ok (.getfield 16, 3) := by decide +kernel
theorem dX8_word_27 : decode cX8_word 27 = .ok (.bipush 40, 2) := by decide +kernel
theorem dX8_word_29 : decode cX8_word 29 = .ok (.iaload, 1) := by decide +kernel
theorem dX8_word_30 : decode cX8_word 30 = .ok (.iconst 1, 1) := by decide +kernel
theorem dX8_word_31 : decode cX8_word 31 = .ok (.isub, 1) := by decide +kernel
theorem dX8_word_32 : decode cX8_word 32 = .ok (.iload_n 1, 1) := by decide +kernel
theorem dX8_word_33 : decode cX8_word 33 = .ok (.isub, 1) := by decide +kernel
theorem dX8_word_34 : decode cX8_word 34 = .ok (.iaload, 1) := by decide +kernel
theorem dX8_word_35 : decode cX8_word 35 = .ok (.goto 5, 3) := by decide +kernel
theorem dX8_word_38 : decode cX8_word 38 = .ok (.bipush (-4), 2) := by decide +kernel
theorem dX8_word_40 : decode cX8_word 40 = .ok (.ireturn, 1) := by decide +kernel
theorem dX8_unlikeOf_0 : decode cX8_unlikeOf 0 = .ok (.aload_n 0, 1) := by decide +kernel
theorem dX8_unlikeOf_1 : decode cX8_unlikeOf 1 = .ok (.getfield 7, 3) := by decide +kernel
theorem dX8_unlikeOf_4 : decode cX8_unlikeOf 4 = .ok (.iconst 5, 1) := by decide +kernel
theorem dX8_unlikeOf_5 : decode cX8_unlikeOf 5 = .ok (.iload_n 1, 1) := by decide +kernel
theorem dX8_unlikeOf_6 : decode cX8_unlikeOf 6 = .ok (.imul, 1) := by decide +kernel
theorem dX8_unlikeOf_7 : decode cX8_unlikeOf 7 = .ok (.iaload, 1) := by decide +kernel
theorem dX8_unlikeOf_8 : decode cX8_unlikeOf 8 = .ok (.aload_n 0, 1) := by decide +kernel
theorem dX8_unlikeOf_9 : decode cX8_unlikeOf 9 = .ok (.getfield 7, 3) := by decide +kernel
theorem dX8_unlikeOf_12 : decode cX8_unlikeOf 12 = .ok (.iconst 5, 1) := by decide +kernel
theorem dX8_unlikeOf_13 : decode cX8_unlikeOf 13 = .ok (.iload_n 2, 1) := by decide +kernel
theorem dX8_unlikeOf_14 : decode cX8_unlikeOf 14 = .ok (.imul, 1) := by decide +kernel
theorem dX8_unlikeOf_15 : decode cX8_unlikeOf 15 = .ok (.iaload, 1) := by decide +kernel
theorem dX8_unlikeOf_16 : decode cX8_unlikeOf 16 = .ok (.ixor, 1) := by decide +kernel
theorem dX8_unlikeOf_17 : decode cX8_unlikeOf 17 = .ok (.invokestatic 154, 3) := by decide +kernel
theorem dX8_unlikeOf_20 : decode cX8_unlikeOf 20 = .ok (.ireturn, 1) := by decide +kernel
theorem dX8_unlike_0 : decode cX8_unlike 0 = .ok (.aload_n 0, 1) := by decide +kernel
theorem dX8_unlike_1 : decode cX8_unlike 1 = .ok (.iload_n 1, 1) := by decide +kernel
theorem dX8_unlike_2 : decode cX8_unlike 2 = .ok (.invokevirtual 151, 3) := by decide +kernel
theorem dX8_unlike_5 : decode cX8_unlike 5 = .ok (.ifCond .eq 20, 3) := by decide +kernel
theorem dX8_unlike_8 : decode cX8_unlike 8 = .ok (.aload_n 0, 1) := by decide +kernel
theorem dX8_unlike_9 : decode cX8_unlike 9 = .ok (.iload_n 2, 1) := by decide +kernel
theorem dX8_unlike_10 : decode cX8_unlike 10 = .ok (.invokevirtual 151, 3) := by decide +kernel
theorem dX8_unlike_13 : decode cX8_unlike 13 = .ok (.ifCond .eq 12, 3) := by decide +kernel
theorem dX8_unlike_16 : decode cX8_unlike 16 = .ok (.aload_n 0, 1) := by decide +kernel
theorem dX8_unlike_17 : decode cX8_unlike 17 = .ok (.iload_n 1, 1) := by decide +kernel
theorem dX8_unlike_18 : decode cX8_unlike 18 = .ok (.iload_n 2, 1) := by decide +kernel
theorem dX8_unlike_19 : decode cX8_unlike 19 = .ok (.invokevirtual 158, 3) := by decide +kernel
theorem dX8_unlike_22 : decode cX8_unlike 22 = .ok (.goto 4, 3) := by decide +kernel
theorem dX8_unlike_25 : decode cX8_unlike 25 = .ok (.iconst (-1), 1) := by decide +kernel
theorem dX8_unlike_26 : decode cX8_unlike 26 = .ok (.ireturn, 1) := by decide +kernel
theorem dX8_doesBy_0 : decode cX8_doesBy 0 = .ok (.aload_n 0, 1) := by decide +kernel
theorem dX8_doesBy_1 : decode cX8_doesBy 1 = .ok (.getfield 16, 3) := by decide +kernel
theorem dX8_doesBy_4 : decode cX8_doesBy 4 = .ok (.bipush 40, 2) := by decide +kernel
theorem dX8_doesBy_6 : decode cX8_doesBy 6 = .ok (.iaload, 1) := by decide +kernel
theorem dX8_doesBy_7 : decode cX8_doesBy 7 = .ok (.istore 4, 2) := by decide +kernel
theorem dX8_doesBy_9 : decode cX8_doesBy 9 = .ok (.iload_n 1, 1) := by decide +kernel
theorem dX8_doesBy_10 : decode cX8_doesBy 10 = .ok (.ifCond .ne 25, 3) := by decide +kernel
theorem dX8_doesBy_13 : decode cX8_doesBy 13 = .ok (.iload 4, 2) := by decide +kernel
theorem dX8_doesBy_15 : decode cX8_doesBy 15 = .ok (.ifCond .le 18, 3) := by decide +kernel
theorem dX8_doesBy_18 : decode cX8_doesBy 18 = .ok (.aload_n 0, 1) := by decide +kernel
theorem dX8_doesBy_19 : decode cX8_doesBy 19 = .ok (.getfield 16, 3) := by decide +kernel
theorem dX8_doesBy_22 : decode cX8_doesBy 22 = .ok (.iload 4, 2) := by decide +kernel
theorem dX8_doesBy_24 : decode cX8_doesBy 24 = .ok (.iconst 1, 1) := by decide +kernel
theorem dX8_doesBy_25 : decode cX8_doesBy 25 = .ok (.isub, 1) := by decide +kernel
theorem dX8_doesBy_26 : decode cX8_doesBy 26 = .ok (.iaload, 1) := by decide +kernel
theorem dX8_doesBy_27 : decode cX8_doesBy 27 = .ok (.bipush 6, 2) := by decide +kernel
theorem dX8_doesBy_29 : decode cX8_doesBy 29 = .ok (.irem, 1) := by decide +kernel
theorem dX8_doesBy_30 : decode cX8_doesBy 30 = .ok (.goto 4, 3) := by decide +kernel
theorem dX8_doesBy_33 : decode cX8_doesBy 33 = .ok (.iload_n 2, 1) := by decide +kernel
theorem dX8_doesBy_34 : decode cX8_doesBy 34 = .ok (.ireturn, 1) := by decide +kernel
theorem dX8_doesBy_35 : decode cX8_doesBy 35 = .ok (.iload_n 1, 1) := by decide +kernel
theorem dX8_doesBy_36 : decode cX8_doesBy 36 = .ok (.iconst 1, 1) := by decide +kernel
theorem dX8_doesBy_37 : decode cX8_doesBy 37 = .ok (.if_icmp .ne 26, 3) := by decide +kernel
theorem dX8_doesBy_40 : decode cX8_doesBy 40 = .ok (.iload 4, 2) := by decide +kernel
theorem dX8_doesBy_42 : decode cX8_doesBy 42 = .ok (.iconst 1, 1) := by decide +kernel
theorem dX8_doesBy_43 : decode cX8_doesBy 43 = .ok (.if_icmp .le 18, 3) := by decide +kernel
theorem dX8_doesBy_46 : decode cX8_doesBy 46 = .ok (.aload_n 0, 1) := by decide +kernel
theorem dX8_doesBy_47 : decode cX8_doesBy 47 = .ok (.getfield 16, 3) := by decide +kernel
theorem dX8_doesBy_50 : decode cX8_doesBy 50 = .ok (.iload 4, 2) := by decide +kernel
theorem dX8_doesBy_52 : decode cX8_doesBy 52 = .ok (.iconst 2, 1) := by decide +kernel
theorem dX8_doesBy_53 : decode cX8_doesBy 53 = .ok (.isub, 1) := by decide +kernel
theorem dX8_doesBy_54 : decode cX8_doesBy 54 = .ok (.iaload, 1) := by decide +kernel
theorem dX8_doesBy_55 : decode cX8_doesBy 55 = .ok (.bipush 6, 2) := by decide +kernel
theorem dX8_doesBy_57 : decode cX8_doesBy 57 = .ok (.irem, 1) := by decide +kernel
theorem dX8_doesBy_58 : decode cX8_doesBy 58 = .ok (.goto 4, 3) := by decide +kernel
theorem dX8_doesBy_61 : decode cX8_doesBy 61 = .ok (.iload_n 2, 1) := by decide +kernel
theorem dX8_doesBy_62 : decode cX8_doesBy 62 = .ok (.ireturn, 1) := by decide +kernel
theorem dX8_doesBy_63 : decode cX8_doesBy 63 = .ok (.iload_n 2, 1) := by decide +kernel
theorem dX8_doesBy_64 : decode cX8_doesBy 64 = .ok (.istore 5, 2) := by decide +kernel
theorem dX8_doesBy_66 : decode cX8_doesBy 66 = .ok (.iload_n 1, 1) := by decide +kernel
theorem dX8_doesBy_67 : decode cX8_doesBy 67 = .ok (.iconst 2, 1) := by decide +kernel
theorem dX8_doesBy_68 : decode cX8_doesBy 68 = .ok (.if_icmp .ne 8, 3) := by decide +kernel
theorem dX8_doesBy_71 : decode cX8_doesBy 71 = .ok (.bipush 99, 2) := by decide +kernel
theorem dX8_doesBy_73 : decode cX8_doesBy 73 = .ok (.goto 4, 3) := by decide +kernel
theorem dX8_doesBy_76 : decode cX8_doesBy 76 = .ok (.iconst 0, 1) := by decide +kernel
theorem dX8_doesBy_77 : decode cX8_doesBy 77 = .ok (.istore 6, 2) := by decide +kernel
theorem dX8_doesBy_79 : decode cX8_doesBy 79 = .ok (.iconst 0, 1) := by decide +kernel
theorem dX8_doesBy_80 : decode cX8_doesBy 80 = .ok (.istore 7, 2) := by decide +kernel
theorem dX8_doesBy_82 : decode cX8_doesBy 82 = .ok (.iload 7, 2) := by decide +kernel
theorem dX8_doesBy_84 : decode cX8_doesBy 84 = .ok (.iload 4, 2) := by decide +kernel
theorem dX8_doesBy_86 : decode cX8_doesBy 86 = .ok (.if_icmp .ge 94, 3) := by decide +kernel
theorem dX8_doesBy_89 : decode cX8_doesBy 89 = .ok (.iload_n 1, 1) := by decide +kernel
theorem dX8_doesBy_90 : decode cX8_doesBy 90 = .ok (.iconst 2, 1) := by decide +kernel
theorem dX8_doesBy_91 : decode cX8_doesBy 91 = .ok (.if_icmp .ne 21, 3) := by decide +kernel
theorem dX8_doesBy_94 : decode cX8_doesBy 94 = .ok (.aload_n 0, 1) := by decide +kernel
theorem dX8_doesBy_95 : decode cX8_doesBy 95 = .ok (.aload_n 0, 1) := by decide +kernel
theorem dX8_doesBy_96 : decode cX8_doesBy 96 = .ok (.getfield 16, 3) := by decide +kernel
theorem dX8_doesBy_99 : decode cX8_doesBy 99 = .ok (.iload 7, 2) := by decide +kernel
theorem dX8_doesBy_101 : decode cX8_doesBy 101 = .ok (.iaload, 1) := by decide +kernel
theorem dX8_doesBy_102 : decode cX8_doesBy 102 = .ok (.bipush 6, 2) := by decide +kernel
theorem dX8_doesBy_104 : decode cX8_doesBy 104 = .ok (.idiv, 1) := by decide +kernel
theorem dX8_doesBy_105 : decode cX8_doesBy 105 = .ok (.iload_n 3, 1) := by decide +kernel
theorem dX8_doesBy_106 : decode cX8_doesBy 106 = .ok (.invokevirtual 158, 3) := by decide +kernel
theorem dX8_doesBy_109 : decode cX8_doesBy 109 = .ok (.goto 23, 3) := by decide +kernel
theorem dX8_doesBy_112 : decode cX8_doesBy 112 = .ok (.aload_n 0, 1) := by decide +kernel
theorem dX8_doesBy_113 : decode cX8_doesBy 113 = .ok (.getfield 16, 3) := by decide +kernel
theorem dX8_doesBy_116 : decode cX8_doesBy 116 = .ok (.iload 7, 2) := by decide +kernel
theorem dX8_doesBy_118 : decode cX8_doesBy 118 = .ok (.iaload, 1) := by decide +kernel
theorem dX8_doesBy_119 : decode cX8_doesBy 119 = .ok (.bipush 6, 2) := by decide +kernel
theorem dX8_doesBy_121 : decode cX8_doesBy 121 = .ok (.idiv, 1) := by decide +kernel
theorem dX8_doesBy_122 : decode cX8_doesBy 122 = .ok (.iload_n 3, 1) := by decide +kernel
theorem dX8_doesBy_123 : decode cX8_doesBy 123 = .ok (.if_icmp .ne 7, 3) := by decide +kernel
theorem dX8_doesBy_126 : decode cX8_doesBy 126 = .ok (.iconst 0, 1) := by decide +kernel
theorem dX8_doesBy_127 : decode cX8_doesBy 127 = .ok (.goto 5, 3) := by decide +kernel
theorem dX8_doesBy_130 : decode cX8_doesBy 130 = .ok (.bipush 99, 2) := by decide +kernel
theorem dX8_doesBy_132 : decode cX8_doesBy 132 = .ok (.istore 8, 2) := by decide +kernel
theorem dX8_doesBy_134 : decode cX8_doesBy 134 = .ok (.iload 8, 2) := by decide +kernel
theorem dX8_doesBy_136 : decode cX8_doesBy 136 = .ok (.iload 6, 2) := by decide +kernel
theorem dX8_doesBy_138 : decode cX8_doesBy 138 = .ok (.if_icmp .gt 16, 3) := by decide +kernel
theorem dX8_doesBy_141 : decode cX8_doesBy 141 = .ok (.aload_n 0, 1) := by decide +kernel
theorem dX8_doesBy_142 : decode cX8_doesBy 142 = .ok (.getfield 16, 3) := by decide +kernel
theorem dX8_doesBy_145 : decode cX8_doesBy 145 = .ok (.iload 7, 2) := by decide +kernel
theorem dX8_doesBy_147 : decode cX8_doesBy 147 = .ok (.iaload, 1) := by decide +kernel
theorem dX8_doesBy_148 : decode cX8_doesBy 148 = .ok (.bipush 6, 2) := by decide +kernel
theorem dX8_doesBy_150 : decode cX8_doesBy 150 = .ok (.irem, 1) := by decide +kernel
theorem dX8_doesBy_151 : decode cX8_doesBy 151 = .ok (.goto 5, 3) := by decide +kernel
theorem dX8_doesBy_154 : decode cX8_doesBy 154 = .ok (.iload 5, 2) := by decide +kernel
theorem dX8_doesBy_156 : decode cX8_doesBy 156 = .ok (.istore 5, 2) := by decide +kernel
theorem dX8_doesBy_158 : decode cX8_doesBy 158 = .ok (.iload 8, 2) := by decide +kernel
theorem dX8_doesBy_160 : decode cX8_doesBy 160 = .ok (.iload 6, 2) := by decide +kernel
theorem dX8_doesBy_162 : decode cX8_doesBy 162 = .ok (.if_icmp .gt 8, 3) := by decide +kernel
theorem dX8_doesBy_165 : decode cX8_doesBy 165 = .ok (.iload 8, 2) := by decide +kernel
theorem dX8_doesBy_167 : decode cX8_doesBy 167 = .ok (.goto 5, 3) := by decide +kernel
theorem dX8_doesBy_170 : decode cX8_doesBy 170 = .ok (.iload 6, 2) := by decide +kernel
theorem dX8_doesBy_172 : decode cX8_doesBy 172 = .ok (.istore 6, 2) := by decide +kernel
theorem dX8_doesBy_174 : decode cX8_doesBy 174 = .ok (.iinc 7 1, 3) := by decide +kernel
theorem dX8_doesBy_177 : decode cX8_doesBy 177 = .ok (.goto (-95), 3) := by decide +kernel
theorem dX8_doesBy_180 : decode cX8_doesBy 180 = .ok (.iload 5, 2) := by decide +kernel
theorem dX8_doesBy_182 : decode cX8_doesBy 182 = .ok (.ireturn, 1) := by decide +kernel
theorem dX8_goes_0 : decode cX8_goes 0 = .ok (.iload_n 2, 1) := by decide +kernel
theorem dX8_goes_1 : decode cX8_goes 1 = .ok (.aload_n 0, 1) := by decide +kernel
theorem dX8_goes_2 : decode cX8_goes 2 = .ok (.getfield 7, 3) := by decide +kernel
theorem dX8_goes_5 : decode cX8_goes 5 = .ok (.iconst 5, 1) := by decide +kernel
theorem dX8_goes_6 : decode cX8_goes 6 = .ok (.iload_n 1, 1) := by decide +kernel
theorem dX8_goes_7 : decode cX8_goes 7 = .ok (.imul, 1) := by decide +kernel
theorem dX8_goes_8 : decode cX8_goes 8 = .ok (.iconst 1, 1) := by decide +kernel
theorem dX8_goes_9 : decode cX8_goes 9 = .ok (.iadd, 1) := by decide +kernel
theorem dX8_goes_10 : decode cX8_goes 10 = .ok (.iaload, 1) := by decide +kernel
theorem dX8_goes_11 : decode cX8_goes 11 = .ok (.if_icmp .ne 7, 3) := by decide +kernel
theorem dX8_goes_14 : decode cX8_goes 14 = .ok (.iconst 0, 1) := by decide +kernel
theorem dX8_goes_15 : decode cX8_goes 15 = .ok (.goto 25, 3) := by decide +kernel
theorem dX8_goes_18 : decode cX8_goes 18 = .ok (.aload_n 0, 1) := by decide +kernel
theorem dX8_goes_19 : decode cX8_goes 19 = .ok (.getfield 7, 3) := by decide +kernel
theorem dX8_goes_22 : decode cX8_goes 22 = .ok (.iconst 5, 1) := by decide +kernel
theorem dX8_goes_23 : decode cX8_goes 23 = .ok (.iload_n 1, 1) := by decide +kernel
theorem dX8_goes_24 : decode cX8_goes 24 = .ok (.imul, 1) := by decide +kernel
theorem dX8_goes_25 : decode cX8_goes 25 = .ok (.iconst 2, 1) := by decide +kernel
theorem dX8_goes_26 : decode cX8_goes 26 = .ok (.iadd, 1) := by decide +kernel
theorem dX8_goes_27 : decode cX8_goes 27 = .ok (.iaload, 1) := by decide +kernel
theorem dX8_goes_28 : decode cX8_goes 28 = .ok (.iload_n 2, 1) := by decide +kernel
theorem dX8_goes_29 : decode cX8_goes 29 = .ok (.invokestatic 162, 3) := by decide +kernel
theorem dX8_goes_32 : decode cX8_goes 32 = .ok (.ifCond .eq 7, 3) := by decide +kernel
theorem dX8_goes_35 : decode cX8_goes 35 = .ok (.iconst 1, 1) := by decide +kernel
theorem dX8_goes_36 : decode cX8_goes 36 = .ok (.goto 4, 3) := by decide +kernel
theorem dX8_goes_39 : decode cX8_goes 39 = .ok (.iconst 2, 1) := by decide +kernel
theorem dX8_goes_40 : decode cX8_goes 40 = .ok (.ireturn, 1) := by decide +kernel
theorem dX8_hear_0 : decode cX8_hear 0 = .ok (.aload_n 0, 1) := by decide +kernel
theorem dX8_hear_1 : decode cX8_hear 1 = .ok (.getfield 16, 3) := by decide +kernel
theorem dX8_hear_4 : decode cX8_hear 4 = .ok (.bipush 40, 2) := by decide +kernel
theorem dX8_hear_6 : decode cX8_hear 6 = .ok (.iaload, 1) := by decide +kernel
theorem dX8_hear_7 : decode cX8_hear 7 = .ok (.bipush 40, 2) := by decide +kernel
theorem dX8_hear_9 : decode cX8_hear 9 = .ok (.if_icmp .ne 42, 3) := by decide +kernel
theorem dX8_hear_12 : decode cX8_hear 12 = .ok (.iconst 0, 1) := by decide +kernel
theorem dX8_hear_13 : decode cX8_hear 13 = .ok (.istore_n 3, 1) := by decide +kernel
theorem dX8_hear_14 : decode cX8_hear 14 = .ok (.iload_n 3, 1) := by decide +kernel
theorem dX8_hear_15 : decode cX8_hear 15 = .ok (.bipush 39, 2) := by decide +kernel
theorem dX8_hear_17 : decode cX8_hear 17 = .ok (.if_icmp .ge 23, 3) := by decide +kernel
theorem dX8_hear_20 : decode cX8_hear 20 = .ok (.aload_n 0, 1) := by decide +kernel
theorem dX8_hear_21 : decode cX8_hear 21 = .ok (.getfield 16, 3) := by decide +kernel
theorem dX8_hear_24 : decode cX8_hear 24 = .ok (.iload_n 3, 1) := by decide +kernel
theorem dX8_hear_25 : decode cX8_hear 25 = .ok (.aload_n 0, 1) := by decide +kernel
theorem dX8_hear_26 : decode cX8_hear 26 = .ok (.getfield 16, 3) := by decide +kernel
theorem dX8_hear_29 : decode cX8_hear 29 = .ok (.iload_n 3, 1) := by decide +kernel
theorem dX8_hear_30 : decode cX8_hear 30 = .ok (.iconst 1, 1) := by decide +kernel
theorem dX8_hear_31 : decode cX8_hear 31 = .ok (.iadd, 1) := by decide +kernel
theorem dX8_hear_32 : decode cX8_hear 32 = .ok (.iaload, 1) := by decide +kernel
theorem dX8_hear_33 : decode cX8_hear 33 = .ok (.iastore, 1) := by decide +kernel
theorem dX8_hear_34 : decode cX8_hear 34 = .ok (.iinc 3 1, 3) := by decide +kernel
theorem dX8_hear_37 : decode cX8_hear 37 = .ok (.goto (-23), 3) := by decide +kernel
theorem dX8_hear_40 : decode cX8_hear 40 = .ok (.aload_n 0, 1) := by decide +kernel
theorem dX8_hear_41 : decode cX8_hear 41 = .ok (.getfield 16, 3) := by decide +kernel
theorem dX8_hear_44 : decode cX8_hear 44 = .ok (.bipush 40, 2) := by decide +kernel
theorem dX8_hear_46 : decode cX8_hear 46 = .ok (.dup2, 1) := by decide +kernel
theorem dX8_hear_47 : decode cX8_hear 47 = .ok (.iaload, 1) := by decide +kernel
theorem dX8_hear_48 : decode cX8_hear 48 = .ok (.iconst 1, 1) := by decide +kernel
theorem dX8_hear_49 : decode cX8_hear 49 = .ok (.isub, 1) := by decide +kernel
theorem dX8_hear_50 : decode cX8_hear 50 = .ok (.iastore, 1) := by decide +kernel
theorem dX8_hear_51 : decode cX8_hear 51 = .ok (.aload_n 0, 1) := by decide +kernel
theorem dX8_hear_52 : decode cX8_hear 52 = .ok (.getfield 16, 3) := by decide +kernel
theorem dX8_hear_55 : decode cX8_hear 55 = .ok (.aload_n 0, 1) := by decide +kernel
theorem dX8_hear_56 : decode cX8_hear 56 = .ok (.getfield 16, 3) := by decide +kernel
theorem dX8_hear_59 : decode cX8_hear 59 = .ok (.bipush 40, 2) := by decide +kernel
theorem dX8_hear_61 : decode cX8_hear 61 = .ok (.iaload, 1) := by decide +kernel
theorem dX8_hear_62 : decode cX8_hear 62 = .ok (.bipush 6, 2) := by decide +kernel
theorem dX8_hear_64 : decode cX8_hear 64 = .ok (.iload_n 1, 1) := by decide +kernel
theorem dX8_hear_65 : decode cX8_hear 65 = .ok (.imul, 1) := by decide +kernel
theorem dX8_hear_66 : decode cX8_hear 66 = .ok (.iload_n 2, 1) := by decide +kernel
theorem dX8_hear_67 : decode cX8_hear 67 = .ok (.iadd, 1) := by decide +kernel
theorem dX8_hear_68 : decode cX8_hear 68 = .ok (.iastore, 1) := by decide +kernel
theorem dX8_hear_69 : decode cX8_hear 69 = .ok (.aload_n 0, 1) := by decide +kernel
theorem dX8_hear_70 : decode cX8_hear 70 = .ok (.getfield 16, 3) := by decide +kernel
theorem dX8_hear_73 : decode cX8_hear 73 = .ok (.bipush 40, 2) := by decide +kernel
theorem dX8_hear_75 : decode cX8_hear 75 = .ok (.dup2, 1) := by decide +kernel
theorem dX8_hear_76 : decode cX8_hear 76 = .ok (.iaload, 1) := by decide +kernel
theorem dX8_hear_77 : decode cX8_hear 77 = .ok (.iconst 1, 1) := by decide +kernel
theorem dX8_hear_78 : decode cX8_hear 78 = .ok (.iadd, 1) := by decide +kernel
theorem dX8_hear_79 : decode cX8_hear 79 = .ok (.iastore, 1) := by decide +kernel
theorem dX8_hear_80 : decode cX8_hear 80 = .ok (.return_, 1) := by decide +kernel
theorem dX8_day_0 : decode cX8_day 0 = .ok (.aload_n 0, 1) := by decide +kernel
theorem dX8_day_1 : decode cX8_day 1 = .ok (.aload_n 0, 1) := by decide +kernel
theorem dX8_day_2 : decode cX8_day 2 = .ok (.iload_n 1, 1) := by decide +kernel
theorem dX8_day_3 : decode cX8_day 3 = .ok (.iload_n 2, 1) := by decide +kernel
theorem dX8_day_4 : decode cX8_day 4 = .ok (.iload_n 3, 1) := by decide +kernel
theorem dX8_day_5 : decode cX8_day 5 = .ok (.invokevirtual 166, 3) := by decide +kernel
theorem dX8_day_8 : decode cX8_day 8 = .ok (.putfield 170, 3) := by decide +kernel
theorem dX8_day_11 : decode cX8_day 11 = .ok (.aload_n 0, 1) := by decide +kernel
theorem dX8_day_12 : decode cX8_day 12 = .ok (.iload_n 3, 1) := by decide +kernel
theorem dX8_day_13 : decode cX8_day 13 = .ok (.aload_n 0, 1) := by decide +kernel
theorem dX8_day_14 : decode cX8_day 14 = .ok (.getfield 170, 3) := by decide +kernel
theorem dX8_day_17 : decode cX8_day 17 = .ok (.invokevirtual 173, 3) := by decide +kernel
theorem dX8_day_20 : decode cX8_day 20 = .ok (.istore 4, 2) := by decide +kernel
theorem dX8_day_22 : decode cX8_day 22 = .ok (.aload_n 0, 1) := by decide +kernel
theorem dX8_day_23 : decode cX8_day 23 = .ok (.getfield 16, 3) := by decide +kernel
theorem dX8_day_26 : decode cX8_day 26 = .ok (.bipush 41, 2) := by decide +kernel
theorem dX8_day_28 : decode cX8_day 28 = .ok (.dup2, 1) := by decide +kernel
theorem dX8_day_29 : decode cX8_day 29 = .ok (.iaload, 1) := by decide +kernel
theorem dX8_day_30 : decode cX8_day 30 = .ok (.iconst 1, 1) := by decide +kernel
theorem dX8_day_31 : decode cX8_day 31 = .ok (.iadd, 1) := by decide +kernel
theorem dX8_day_32 : decode cX8_day 32 = .ok (.iastore, 1) := by decide +kernel
theorem dX8_day_33 : decode cX8_day 33 = .ok (.aload_n 0, 1) := by decide +kernel
theorem dX8_day_34 : decode cX8_day 34 = .ok (.getfield 16, 3) := by decide +kernel
theorem dX8_day_37 : decode cX8_day 37 = .ok (.bipush 42, 2) := by decide +kernel
theorem dX8_day_39 : decode cX8_day 39 = .ok (.dup2, 1) := by decide +kernel
theorem dX8_day_40 : decode cX8_day 40 = .ok (.iaload, 1) := by decide +kernel
theorem dX8_day_41 : decode cX8_day 41 = .ok (.iload 4, 2) := by decide +kernel
theorem dX8_day_43 : decode cX8_day 43 = .ok (.iconst 1, 1) := by decide +kernel
theorem dX8_day_44 : decode cX8_day 44 = .ok (.if_icmp .ne 16, 3) := by decide +kernel
theorem dX8_day_47 : decode cX8_day 47 = .ok (.aload_n 0, 1) := by decide +kernel
theorem dX8_day_48 : decode cX8_day 48 = .ok (.getfield 7, 3) := by decide +kernel
theorem dX8_day_51 : decode cX8_day 51 = .ok (.iconst 5, 1) := by decide +kernel
theorem dX8_day_52 : decode cX8_day 52 = .ok (.iload_n 3, 1) := by decide +kernel
theorem dX8_day_53 : decode cX8_day 53 = .ok (.imul, 1) := by decide +kernel
theorem dX8_day_54 : decode cX8_day 54 = .ok (.iconst 3, 1) := by decide +kernel
theorem dX8_day_55 : decode cX8_day 55 = .ok (.iadd, 1) := by decide +kernel
theorem dX8_day_56 : decode cX8_day 56 = .ok (.iaload, 1) := by decide +kernel
theorem dX8_day_57 : decode cX8_day 57 = .ok (.goto 4, 3) := by decide +kernel
theorem dX8_day_60 : decode cX8_day 60 = .ok (.iconst 0, 1) := by decide +kernel
theorem dX8_day_61 : decode cX8_day 61 = .ok (.iadd, 1) := by decide +kernel
theorem dX8_day_62 : decode cX8_day 62 = .ok (.iastore, 1) := by decide +kernel
theorem dX8_day_63 : decode cX8_day 63 = .ok (.aload_n 0, 1) := by decide +kernel
theorem dX8_day_64 : decode cX8_day 64 = .ok (.getfield 16, 3) := by decide +kernel
theorem dX8_day_67 : decode cX8_day 67 = .ok (.bipush 43, 2) := by decide +kernel
theorem dX8_day_69 : decode cX8_day 69 = .ok (.dup2, 1) := by decide +kernel
theorem dX8_day_70 : decode cX8_day 70 = .ok (.iaload, 1) := by decide +kernel
theorem dX8_day_71 : decode cX8_day 71 = .ok (.iload 4, 2) := by decide +kernel
theorem dX8_day_73 : decode cX8_day 73 = .ok (.ifCond .ne 7, 3) := by decide +kernel
theorem dX8_day_76 : decode cX8_day 76 = .ok (.iconst 1, 1) := by decide +kernel
theorem dX8_day_77 : decode cX8_day 77 = .ok (.goto 4, 3) := by decide +kernel
theorem dX8_day_80 : decode cX8_day 80 = .ok (.iconst 0, 1) := by decide +kernel
theorem dX8_day_81 : decode cX8_day 81 = .ok (.iadd, 1) := by decide +kernel
theorem dX8_day_82 : decode cX8_day 82 = .ok (.iastore, 1) := by decide +kernel
theorem dX8_day_83 : decode cX8_day 83 = .ok (.aload_n 0, 1) := by decide +kernel
theorem dX8_day_84 : decode cX8_day 84 = .ok (.getfield 16, 3) := by decide +kernel
theorem dX8_day_87 : decode cX8_day 87 = .ok (.bipush 44, 2) := by decide +kernel
theorem dX8_day_89 : decode cX8_day 89 = .ok (.iload_n 3, 1) := by decide +kernel
theorem dX8_day_90 : decode cX8_day 90 = .ok (.iadd, 1) := by decide +kernel
theorem dX8_day_91 : decode cX8_day 91 = .ok (.dup2, 1) := by decide +kernel
theorem dX8_day_92 : decode cX8_day 92 = .ok (.iaload, 1) := by decide +kernel
theorem dX8_day_93 : decode cX8_day 93 = .ok (.iconst 1, 1) := by decide +kernel
theorem dX8_day_94 : decode cX8_day 94 = .ok (.iadd, 1) := by decide +kernel
theorem dX8_day_95 : decode cX8_day 95 = .ok (.iastore, 1) := by decide +kernel
theorem dX8_day_96 : decode cX8_day 96 = .ok (.iload 4, 2) := by decide +kernel
theorem dX8_day_98 : decode cX8_day 98 = .ok (.ifCond .eq 18, 3) := by decide +kernel
theorem dX8_day_101 : decode cX8_day 101 = .ok (.aload_n 0, 1) := by decide +kernel
theorem dX8_day_102 : decode cX8_day 102 = .ok (.iload_n 3, 1) := by decide +kernel
theorem dX8_day_103 : decode cX8_day 103 = .ok (.aload_n 0, 1) := by decide +kernel
theorem dX8_day_104 : decode cX8_day 104 = .ok (.getfield 7, 3) := by decide +kernel
theorem dX8_day_107 : decode cX8_day 107 = .ok (.iconst 5, 1) := by decide +kernel
theorem dX8_day_108 : decode cX8_day 108 = .ok (.iload_n 3, 1) := by decide +kernel
theorem dX8_day_109 : decode cX8_day 109 = .ok (.imul, 1) := by decide +kernel
theorem dX8_day_110 : decode cX8_day 110 = .ok (.iconst 1, 1) := by decide +kernel
theorem dX8_day_111 : decode cX8_day 111 = .ok (.iadd, 1) := by decide +kernel
theorem dX8_day_112 : decode cX8_day 112 = .ok (.iaload, 1) := by decide +kernel
theorem dX8_day_113 : decode cX8_day 113 = .ok (.invokevirtual 176, 3) := by decide +kernel
theorem dX8_day_116 : decode cX8_day 116 = .ok (.iload 4, 2) := by decide +kernel
theorem dX8_day_118 : decode cX8_day 118 = .ok (.ireturn, 1) := by decide +kernel
theorem dX8_does_0 : decode cX8_does 0 = .ok (.iload_n 1, 1) := by decide +kernel
theorem dX8_does_1 : decode cX8_does 1 = .ok (.i2l, 1) := by decide +kernel
theorem dX8_does_2 : decode cX8_does 2 = .ok (.lconst 0, 1) := by decide +kernel
theorem dX8_does_3 : decode cX8_does 3 = .ok (.ldc2_w 180, 3) := by decide +kernel
theorem dX8_does_6 : decode cX8_does 6 = .ok (.invokestatic 78, 3) := by decide +kernel
theorem dX8_does_9 : decode cX8_does 9 = .ok (.ifCond .eq 24, 3) := by decide +kernel
theorem dX8_does_12 : decode cX8_does 12 = .ok (.aload_n 0, 1) := by decide +kernel
theorem dX8_does_13 : decode cX8_does 13 = .ok (.iload_n 2, 1) := by decide +kernel
theorem dX8_does_14 : decode cX8_does 14 = .ok (.invokevirtual 151, 3) := by decide +kernel
theorem dX8_does_17 : decode cX8_does 17 = .ok (.ifCond .eq 16, 3) := by decide +kernel
theorem dX8_does_20 : decode cX8_does 20 = .ok (.aload_n 0, 1) := by decide +kernel
theorem dX8_does_21 : decode cX8_does 21 = .ok (.iload_n 1, 1) := by decide +kernel
theorem dX8_does_22 : decode cX8_does 22 = .ok (.aload_n 0, 1) := by decide +kernel
theorem dX8_does_23 : decode cX8_does 23 = .ok (.getfield 139, 3) := by decide +kernel
theorem dX8_does_26 : decode cX8_does 26 = .ok (.iload_n 2, 1) := by decide +kernel
theorem dX8_does_27 : decode cX8_does 27 = .ok (.invokevirtual 166, 3) := by decide +kernel
theorem dX8_does_30 : decode cX8_does 30 = .ok (.goto 4, 3) := by decide +kernel
theorem dX8_does_33 : decode cX8_does 33 = .ok (.iconst (-1), 1) := by decide +kernel
theorem dX8_does_34 : decode cX8_does 34 = .ok (.ireturn, 1) := by decide +kernel
theorem dX8_note_0 : decode cX8_note 0 = .ok (.aload_n 0, 1) := by decide +kernel
theorem dX8_note_1 : decode cX8_note 1 = .ok (.getfield 142, 3) := by decide +kernel
theorem dX8_note_4 : decode cX8_note 4 = .ok (.bipush 8, 2) := by decide +kernel
theorem dX8_note_6 : decode cX8_note 6 = .ok (.if_icmp .ne 43, 3) := by decide +kernel
theorem dX8_note_9 : decode cX8_note 9 = .ok (.iconst 0, 1) := by decide +kernel
theorem dX8_note_10 : decode cX8_note 10 = .ok (.istore_n 1, 1) := by decide +kernel
theorem dX8_note_11 : decode cX8_note 11 = .ok (.iload_n 1, 1) := by decide +kernel
theorem dX8_note_12 : decode cX8_note 12 = .ok (.sipush 350, 3) := by decide +kernel
theorem dX8_note_15 : decode cX8_note 15 = .ok (.if_icmp .ge 24, 3) := by decide +kernel
theorem dX8_note_18 : decode cX8_note 18 = .ok (.aload_n 0, 1) := by decide +kernel
theorem dX8_note_19 : decode cX8_note 19 = .ok (.getfield 31, 3) := by decide +kernel
theorem dX8_note_22 : decode cX8_note 22 = .ok (.iload_n 1, 1) := by decide +kernel
theorem dX8_note_23 : decode cX8_note 23 = .ok (.aload_n 0, 1) := by decide +kernel
theorem dX8_note_24 : decode cX8_note 24 = .ok (.getfield 31, 3) := by decide +kernel
theorem dX8_note_27 : decode cX8_note 27 = .ok (.iload_n 1, 1) := by decide +kernel
theorem dX8_note_28 : decode cX8_note 28 = .ok (.bipush 50, 2) := by decide +kernel
theorem dX8_note_30 : decode cX8_note 30 = .ok (.iadd, 1) := by decide +kernel
theorem dX8_note_31 : decode cX8_note 31 = .ok (.iaload, 1) := by decide +kernel
theorem dX8_note_32 : decode cX8_note 32 = .ok (.iastore, 1) := by decide +kernel
theorem dX8_note_33 : decode cX8_note 33 = .ok (.iinc 1 1, 3) := by decide +kernel
theorem dX8_note_36 : decode cX8_note 36 = .ok (.goto (-25), 3) := by decide +kernel
theorem dX8_note_39 : decode cX8_note 39 = .ok (.aload_n 0, 1) := by decide +kernel
theorem dX8_note_40 : decode cX8_note 40 = .ok (.dup, 1) := by decide +kernel
theorem dX8_note_41 : decode cX8_note 41 = .ok (.getfield 142, 3) := by decide +kernel
theorem dX8_note_44 : decode cX8_note 44 = .ok (.iconst 1, 1) := by decide +kernel
theorem dX8_note_45 : decode cX8_note 45 = .ok (.isub, 1) := by decide +kernel
theorem dX8_note_46 : decode cX8_note 46 = .ok (.putfield 142, 3) := by decide +kernel
theorem dX8_note_49 : decode cX8_note 49 = .ok (.iconst 0, 1) := by decide +kernel
theorem dX8_note_50 : decode cX8_note 50 = .ok (.istore_n 1, 1) := by decide +kernel
theorem dX8_note_51 : decode cX8_note 51 = .ok (.iload_n 1, 1) := by decide +kernel
theorem dX8_note_52 : decode cX8_note 52 = .ok (.bipush 50, 2) := by decide +kernel
theorem dX8_note_54 : decode cX8_note 54 = .ok (.if_icmp .ge 29, 3) := by decide +kernel
theorem dX8_note_57 : decode cX8_note 57 = .ok (.aload_n 0, 1) := by decide +kernel
theorem dX8_note_58 : decode cX8_note 58 = .ok (.getfield 31, 3) := by decide +kernel
theorem dX8_note_61 : decode cX8_note 61 = .ok (.bipush 50, 2) := by decide +kernel
theorem dX8_note_63 : decode cX8_note 63 = .ok (.aload_n 0, 1) := by decide +kernel
theorem dX8_note_64 : decode cX8_note 64 = .ok (.getfield 142, 3) := by decide +kernel
theorem dX8_note_67 : decode cX8_note 67 = .ok (.imul, 1) := by decide +kernel
theorem dX8_note_68 : decode cX8_note 68 = .ok (.iload_n 1, 1) := by decide +kernel
theorem dX8_note_69 : decode cX8_note 69 = .ok (.iadd, 1) := by decide +kernel
theorem dX8_note_70 : decode cX8_note 70 = .ok (.aload_n 0, 1) := by decide +kernel
theorem dX8_note_71 : decode cX8_note 71 = .ok (.getfield 16, 3) := by decide +kernel
theorem dX8_note_74 : decode cX8_note 74 = .ok (.iload_n 1, 1) := by decide +kernel
theorem dX8_note_75 : decode cX8_note 75 = .ok (.iaload, 1) := by decide +kernel
theorem dX8_note_76 : decode cX8_note 76 = .ok (.iastore, 1) := by decide +kernel
theorem dX8_note_77 : decode cX8_note 77 = .ok (.iinc 1 1, 3) := by decide +kernel
theorem dX8_note_80 : decode cX8_note 80 = .ok (.goto (-29), 3) := by decide +kernel
theorem dX8_note_83 : decode cX8_note 83 = .ok (.aload_n 0, 1) := by decide +kernel
theorem dX8_note_84 : decode cX8_note 84 = .ok (.dup, 1) := by decide +kernel
theorem dX8_note_85 : decode cX8_note 85 = .ok (.getfield 142, 3) := by decide +kernel
theorem dX8_note_88 : decode cX8_note 88 = .ok (.iconst 1, 1) := by decide +kernel
theorem dX8_note_89 : decode cX8_note 89 = .ok (.iadd, 1) := by decide +kernel
theorem dX8_note_90 : decode cX8_note 90 = .ok (.putfield 142, 3) := by decide +kernel
theorem dX8_note_93 : decode cX8_note 93 = .ok (.return_, 1) := by decide +kernel
theorem dX8_hand_0 : decode cX8_hand 0 = .ok (.aload_n 0, 1) := by decide +kernel
theorem dX8_hand_1 : decode cX8_hand 1 = .ok (.iload_n 1, 1) := by decide +kernel
theorem dX8_hand_2 : decode cX8_hand 2 = .ok (.invokevirtual 151, 3) := by decide +kernel
theorem dX8_hand_5 : decode cX8_hand 5 = .ok (.ifCond .ne 5, 3) := by decide +kernel
theorem dX8_hand_8 : decode cX8_hand 8 = .ok (.iconst (-1), 1) := by decide +kernel
theorem dX8_hand_9 : decode cX8_hand 9 = .ok (.ireturn, 1) := by decide +kernel
theorem dX8_hand_10 : decode cX8_hand 10 = .ok (.aload_n 0, 1) := by decide +kernel
theorem dX8_hand_11 : decode cX8_hand 11 = .ok (.invokevirtual 182, 3) := by decide +kernel
theorem dX8_hand_14 : decode cX8_hand 14 = .ok (.aload_n 0, 1) := by decide +kernel
theorem dX8_hand_15 : decode cX8_hand 15 = .ok (.aload_n 0, 1) := by decide +kernel
theorem dX8_hand_16 : decode cX8_hand 16 = .ok (.getfield 136, 3) := by decide +kernel
theorem dX8_hand_19 : decode cX8_hand 19 = .ok (.aload_n 0, 1) := by decide +kernel
theorem dX8_hand_20 : decode cX8_hand 20 = .ok (.getfield 139, 3) := by decide +kernel
theorem dX8_hand_23 : decode cX8_hand 23 = .ok (.iload_n 1, 1) := by decide +kernel
theorem dX8_hand_24 : decode cX8_hand 24 = .ok (.invokevirtual 185, 3) := by decide +kernel
theorem dX8_hand_27 : decode cX8_hand 27 = .ok (.ireturn, 1) := by decide +kernel
theorem dX8_teach_0 : decode cX8_teach 0 = .ok (.aload_n 0, 1) := by decide +kernel
theorem dX8_teach_1 : decode cX8_teach 1 = .ok (.iload_n 1, 1) := by decide +kernel
theorem dX8_teach_2 : decode cX8_teach 2 = .ok (.invokevirtual 151, 3) := by decide +kernel
theorem dX8_teach_5 : decode cX8_teach 5 = .ok (.ifCond .eq 10, 3) := by decide +kernel
theorem dX8_teach_8 : decode cX8_teach 8 = .ok (.iload_n 2, 1) := by decide +kernel
theorem dX8_teach_9 : decode cX8_teach 9 = .ok (.invokestatic 103, 3) := by decide +kernel
theorem dX8_teach_12 : decode cX8_teach 12 = .ok (.ifCond .ne 5, 3) := by decide +kernel
theorem dX8_teach_15 : decode cX8_teach 15 = .ok (.iconst (-1), 1) := by decide +kernel
theorem dX8_teach_16 : decode cX8_teach 16 = .ok (.ireturn, 1) := by decide +kernel
theorem dX8_teach_17 : decode cX8_teach 17 = .ok (.aload_n 0, 1) := by decide +kernel
theorem dX8_teach_18 : decode cX8_teach 18 = .ok (.invokevirtual 182, 3) := by decide +kernel
theorem dX8_teach_21 : decode cX8_teach 21 = .ok (.aload_n 0, 1) := by decide +kernel
theorem dX8_teach_22 : decode cX8_teach 22 = .ok (.iload_n 1, 1) := by decide +kernel
theorem dX8_teach_23 : decode cX8_teach 23 = .ok (.iload_n 2, 1) := by decide +kernel
theorem dX8_teach_24 : decode cX8_teach 24 = .ok (.invokevirtual 176, 3) := by decide +kernel
theorem dX8_teach_27 : decode cX8_teach 27 = .ok (.aload_n 0, 1) := by decide +kernel
theorem dX8_teach_28 : decode cX8_teach 28 = .ok (.getfield 16, 3) := by decide +kernel
theorem dX8_teach_31 : decode cX8_teach 31 = .ok (.bipush 40, 2) := by decide +kernel
theorem dX8_teach_33 : decode cX8_teach 33 = .ok (.iaload, 1) := by decide +kernel
theorem dX8_teach_34 : decode cX8_teach 34 = .ok (.ireturn, 1) := by decide +kernel
theorem dX8_undo_0 : decode cX8_undo 0 = .ok (.aload_n 0, 1) := by decide +kernel
theorem dX8_undo_1 : decode cX8_undo 1 = .ok (.getfield 142, 3) := by decide +kernel
theorem dX8_undo_4 : decode cX8_undo 4 = .ok (.ifCond .ne 6, 3) := by decide +kernel
theorem dX8_undo_7 : decode cX8_undo 7 = .ok (.bipush (-2), 2) := by decide +kernel
theorem dX8_undo_9 : decode cX8_undo 9 = .ok (.ireturn, 1) := by decide +kernel
theorem dX8_undo_10 : decode cX8_undo 10 = .ok (.aload_n 0, 1) := by decide +kernel
theorem dX8_undo_11 : decode cX8_undo 11 = .ok (.dup, 1) := by decide +kernel
theorem dX8_undo_12 : decode cX8_undo 12 = .ok (.getfield 142, 3) := by decide +kernel
theorem dX8_undo_15 : decode cX8_undo 15 = .ok (.iconst 1, 1) := by decide +kernel
theorem dX8_undo_16 : decode cX8_undo 16 = .ok (.isub, 1) := by decide +kernel
theorem dX8_undo_17 : decode cX8_undo 17 = .ok (.putfield 142, 3) := by decide +kernel
theorem dX8_undo_20 : decode cX8_undo 20 = .ok (.iconst 0, 1) := by decide +kernel
theorem dX8_undo_21 : decode cX8_undo 21 = .ok (.istore_n 1, 1) := by decide +kernel
theorem dX8_undo_22 : decode cX8_undo 22 = .ok (.iload_n 1, 1) := by decide +kernel
theorem dX8_undo_23 : decode cX8_undo 23 = .ok (.bipush 50, 2) := by decide +kernel
theorem dX8_undo_25 : decode cX8_undo 25 = .ok (.if_icmp .ge 29, 3) := by decide +kernel
theorem dX8_undo_28 : decode cX8_undo 28 = .ok (.aload_n 0, 1) := by decide +kernel
theorem dX8_undo_29 : decode cX8_undo 29 = .ok (.getfield 16, 3) := by decide +kernel
theorem dX8_undo_32 : decode cX8_undo 32 = .ok (.iload_n 1, 1) := by decide +kernel
theorem dX8_undo_33 : decode cX8_undo 33 = .ok (.aload_n 0, 1) := by decide +kernel
theorem dX8_undo_34 : decode cX8_undo 34 = .ok (.getfield 31, 3) := by decide +kernel
theorem dX8_undo_37 : decode cX8_undo 37 = .ok (.bipush 50, 2) := by decide +kernel
theorem dX8_undo_39 : decode cX8_undo 39 = .ok (.aload_n 0, 1) := by decide +kernel
theorem dX8_undo_40 : decode cX8_undo 40 = .ok (.getfield 142, 3) := by decide +kernel
theorem dX8_undo_43 : decode cX8_undo 43 = .ok (.imul, 1) := by decide +kernel
theorem dX8_undo_44 : decode cX8_undo 44 = .ok (.iload_n 1, 1) := by decide +kernel
theorem dX8_undo_45 : decode cX8_undo 45 = .ok (.iadd, 1) := by decide +kernel
theorem dX8_undo_46 : decode cX8_undo 46 = .ok (.iaload, 1) := by decide +kernel
theorem dX8_undo_47 : decode cX8_undo 47 = .ok (.iastore, 1) := by decide +kernel
theorem dX8_undo_48 : decode cX8_undo 48 = .ok (.iinc 1 1, 3) := by decide +kernel
theorem dX8_undo_51 : decode cX8_undo 51 = .ok (.goto (-29), 3) := by decide +kernel
theorem dX8_undo_54 : decode cX8_undo 54 = .ok (.aload_n 0, 1) := by decide +kernel
theorem dX8_undo_55 : decode cX8_undo 55 = .ok (.getfield 142, 3) := by decide +kernel
theorem dX8_undo_58 : decode cX8_undo 58 = .ok (.ireturn, 1) := by decide +kernel
theorem dX8_tell_0 : decode cX8_tell 0 = .ok (.aload_n 0, 1) := by decide +kernel
theorem dX8_tell_1 : decode cX8_tell 1 = .ok (.iload_n 1, 1) := by decide +kernel
theorem dX8_tell_2 : decode cX8_tell 2 = .ok (.invokevirtual 151, 3) := by decide +kernel
theorem dX8_tell_5 : decode cX8_tell 5 = .ok (.ifCond .ne 5, 3) := by decide +kernel
theorem dX8_tell_8 : decode cX8_tell 8 = .ok (.iconst (-1), 1) := by decide +kernel
theorem dX8_tell_9 : decode cX8_tell 9 = .ok (.ireturn, 1) := by decide +kernel
theorem dX8_tell_10 : decode cX8_tell 10 = .ok (.aload_n 0, 1) := by decide +kernel
theorem dX8_tell_11 : decode cX8_tell 11 = .ok (.getfield 71, 3) := by decide +kernel
theorem dX8_tell_14 : decode cX8_tell 14 = .ok (.bipush 10, 2) := by decide +kernel
theorem dX8_tell_16 : decode cX8_tell 16 = .ok (.if_icmp .ne 6, 3) := by decide +kernel
theorem dX8_tell_19 : decode cX8_tell 19 = .ok (.bipush (-3), 2) := by decide +kernel
theorem dX8_tell_21 : decode cX8_tell 21 = .ok (.ireturn, 1) := by decide +kernel
theorem dX8_tell_22 : decode cX8_tell 22 = .ok (.aload_n 0, 1) := by decide +kernel
theorem dX8_tell_23 : decode cX8_tell 23 = .ok (.getfield 13, 3) := by decide +kernel
theorem dX8_tell_26 : decode cX8_tell 26 = .ok (.aload_n 0, 1) := by decide +kernel
theorem dX8_tell_27 : decode cX8_tell 27 = .ok (.getfield 71, 3) := by decide +kernel
theorem dX8_tell_30 : decode cX8_tell 30 = .ok (.iload_n 1, 1) := by decide +kernel
theorem dX8_tell_31 : decode cX8_tell 31 = .ok (.iastore, 1) := by decide +kernel
theorem dX8_tell_32 : decode cX8_tell 32 = .ok (.aload_n 0, 1) := by decide +kernel
theorem dX8_tell_33 : decode cX8_tell 33 = .ok (.dup, 1) := by decide +kernel
theorem dX8_tell_34 : decode cX8_tell 34 = .ok (.getfield 71, 3) := by decide +kernel
theorem dX8_tell_37 : decode cX8_tell 37 = .ok (.iconst 1, 1) := by decide +kernel
theorem dX8_tell_38 : decode cX8_tell 38 = .ok (.iadd, 1) := by decide +kernel
theorem dX8_tell_39 : decode cX8_tell 39 = .ok (.putfield 71, 3) := by decide +kernel
theorem dX8_tell_42 : decode cX8_tell 42 = .ok (.aload_n 0, 1) := by decide +kernel
theorem dX8_tell_43 : decode cX8_tell 43 = .ok (.getfield 71, 3) := by decide +kernel
theorem dX8_tell_46 : decode cX8_tell 46 = .ok (.ireturn, 1) := by decide +kernel
theorem dX8_noRow_0 : decode cX8_noRow 0 = .ok (.aload_n 0, 1) := by decide +kernel
theorem dX8_noRow_1 : decode cX8_noRow 1 = .ok (.getfield 71, 3) := by decide +kernel
theorem dX8_noRow_4 : decode cX8_noRow 4 = .ok (.istore_n 1, 1) := by decide +kernel
theorem dX8_noRow_5 : decode cX8_noRow 5 = .ok (.aload_n 0, 1) := by decide +kernel
theorem dX8_noRow_6 : decode cX8_noRow 6 = .ok (.iconst 0, 1) := by decide +kernel
theorem dX8_noRow_7 : decode cX8_noRow 7 = .ok (.putfield 71, 3) := by decide +kernel
theorem dX8_noRow_10 : decode cX8_noRow 10 = .ok (.aload_n 0, 1) := by decide +kernel
theorem dX8_noRow_11 : decode cX8_noRow 11 = .ok (.iconst 0, 1) := by decide +kernel
theorem dX8_noRow_12 : decode cX8_noRow 12 = .ok (.putfield 145, 3) := by decide +kernel
theorem dX8_noRow_15 : decode cX8_noRow 15 = .ok (.iload_n 1, 1) := by decide +kernel
theorem dX8_noRow_16 : decode cX8_noRow 16 = .ok (.ireturn, 1) := by decide +kernel
theorem dX8_putAside_0 : decode cX8_putAside 0 = .ok (.iconst 0, 1) := by decide +kernel
theorem dX8_putAside_1 : decode cX8_putAside 1 = .ok (.istore_n 1, 1) := by decide +kernel
theorem dX8_putAside_2 : decode cX8_putAside 2 = .ok (.iload_n 1, 1) := by decide +kernel
theorem dX8_putAside_3 : decode cX8_putAside 3 = .ok (.bipush 50, 2) := by decide +kernel
theorem dX8_putAside_5 : decode cX8_putAside 5 = .ok (.if_icmp .ge 21, 3) := by decide +kernel
theorem dX8_putAside_8 : decode cX8_putAside 8 = .ok (.aload_n 0, 1) := by decide +kernel
theorem dX8_putAside_9 : decode cX8_putAside 9 = .ok (.getfield 34, 3) := by decide +kernel
theorem dX8_putAside_12 : decode cX8_putAside 12 = .ok (.iload_n 1, 1) := by decide +kernel
theorem dX8_putAside_13 : decode cX8_putAside 13 = .ok (.aload_n 0, 1) := by decide +kernel
theorem dX8_putAside_14 : decode cX8_putAside 14 = .ok (.getfield 16, 3) := by decide +kernel
theorem dX8_putAside_17 : decode cX8_putAside 17 = .ok (.iload_n 1, 1) := by decide +kernel
theorem dX8_putAside_18 : decode cX8_putAside 18 = .ok (.iaload, 1) := by decide +kernel
theorem dX8_putAside_19 : decode cX8_putAside 19 = .ok (.iastore, 1) := by decide +kernel
theorem dX8_putAside_20 : decode cX8_putAside 20 = .ok (.iinc 1 1, 3) := by decide +kernel
theorem dX8_putAside_23 : decode cX8_putAside 23 = .ok (.goto (-21), 3) := by decide +kernel
theorem dX8_putAside_26 : decode cX8_putAside 26 = .ok (.return_, 1) := by decide +kernel
theorem dX8_takeBack_0 : decode cX8_takeBack 0 = .ok (.iconst 0, 1) := by decide +kernel
theorem dX8_takeBack_1 : decode cX8_takeBack 1 = .ok (.istore_n 1, 1) := by decide +kernel
theorem dX8_takeBack_2 : decode cX8_takeBack 2 = .ok (.iload_n 1, 1) := by decide +kernel
theorem dX8_takeBack_3 : decode cX8_takeBack 3 = .ok (.bipush 50, 2) := by decide +kernel
theorem dX8_takeBack_5 : decode cX8_takeBack 5 = .ok (.if_icmp .ge 21, 3) := by decide +kernel
theorem dX8_takeBack_8 : decode cX8_takeBack 8 = .ok (.aload_n 0, 1) := by decide +kernel
theorem dX8_takeBack_9 : decode cX8_takeBack 9 = .ok (.getfield 16, 3) := by decide +kernel
theorem dX8_takeBack_12 : decode cX8_takeBack 12 = .ok (.iload_n 1, 1) := by decide +kernel
theorem dX8_takeBack_13 : decode cX8_takeBack 13 = .ok (.aload_n 0, 1) := by decide +kernel
theorem dX8_takeBack_14 : decode cX8_takeBack 14 = .ok (.getfield 34, 3) := by decide +kernel
theorem dX8_takeBack_17 : decode cX8_takeBack 17 = .ok (.iload_n 1, 1) := by decide +kernel
theorem dX8_takeBack_18 : decode cX8_takeBack 18 = .ok (.iaload, 1) := by decide +kernel
theorem dX8_takeBack_19 : decode cX8_takeBack 19 = .ok (.iastore, 1) := by decide +kernel
theorem dX8_takeBack_20 : decode cX8_takeBack 20 = .ok (.iinc 1 1, 3) := by decide +kernel
theorem dX8_takeBack_23 : decode cX8_takeBack 23 = .ok (.goto (-21), 3) := by decide +kernel
theorem dX8_takeBack_26 : decode cX8_takeBack 26 = .ok (.return_, 1) := by decide +kernel
theorem dX8_runRow_0 : decode cX8_runRow 0 = .ok (.aload_n 0, 1) := by decide +kernel
theorem dX8_runRow_1 : decode cX8_runRow 1 = .ok (.getfield 16, 3) := by decide +kernel
theorem dX8_runRow_4 : decode cX8_runRow 4 = .ok (.bipush 42, 2) := by decide +kernel
theorem dX8_runRow_6 : decode cX8_runRow 6 = .ok (.iaload, 1) := by decide +kernel
theorem dX8_runRow_7 : decode cX8_runRow 7 = .ok (.istore_n 3, 1) := by decide +kernel
theorem dX8_runRow_8 : decode cX8_runRow 8 = .ok (.iconst 0, 1) := by decide +kernel
theorem dX8_runRow_9 : decode cX8_runRow 9 = .ok (.istore 4, 2) := by decide +kernel
theorem dX8_runRow_11 : decode cX8_runRow 11 = .ok (.iload 4, 2) := by decide +kernel
theorem dX8_runRow_13 : decode cX8_runRow 13 = .ok (.aload_n 0, 1) := by decide +kernel
theorem dX8_runRow_14 : decode cX8_runRow 14 = .ok (.getfield 71, 3) := by decide +kernel
theorem dX8_runRow_17 : decode cX8_runRow 17 = .ok (.if_icmp .ge 40, 3) := by decide +kernel
theorem dX8_runRow_20 : decode cX8_runRow 20 = .ok (.aload_n 0, 1) := by decide +kernel
theorem dX8_runRow_21 : decode cX8_runRow 21 = .ok (.getfield 40, 3) := by decide +kernel
theorem dX8_runRow_24 : decode cX8_runRow 24 = .ok (.iload 4, 2) := by decide +kernel
theorem dX8_runRow_26 : decode cX8_runRow 26 = .ok (.aload_n 0, 1) := by decide +kernel
theorem dX8_runRow_27 : decode cX8_runRow 27 = .ok (.iload_n 1, 1) := by decide +kernel
theorem dX8_runRow_28 : decode cX8_runRow 28 = .ok (.iload_n 2, 1) := by decide +kernel
theorem dX8_runRow_29 : decode cX8_runRow 29 = .ok (.aload_n 0, 1) := by decide +kernel
theorem dX8_runRow_30 : decode cX8_runRow 30 = .ok (.getfield 13, 3) := by decide +kernel
theorem dX8_runRow_33 : decode cX8_runRow 33 = .ok (.iload 4, 2) := by decide +kernel
theorem dX8_runRow_35 : decode cX8_runRow 35 = .ok (.iaload, 1) := by decide +kernel
theorem dX8_runRow_36 : decode cX8_runRow 36 = .ok (.invokevirtual 185, 3) := by decide +kernel
theorem dX8_runRow_39 : decode cX8_runRow 39 = .ok (.iastore, 1) := by decide +kernel
theorem dX8_runRow_40 : decode cX8_runRow 40 = .ok (.aload_n 0, 1) := by decide +kernel
theorem dX8_runRow_41 : decode cX8_runRow 41 = .ok (.getfield 37, 3) := by decide +kernel
theorem dX8_runRow_44 : decode cX8_runRow 44 = .ok (.iload 4, 2) := by decide +kernel
theorem dX8_runRow_46 : decode cX8_runRow 46 = .ok (.aload_n 0, 1) := by decide +kernel
theorem dX8_runRow_47 : decode cX8_runRow 47 = .ok (.getfield 170, 3) := by decide +kernel
theorem dX8_runRow_50 : decode cX8_runRow 50 = .ok (.iastore, 1) := by decide +kernel
theorem dX8_runRow_51 : decode cX8_runRow 51 = .ok (.iinc 4 1, 3) := by decide +kernel
theorem dX8_runRow_54 : decode cX8_runRow 54 = .ok (.goto (-43), 3) := by decide +kernel
theorem dX8_runRow_57 : decode cX8_runRow 57 = .ok (.aload_n 0, 1) := by decide +kernel
theorem dX8_runRow_58 : decode cX8_runRow 58 = .ok (.getfield 16, 3) := by decide +kernel
theorem dX8_runRow_61 : decode cX8_runRow 61 = .ok (.bipush 42, 2) := by decide +kernel
theorem dX8_runRow_63 : decode cX8_runRow 63 = .ok (.iaload, 1) := by decide +kernel
theorem dX8_runRow_64 : decode cX8_runRow 64 = .ok (.iload_n 3, 1) := by decide +kernel
theorem dX8_runRow_65 : decode cX8_runRow 65 = .ok (.isub, 1) := by decide +kernel
theorem dX8_runRow_66 : decode cX8_runRow 66 = .ok (.ireturn, 1) := by decide +kernel
theorem dX8_tryRow_0 : decode cX8_tryRow 0 = .ok (.aload_n 0, 1) := by decide +kernel
theorem dX8_tryRow_1 : decode cX8_tryRow 1 = .ok (.invokevirtual 188, 3) := by decide +kernel
theorem dX8_tryRow_4 : decode cX8_tryRow 4 = .ok (.aload_n 0, 1) := by decide +kernel
theorem dX8_tryRow_5 : decode cX8_tryRow 5 = .ok (.iload_n 1, 1) := by decide +kernel
theorem dX8_tryRow_6 : decode cX8_tryRow 6 = .ok (.aload_n 0, 1) := by decide +kernel
theorem dX8_tryRow_7 : decode cX8_tryRow 7 = .ok (.getfield 139, 3) := by decide +kernel
theorem dX8_tryRow_10 : decode cX8_tryRow 10 = .ok (.invokevirtual 191, 3) := by decide +kernel
theorem dX8_tryRow_13 : decode cX8_tryRow 13 = .ok (.istore_n 2, 1) := by decide +kernel
theorem dX8_tryRow_14 : decode cX8_tryRow 14 = .ok (.aload_n 0, 1) := by decide +kernel
theorem dX8_tryRow_15 : decode cX8_tryRow 15 = .ok (.invokevirtual 194, 3) := by decide +kernel
theorem dX8_tryRow_18 : decode cX8_tryRow 18 = .ok (.iload_n 2, 1) := by decide +kernel
theorem dX8_tryRow_19 : decode cX8_tryRow 19 = .ok (.ireturn, 1) := by decide +kernel
theorem dX8_run_0 : decode cX8_run 0 = .ok (.iload_n 1, 1) := by decide +kernel
theorem dX8_run_1 : decode cX8_run 1 = .ok (.i2l, 1) := by decide +kernel
theorem dX8_run_2 : decode cX8_run 2 = .ok (.lconst 0, 1) := by decide +kernel
theorem dX8_run_3 : decode cX8_run 3 = .ok (.ldc2_w 180, 3) := by decide +kernel
theorem dX8_run_6 : decode cX8_run 6 = .ok (.invokestatic 78, 3) := by decide +kernel
theorem dX8_run_9 : decode cX8_run 9 = .ok (.ifCond .eq 31, 3) := by decide +kernel
theorem dX8_run_12 : decode cX8_run 12 = .ok (.iload_n 2, 1) := by decide +kernel
theorem dX8_run_13 : decode cX8_run 13 = .ok (.i2l, 1) := by decide +kernel
theorem dX8_run_14 : decode cX8_run 14 = .ok (.ldc2_w 197, 3) := by decide +kernel
theorem dX8_run_17 : decode cX8_run 17 = .ok (.aload_n 0, 1) := by decide +kernel
theorem dX8_run_18 : decode cX8_run 18 = .ok (.getfield 71, 3) := by decide +kernel
theorem dX8_run_21 : decode cX8_run 21 = .ok (.iconst 1, 1) := by decide +kernel
theorem dX8_run_22 : decode cX8_run 22 = .ok (.isub, 1) := by decide +kernel
theorem dX8_run_23 : decode cX8_run 23 = .ok (.i2l, 1) := by decide +kernel
theorem dX8_run_24 : decode cX8_run 24 = .ok (.invokestatic 78, 3) := by decide +kernel
theorem dX8_run_27 : decode cX8_run 27 = .ok (.ifCond .eq 13, 3) := by decide +kernel
theorem dX8_run_30 : decode cX8_run 30 = .ok (.iload_n 3, 1) := by decide +kernel
theorem dX8_run_31 : decode cX8_run 31 = .ok (.i2l, 1) := by decide +kernel
theorem dX8_run_32 : decode cX8_run 32 = .ok (.lconst 0, 1) := by decide +kernel
theorem dX8_run_33 : decode cX8_run 33 = .ok (.lconst 1, 1) := by decide +kernel
theorem dX8_run_34 : decode cX8_run 34 = .ok (.invokestatic 78, 3) := by decide +kernel
theorem dX8_run_37 : decode cX8_run 37 = .ok (.ifCond .ne 5, 3) := by decide +kernel
theorem dX8_run_40 : decode cX8_run 40 = .ok (.iconst (-1), 1) := by decide +kernel
theorem dX8_run_41 : decode cX8_run 41 = .ok (.ireturn, 1) := by decide +kernel
theorem dX8_run_42 : decode cX8_run 42 = .ok (.aload_n 0, 1) := by decide +kernel
theorem dX8_run_43 : decode cX8_run 43 = .ok (.iload_n 1, 1) := by decide +kernel
theorem dX8_run_44 : decode cX8_run 44 = .ok (.invokevirtual 199, 3) := by decide +kernel
theorem dX8_run_47 : decode cX8_run 47 = .ok (.istore 4, 2) := by decide +kernel
theorem dX8_run_49 : decode cX8_run 49 = .ok (.iload_n 2, 1) := by decide +kernel
theorem dX8_run_50 : decode cX8_run 50 = .ok (.ifCond .lt 23, 3) := by decide +kernel
theorem dX8_run_53 : decode cX8_run 53 = .ok (.iload_n 3, 1) := by decide +kernel
theorem dX8_run_54 : decode cX8_run 54 = .ok (.ifCond .ne 12, 3) := by decide +kernel
theorem dX8_run_57 : decode cX8_run 57 = .ok (.aload_n 0, 1) := by decide +kernel
theorem dX8_run_58 : decode cX8_run 58 = .ok (.getfield 37, 3) := by decide +kernel
theorem dX8_run_61 : decode cX8_run 61 = .ok (.iload_n 2, 1) := by decide +kernel
theorem dX8_run_62 : decode cX8_run 62 = .ok (.iaload, 1) := by decide +kernel
theorem dX8_run_63 : decode cX8_run 63 = .ok (.goto 9, 3) := by decide +kernel
theorem dX8_run_66 : decode cX8_run 66 = .ok (.aload_n 0, 1) := by decide +kernel
theorem dX8_run_67 : decode cX8_run 67 = .ok (.getfield 40, 3) := by decide +kernel
theorem dX8_run_70 : decode cX8_run 70 = .ok (.iload_n 2, 1) := by decide +kernel
theorem dX8_run_71 : decode cX8_run 71 = .ok (.iaload, 1) := by decide +kernel
theorem dX8_run_72 : decode cX8_run 72 = .ok (.ireturn, 1) := by decide +kernel
theorem dX8_run_73 : decode cX8_run 73 = .ok (.bipush (-4), 2) := by decide +kernel
theorem dX8_run_75 : decode cX8_run 75 = .ok (.istore 5, 2) := by decide +kernel
theorem dX8_run_77 : decode cX8_run 77 = .ok (.aload_n 0, 1) := by decide +kernel
theorem dX8_run_78 : decode cX8_run 78 = .ok (.getfield 71, 3) := by decide +kernel
theorem dX8_run_81 : decode cX8_run 81 = .ok (.iconst 1, 1) := by decide +kernel
theorem dX8_run_82 : decode cX8_run 82 = .ok (.isub, 1) := by decide +kernel
theorem dX8_run_83 : decode cX8_run 83 = .ok (.istore 6, 2) := by decide +kernel
theorem dX8_run_85 : decode cX8_run 85 = .ok (.iload 6, 2) := by decide +kernel
theorem dX8_run_87 : decode cX8_run 87 = .ok (.ifCond .lt 28, 3) := by decide +kernel
theorem dX8_run_90 : decode cX8_run 90 = .ok (.aload_n 0, 1) := by decide +kernel
theorem dX8_run_91 : decode cX8_run 91 = .ok (.getfield 40, 3) := by decide +kernel
theorem dX8_run_94 : decode cX8_run 94 = .ok (.iload 6, 2) := by decide +kernel
theorem dX8_run_96 : decode cX8_run 96 = .ok (.iaload, 1) := by decide +kernel
theorem dX8_run_97 : decode cX8_run 97 = .ok (.ifCond .ne 8, 3) := by decide +kernel
theorem dX8_run_100 : decode cX8_run 100 = .ok (.iload 6, 2) := by decide +kernel
theorem dX8_run_102 : decode cX8_run 102 = .ok (.goto 5, 3) := by decide +kernel
theorem dX8_run_105 : decode cX8_run 105 = .ok (.iload 5, 2) := by decide +kernel
theorem dX8_run_107 : decode cX8_run 107 = .ok (.istore 5, 2) := by decide +kernel
theorem dX8_run_109 : decode cX8_run 109 = .ok (.iinc 6 (-1), 3) := by decide +kernel
theorem dX8_run_112 : decode cX8_run 112 = .ok (.goto (-27), 3) := by decide +kernel
theorem dX8_run_115 : decode cX8_run 115 = .ok (.iload_n 3, 1) := by decide +kernel
theorem dX8_run_116 : decode cX8_run 116 = .ok (.ifCond .ne 8, 3) := by decide +kernel
theorem dX8_run_119 : decode cX8_run 119 = .ok (.iload 4, 2) := by decide +kernel
theorem dX8_run_121 : decode cX8_run 121 = .ok (.goto 5, 3) := by decide +kernel
theorem dX8_run_124 : decode cX8_run 124 = .ok (.iload 5, 2) := by decide +kernel
theorem dX8_run_126 : decode cX8_run 126 = .ok (.ireturn, 1) := by decide +kernel
theorem dX8_isRound_0 : decode cX8_isRound 0 = .ok (.iconst 1, 1) := by decide +kernel
theorem dX8_isRound_1 : decode cX8_isRound 1 = .ok (.istore_n 2, 1) := by decide +kernel
theorem dX8_isRound_2 : decode cX8_isRound 2 = .ok (.iconst 0, 1) := by decide +kernel
theorem dX8_isRound_3 : decode cX8_isRound 3 = .ok (.istore_n 3, 1) := by decide +kernel
theorem dX8_isRound_4 : decode cX8_isRound 4 = .ok (.iload_n 3, 1) := by decide +kernel
theorem dX8_isRound_5 : decode cX8_isRound 5 = .ok (.iload_n 1, 1) := by decide +kernel
theorem dX8_isRound_6 : decode cX8_isRound 6 = .ok (.aload_n 0, 1) := by decide +kernel
theorem dX8_isRound_7 : decode cX8_isRound 7 = .ok (.getfield 71, 3) := by decide +kernel
theorem dX8_isRound_10 : decode cX8_isRound 10 = .ok (.imul, 1) := by decide +kernel
theorem dX8_isRound_11 : decode cX8_isRound 11 = .ok (.if_icmp .ge 80, 3) := by decide +kernel
theorem dX8_isRound_14 : decode cX8_isRound 14 = .ok (.bipush 20, 2) := by decide +kernel
theorem dX8_isRound_16 : decode cX8_isRound 16 = .ok (.aload_n 0, 1) := by decide +kernel
theorem dX8_isRound_17 : decode cX8_isRound 17 = .ok (.getfield 71, 3) := by decide +kernel
theorem dX8_isRound_20 : decode cX8_isRound 20 = .ok (.imul, 1) := by decide +kernel
theorem dX8_isRound_21 : decode cX8_isRound 21 = .ok (.iload_n 3, 1) := by decide +kernel
theorem dX8_isRound_22 : decode cX8_isRound 22 = .ok (.iadd, 1) := by decide +kernel
theorem dX8_isRound_23 : decode cX8_isRound 23 = .ok (.istore 4, 2) := by decide +kernel
theorem dX8_isRound_25 : decode cX8_isRound 25 = .ok (.iload_n 2, 1) := by decide +kernel
theorem dX8_isRound_26 : decode cX8_isRound 26 = .ok (.ifCond .eq 57, 3) := by decide +kernel
theorem dX8_isRound_29 : decode cX8_isRound 29 = .ok (.aload_n 0, 1) := by decide +kernel
theorem dX8_isRound_30 : decode cX8_isRound 30 = .ok (.getfield 43, 3) := by decide +kernel
theorem dX8_isRound_33 : decode cX8_isRound 33 = .ok (.iload 4, 2) := by decide +kernel
theorem dX8_isRound_35 : decode cX8_isRound 35 = .ok (.iaload, 1) := by decide +kernel
theorem dX8_isRound_36 : decode cX8_isRound 36 = .ok (.aload_n 0, 1) := by decide +kernel
theorem dX8_isRound_37 : decode cX8_isRound 37 = .ok (.getfield 43, 3) := by decide +kernel
theorem dX8_isRound_40 : decode cX8_isRound 40 = .ok (.iload 4, 2) := by decide +kernel
theorem dX8_isRound_42 : decode cX8_isRound 42 = .ok (.iload_n 1, 1) := by decide +kernel
theorem dX8_isRound_43 : decode cX8_isRound 43 = .ok (.aload_n 0, 1) := by decide +kernel
theorem dX8_isRound_44 : decode cX8_isRound 44 = .ok (.getfield 71, 3) := by decide +kernel
theorem dX8_isRound_47 : decode cX8_isRound 47 = .ok (.imul, 1) := by decide +kernel
theorem dX8_isRound_48 : decode cX8_isRound 48 = .ok (.iadd, 1) := by decide +kernel
theorem dX8_isRound_49 : decode cX8_isRound 49 = .ok (.iaload, 1) := by decide +kernel
theorem dX8_isRound_50 : decode cX8_isRound 50 = .ok (.if_icmp .ne 33, 3) := by decide +kernel
theorem dX8_isRound_53 : decode cX8_isRound 53 = .ok (.aload_n 0, 1) := by decide +kernel
theorem dX8_isRound_54 : decode cX8_isRound 54 = .ok (.getfield 43, 3) := by decide +kernel
theorem dX8_isRound_57 : decode cX8_isRound 57 = .ok (.iload 4, 2) := by decide +kernel
theorem dX8_isRound_59 : decode cX8_isRound 59 = .ok (.iaload, 1) := by decide +kernel
theorem dX8_isRound_60 : decode cX8_isRound 60 = .ok (.aload_n 0, 1) := by decide +kernel
theorem dX8_isRound_61 : decode cX8_isRound 61 = .ok (.getfield 43, 3) := by decide +kernel
theorem dX8_isRound_64 : decode cX8_isRound 64 = .ok (.iload 4, 2) := by decide +kernel
theorem dX8_isRound_66 : decode cX8_isRound 66 = .ok (.iconst 2, 1) := by decide +kernel
theorem dX8_isRound_67 : decode cX8_isRound 67 = .ok (.iload_n 1, 1) := by decide +kernel
theorem dX8_isRound_68 : decode cX8_isRound 68 = .ok (.imul, 1) := by decide +kernel
theorem dX8_isRound_69 : decode cX8_isRound 69 = .ok (.aload_n 0, 1) := by decide +kernel
theorem dX8_isRound_70 : decode cX8_isRound 70 = .ok (.getfield 71, 3) := by decide +kernel
theorem dX8_isRound_73 : decode cX8_isRound 73 = .ok (.imul, 1) := by decide +kernel
theorem dX8_isRound_74 : decode cX8_isRound 74 = .ok (.iadd, 1) := by decide +kernel
theorem dX8_isRound_75 : decode cX8_isRound 75 = .ok (.iaload, 1) := by decide +kernel
theorem dX8_isRound_76 : decode cX8_isRound 76 = .ok (.if_icmp .ne 7, 3) := by decide +kernel
theorem dX8_isRound_79 : decode cX8_isRound 79 = .ok (.iconst 1, 1) := by decide +kernel
theorem dX8_isRound_80 : decode cX8_isRound 80 = .ok (.goto 4, 3) := by decide +kernel
theorem dX8_isRound_83 : decode cX8_isRound 83 = .ok (.iconst 0, 1) := by decide +kernel
theorem dX8_isRound_84 : decode cX8_isRound 84 = .ok (.istore_n 2, 1) := by decide +kernel
theorem dX8_isRound_85 : decode cX8_isRound 85 = .ok (.iinc 3 1, 3) := by decide +kernel
theorem dX8_isRound_88 : decode cX8_isRound 88 = .ok (.goto (-84), 3) := by decide +kernel
theorem dX8_isRound_91 : decode cX8_isRound 91 = .ok (.iload_n 2, 1) := by decide +kernel
theorem dX8_isRound_92 : decode cX8_isRound 92 = .ok (.ireturn, 1) := by decide +kernel
theorem dX8_round_0 : decode cX8_round 0 = .ok (.aload_n 0, 1) := by decide +kernel
theorem dX8_round_1 : decode cX8_round 1 = .ok (.getfield 71, 3) := by decide +kernel
theorem dX8_round_4 : decode cX8_round 4 = .ok (.ifCond .ne 6, 3) := by decide +kernel
theorem dX8_round_7 : decode cX8_round 7 = .ok (.bipush (-4), 2) := by decide +kernel
theorem dX8_round_9 : decode cX8_round 9 = .ok (.ireturn, 1) := by decide +kernel
theorem dX8_round_10 : decode cX8_round 10 = .ok (.aload_n 0, 1) := by decide +kernel
theorem dX8_round_11 : decode cX8_round 11 = .ok (.invokevirtual 188, 3) := by decide +kernel
theorem dX8_round_14 : decode cX8_round 14 = .ok (.iconst 0, 1) := by decide +kernel
theorem dX8_round_15 : decode cX8_round 15 = .ok (.istore_n 1, 1) := by decide +kernel
theorem dX8_round_16 : decode cX8_round 16 = .ok (.iload_n 1, 1) := by decide +kernel
theorem dX8_round_17 : decode cX8_round 17 = .ok (.bipush 80, 2) := by decide +kernel
theorem dX8_round_19 : decode cX8_round 19 = .ok (.if_icmp .ge 57, 3) := by decide +kernel
theorem dX8_round_22 : decode cX8_round 22 = .ok (.aload_n 0, 1) := by decide +kernel
theorem dX8_round_23 : decode cX8_round 23 = .ok (.aload_n 0, 1) := by decide +kernel
theorem dX8_round_24 : decode cX8_round 24 = .ok (.getfield 136, 3) := by decide +kernel
theorem dX8_round_27 : decode cX8_round 27 = .ok (.aload_n 0, 1) := by decide +kernel
theorem dX8_round_28 : decode cX8_round 28 = .ok (.getfield 139, 3) := by decide +kernel
theorem dX8_round_31 : decode cX8_round 31 = .ok (.invokevirtual 191, 3) := by decide +kernel
theorem dX8_round_34 : decode cX8_round 34 = .ok (.pop, 1) := by decide +kernel
theorem dX8_round_35 : decode cX8_round 35 = .ok (.iconst 0, 1) := by decide +kernel
theorem dX8_round_36 : decode cX8_round 36 = .ok (.istore_n 2, 1) := by decide +kernel
theorem dX8_round_37 : decode cX8_round 37 = .ok (.iload_n 2, 1) := by decide +kernel
theorem dX8_round_38 : decode cX8_round 38 = .ok (.aload_n 0, 1) := by decide +kernel
theorem dX8_round_39 : decode cX8_round 39 = .ok (.getfield 71, 3) := by decide +kernel
theorem dX8_round_42 : decode cX8_round 42 = .ok (.if_icmp .ge 28, 3) := by decide +kernel
theorem dX8_round_45 : decode cX8_round 45 = .ok (.aload_n 0, 1) := by decide +kernel
theorem dX8_round_46 : decode cX8_round 46 = .ok (.getfield 43, 3) := by decide +kernel
theorem dX8_round_49 : decode cX8_round 49 = .ok (.iload_n 1, 1) := by decide +kernel
theorem dX8_round_50 : decode cX8_round 50 = .ok (.aload_n 0, 1) := by decide +kernel
theorem dX8_round_51 : decode cX8_round 51 = .ok (.getfield 71, 3) := by decide +kernel
theorem dX8_round_54 : decode cX8_round 54 = .ok (.imul, 1) := by decide +kernel
theorem dX8_round_55 : decode cX8_round 55 = .ok (.iload_n 2, 1) := by decide +kernel
theorem dX8_round_56 : decode cX8_round 56 = .ok (.iadd, 1) := by decide +kernel
theorem dX8_round_57 : decode cX8_round 57 = .ok (.aload_n 0, 1) := by decide +kernel
theorem dX8_round_58 : decode cX8_round 58 = .ok (.getfield 37, 3) := by decide +kernel
theorem dX8_round_61 : decode cX8_round 61 = .ok (.iload_n 2, 1) := by decide +kernel
theorem dX8_round_62 : decode cX8_round 62 = .ok (.iaload, 1) := by decide +kernel
theorem dX8_round_63 : decode cX8_round 63 = .ok (.iastore, 1) := by decide +kernel
theorem dX8_round_64 : decode cX8_round 64 = .ok (.iinc 2 1, 3) := by decide +kernel
theorem dX8_round_67 : decode cX8_round 67 = .ok (.goto (-30), 3) := by decide +kernel
theorem dX8_round_70 : decode cX8_round 70 = .ok (.iinc 1 1, 3) := by decide +kernel
theorem dX8_round_73 : decode cX8_round 73 = .ok (.goto (-57), 3) := by decide +kernel
theorem dX8_round_76 : decode cX8_round 76 = .ok (.aload_n 0, 1) := by decide +kernel
theorem dX8_round_77 : decode cX8_round 77 = .ok (.invokevirtual 194, 3) := by decide +kernel
theorem dX8_round_80 : decode cX8_round 80 = .ok (.iconst 1, 1) := by decide +kernel
theorem dX8_round_81 : decode cX8_round 81 = .ok (.istore_n 1, 1) := by decide +kernel
theorem dX8_round_82 : decode cX8_round 82 = .ok (.iload_n 1, 1) := by decide +kernel
theorem dX8_round_83 : decode cX8_round 83 = .ok (.bipush 20, 2) := by decide +kernel
theorem dX8_round_85 : decode cX8_round 85 = .ok (.if_icmp .gt 19, 3) := by decide +kernel
theorem dX8_round_88 : decode cX8_round 88 = .ok (.aload_n 0, 1) := by decide +kernel
theorem dX8_round_89 : decode cX8_round 89 = .ok (.iload_n 1, 1) := by decide +kernel
theorem dX8_round_90 : decode cX8_round 90 = .ok (.invokevirtual 202, 3) := by decide +kernel
theorem dX8_round_93 : decode cX8_round 93 = .ok (.ifCond .eq 5, 3) := by decide +kernel
theorem dX8_round_96 : decode cX8_round 96 = .ok (.iload_n 1, 1) := by decide +kernel
theorem dX8_round_97 : decode cX8_round 97 = .ok (.ireturn, 1) := by decide +kernel
theorem dX8_round_98 : decode cX8_round 98 = .ok (.iinc 1 1, 3) := by decide +kernel
theorem dX8_round_101 : decode cX8_round 101 = .ok (.goto (-19), 3) := by decide +kernel
theorem dX8_round_104 : decode cX8_round 104 = .ok (.bipush (-4), 2) := by decide +kernel
theorem dX8_round_106 : decode cX8_round 106 = .ok (.ireturn, 1) := by decide +kernel
theorem dX8_nextRow_0 : decode cX8_nextRow 0 = .ok (.aload_n 0, 1) := by decide +kernel
theorem dX8_nextRow_1 : decode cX8_nextRow 1 = .ok (.getfield 71, 3) := by decide +kernel
theorem dX8_nextRow_4 : decode cX8_nextRow 4 = .ok (.iconst 2, 1) := by decide +kernel
theorem dX8_nextRow_5 : decode cX8_nextRow 5 = .ok (.isub, 1) := by decide +kernel
theorem dX8_nextRow_6 : decode cX8_nextRow 6 = .ok (.istore_n 1, 1) := by decide +kernel
theorem dX8_nextRow_7 : decode cX8_nextRow 7 = .ok (.iload_n 1, 1) := by decide +kernel
theorem dX8_nextRow_8 : decode cX8_nextRow 8 = .ok (.ifCond .lt 26, 3) := by decide +kernel
theorem dX8_nextRow_11 : decode cX8_nextRow 11 = .ok (.aload_n 0, 1) := by decide +kernel
theorem dX8_nextRow_12 : decode cX8_nextRow 12 = .ok (.getfield 13, 3) := by decide +kernel
theorem dX8_nextRow_15 : decode cX8_nextRow 15 = .ok (.iload_n 1, 1) := by decide +kernel
theorem dX8_nextRow_16 : decode cX8_nextRow 16 = .ok (.iaload, 1) := by decide +kernel
theorem dX8_nextRow_17 : decode cX8_nextRow 17 = .ok (.aload_n 0, 1) := by decide +kernel
theorem dX8_nextRow_18 : decode cX8_nextRow 18 = .ok (.getfield 13, 3) := by decide +kernel
theorem dX8_nextRow_21 : decode cX8_nextRow 21 = .ok (.iload_n 1, 1) := by decide +kernel
theorem dX8_nextRow_22 : decode cX8_nextRow 22 = .ok (.iconst 1, 1) := by decide +kernel
theorem dX8_nextRow_23 : decode cX8_nextRow 23 = .ok (.iadd, 1) := by decide +kernel
theorem dX8_nextRow_24 : decode cX8_nextRow 24 = .ok (.iaload, 1) := by decide +kernel
theorem dX8_nextRow_25 : decode cX8_nextRow 25 = .ok (.if_icmp .lt 9, 3) := by decide +kernel
theorem dX8_nextRow_28 : decode cX8_nextRow 28 = .ok (.iinc 1 (-1), 3) := by decide +kernel
theorem dX8_nextRow_31 : decode cX8_nextRow 31 = .ok (.goto (-24), 3) := by decide +kernel
theorem dX8_nextRow_34 : decode cX8_nextRow 34 = .ok (.iload_n 1, 1) := by decide +kernel
theorem dX8_nextRow_35 : decode cX8_nextRow 35 = .ok (.ifCond .ge 5, 3) := by decide +kernel
theorem dX8_nextRow_38 : decode cX8_nextRow 38 = .ok (.iconst 0, 1) := by decide +kernel
theorem dX8_nextRow_39 : decode cX8_nextRow 39 = .ok (.ireturn, 1) := by decide +kernel
theorem dX8_nextRow_40 : decode cX8_nextRow 40 = .ok (.aload_n 0, 1) := by decide +kernel
theorem dX8_nextRow_41 : decode cX8_nextRow 41 = .ok (.getfield 71, 3) := by decide +kernel
theorem dX8_nextRow_44 : decode cX8_nextRow 44 = .ok (.iconst 1, 1) := by decide +kernel
theorem dX8_nextRow_45 : decode cX8_nextRow 45 = .ok (.isub, 1) := by decide +kernel
theorem dX8_nextRow_46 : decode cX8_nextRow 46 = .ok (.istore_n 2, 1) := by decide +kernel
theorem dX8_nextRow_47 : decode cX8_nextRow 47 = .ok (.aload_n 0, 1) := by decide +kernel
theorem dX8_nextRow_48 : decode cX8_nextRow 48 = .ok (.getfield 13, 3) := by decide +kernel
theorem dX8_nextRow_51 : decode cX8_nextRow 51 = .ok (.iload_n 2, 1) := by decide +kernel
theorem dX8_nextRow_52 : decode cX8_nextRow 52 = .ok (.iaload, 1) := by decide +kernel
theorem dX8_nextRow_53 : decode cX8_nextRow 53 = .ok (.aload_n 0, 1) := by decide +kernel
theorem dX8_nextRow_54 : decode cX8_nextRow 54 = .ok (.getfield 13, 3) := by decide +kernel
theorem dX8_nextRow_57 : decode cX8_nextRow 57 = .ok (.iload_n 1, 1) := by decide +kernel
theorem dX8_nextRow_58 : decode cX8_nextRow 58 = .ok (.iaload, 1) := by decide +kernel
theorem dX8_nextRow_59 : decode cX8_nextRow 59 = .ok (.if_icmp .gt 9, 3) := by decide +kernel
theorem dX8_nextRow_62 : decode cX8_nextRow 62 = .ok (.iinc 2 (-1), 3) := by decide +kernel
theorem dX8_nextRow_65 : decode cX8_nextRow 65 = .ok (.goto (-18), 3) := by decide +kernel
theorem dX8_nextRow_68 : decode cX8_nextRow 68 = .ok (.aload_n 0, 1) := by decide +kernel
theorem dX8_nextRow_69 : decode cX8_nextRow 69 = .ok (.iload_n 1, 1) := by decide +kernel
theorem dX8_nextRow_70 : decode cX8_nextRow 70 = .ok (.iload_n 2, 1) := by decide +kernel
theorem dX8_nextRow_71 : decode cX8_nextRow 71 = .ok (.invokevirtual 205, 3) := by decide +kernel
theorem dX8_nextRow_74 : decode cX8_nextRow 74 = .ok (.aload_n 0, 1) := by decide +kernel
theorem dX8_nextRow_75 : decode cX8_nextRow 75 = .ok (.getfield 71, 3) := by decide +kernel
theorem dX8_nextRow_78 : decode cX8_nextRow 78 = .ok (.iconst 1, 1) := by decide +kernel
theorem dX8_nextRow_79 : decode cX8_nextRow 79 = .ok (.isub, 1) := by decide +kernel
theorem dX8_nextRow_80 : decode cX8_nextRow 80 = .ok (.istore_n 3, 1) := by decide +kernel
theorem dX8_nextRow_81 : decode cX8_nextRow 81 = .ok (.iload_n 1, 1) := by decide +kernel
theorem dX8_nextRow_82 : decode cX8_nextRow 82 = .ok (.iconst 1, 1) := by decide +kernel
theorem dX8_nextRow_83 : decode cX8_nextRow 83 = .ok (.iadd, 1) := by decide +kernel
theorem dX8_nextRow_84 : decode cX8_nextRow 84 = .ok (.istore 4, 2) := by decide +kernel
theorem dX8_nextRow_86 : decode cX8_nextRow 86 = .ok (.iload 4, 2) := by decide +kernel
theorem dX8_nextRow_88 : decode cX8_nextRow 88 = .ok (.iload_n 3, 1) := by decide +kernel
theorem dX8_nextRow_89 : decode cX8_nextRow 89 = .ok (.if_icmp .ge 19, 3) := by decide +kernel
theorem dX8_nextRow_92 : decode cX8_nextRow 92 = .ok (.aload_n 0, 1) := by decide +kernel
theorem dX8_nextRow_93 : decode cX8_nextRow 93 = .ok (.iload 4, 2) := by decide +kernel
theorem dX8_nextRow_95 : decode cX8_nextRow 95 = .ok (.iload_n 3, 1) := by decide +kernel
theorem dX8_nextRow_96 : decode cX8_nextRow 96 = .ok (.invokevirtual 205, 3) := by decide +kernel
theorem dX8_nextRow_99 : decode cX8_nextRow 99 = .ok (.iinc 3 (-1), 3) := by decide +kernel
theorem dX8_nextRow_102 : decode cX8_nextRow 102 = .ok (.iinc 4 1, 3) := by decide +kernel
theorem dX8_nextRow_105 : decode cX8_nextRow 105 = .ok (.goto (-19), 3) := by decide +kernel
theorem dX8_nextRow_108 : decode cX8_nextRow 108 = .ok (.iconst 1, 1) := by decide +kernel
theorem dX8_nextRow_109 : decode cX8_nextRow 109 = .ok (.ireturn, 1) := by decide +kernel
theorem dX8_exchange_0 : decode cX8_exchange 0 = .ok (.aload_n 0, 1) := by decide +kernel
theorem dX8_exchange_1 : decode cX8_exchange 1 = .ok (.getfield 13, 3) := by decide +kernel
theorem dX8_exchange_4 : decode cX8_exchange 4 = .ok (.iload_n 1, 1) := by decide +kernel
theorem dX8_exchange_5 : decode cX8_exchange 5 = .ok (.iaload, 1) := by decide +kernel
theorem dX8_exchange_6 : decode cX8_exchange 6 = .ok (.istore_n 3, 1) := by decide +kernel
theorem dX8_exchange_7 : decode cX8_exchange 7 = .ok (.aload_n 0, 1) := by decide +kernel
theorem dX8_exchange_8 : decode cX8_exchange 8 = .ok (.getfield 13, 3) := by decide +kernel
theorem dX8_exchange_11 : decode cX8_exchange 11 = .ok (.iload_n 1, 1) := by decide +kernel
theorem dX8_exchange_12 : decode cX8_exchange 12 = .ok (.aload_n 0, 1) := by decide +kernel
theorem dX8_exchange_13 : decode cX8_exchange 13 = .ok (.getfield 13, 3) := by decide +kernel
theorem dX8_exchange_16 : decode cX8_exchange 16 = .ok (.iload_n 2, 1) := by decide +kernel
theorem dX8_exchange_17 : decode cX8_exchange 17 = .ok (.iaload, 1) := by decide +kernel
theorem dX8_exchange_18 : decode cX8_exchange 18 = .ok (.iastore, 1) := by decide +kernel
theorem dX8_exchange_19 : decode cX8_exchange 19 = .ok (.aload_n 0, 1) := by decide +kernel
theorem dX8_exchange_20 : decode cX8_exchange 20 = .ok (.getfield 13, 3) := by decide +kernel
theorem dX8_exchange_23 : decode cX8_exchange 23 = .ok (.iload_n 2, 1) := by decide +kernel
theorem dX8_exchange_24 : decode cX8_exchange 24 = .ok (.iload_n 3, 1) := by decide +kernel
theorem dX8_exchange_25 : decode cX8_exchange 25 = .ok (.iastore, 1) := by decide +kernel
theorem dX8_exchange_26 : decode cX8_exchange 26 = .ok (.return_, 1) := by decide +kernel
theorem dX8_order_0 : decode cX8_order 0 = .ok (.iload_n 1, 1) := by decide +kernel
theorem dX8_order_1 : decode cX8_order 1 = .ok (.i2l, 1) := by decide +kernel
theorem dX8_order_2 : decode cX8_order 2 = .ok (.ldc2_w 197, 3) := by decide +kernel
theorem dX8_order_5 : decode cX8_order 5 = .ok (.aload_n 0, 1) := by decide +kernel
theorem dX8_order_6 : decode cX8_order 6 = .ok (.getfield 71, 3) := by decide +kernel
theorem dX8_order_9 : decode cX8_order 9 = .ok (.iconst 1, 1) := by decide +kernel
theorem dX8_order_10 : decode cX8_order 10 = .ok (.isub, 1) := by decide +kernel
theorem dX8_order_11 : decode cX8_order 11 = .ok (.i2l, 1) := by decide +kernel
theorem dX8_order_12 : decode cX8_order 12 = .ok (.invokestatic 78, 3) := by decide +kernel
theorem dX8_order_15 : decode cX8_order 15 = .ok (.ifCond .ne 5, 3) := by decide +kernel
theorem dX8_order_18 : decode cX8_order 18 = .ok (.iconst (-1), 1) := by decide +kernel
theorem dX8_order_19 : decode cX8_order 19 = .ok (.ireturn, 1) := by decide +kernel
theorem dX8_order_20 : decode cX8_order 20 = .ok (.aload_n 0, 1) := by decide +kernel
theorem dX8_order_21 : decode cX8_order 21 = .ok (.getfield 71, 3) := by decide +kernel
theorem dX8_order_24 : decode cX8_order 24 = .ok (.bipush 7, 2) := by decide +kernel
theorem dX8_order_26 : decode cX8_order 26 = .ok (.if_icmp .le 6, 3) := by decide +kernel
theorem dX8_order_29 : decode cX8_order 29 = .ok (.bipush (-2), 2) := by decide +kernel
theorem dX8_order_31 : decode cX8_order 31 = .ok (.ireturn, 1) := by decide +kernel
theorem dX8_order_32 : decode cX8_order 32 = .ok (.iconst 0, 1) := by decide +kernel
theorem dX8_order_33 : decode cX8_order 33 = .ok (.istore_n 2, 1) := by decide +kernel
theorem dX8_order_34 : decode cX8_order 34 = .ok (.iload_n 2, 1) := by decide +kernel
theorem dX8_order_35 : decode cX8_order 35 = .ok (.aload_n 0, 1) := by decide +kernel
theorem dX8_order_36 : decode cX8_order 36 = .ok (.getfield 71, 3) := by decide +kernel
theorem dX8_order_39 : decode cX8_order 39 = .ok (.if_icmp .ge 21, 3) := by decide +kernel
theorem dX8_order_42 : decode cX8_order 42 = .ok (.aload_n 0, 1) := by decide +kernel
theorem dX8_order_43 : decode cX8_order 43 = .ok (.getfield 46, 3) := by decide +kernel
theorem dX8_order_46 : decode cX8_order 46 = .ok (.iload_n 2, 1) := by decide +kernel
theorem dX8_order_47 : decode cX8_order 47 = .ok (.aload_n 0, 1) := by decide +kernel
theorem dX8_order_48 : decode cX8_order 48 = .ok (.getfield 13, 3) := by decide +kernel
theorem dX8_order_51 : decode cX8_order 51 = .ok (.iload_n 2, 1) := by decide +kernel
theorem dX8_order_52 : decode cX8_order 52 = .ok (.iaload, 1) := by decide +kernel
theorem dX8_order_53 : decode cX8_order 53 = .ok (.iastore, 1) := by decide +kernel
theorem dX8_order_54 : decode cX8_order 54 = .ok (.iinc 2 1, 3) := by decide +kernel
theorem dX8_order_57 : decode cX8_order 57 = .ok (.goto (-23), 3) := by decide +kernel
theorem dX8_order_60 : decode cX8_order 60 = .ok (.iconst 0, 1) := by decide +kernel
theorem dX8_order_61 : decode cX8_order 61 = .ok (.istore_n 2, 1) := by decide +kernel
theorem dX8_order_62 : decode cX8_order 62 = .ok (.iload_n 2, 1) := by decide +kernel
theorem dX8_order_63 : decode cX8_order 63 = .ok (.aload_n 0, 1) := by decide +kernel
theorem dX8_order_64 : decode cX8_order 64 = .ok (.getfield 71, 3) := by decide +kernel
theorem dX8_order_67 : decode cX8_order 67 = .ok (.if_icmp .ge 48, 3) := by decide +kernel
theorem dX8_order_70 : decode cX8_order 70 = .ok (.iload_n 2, 1) := by decide +kernel
theorem dX8_order_71 : decode cX8_order 71 = .ok (.iconst 1, 1) := by decide +kernel
theorem dX8_order_72 : decode cX8_order 72 = .ok (.iadd, 1) := by decide +kernel
theorem dX8_order_73 : decode cX8_order 73 = .ok (.istore_n 3, 1) := by decide +kernel
theorem dX8_order_74 : decode cX8_order 74 = .ok (.iload_n 3, 1) := by decide +kernel
theorem dX8_order_75 : decode cX8_order 75 = .ok (.aload_n 0, 1) := by decide +kernel
theorem dX8_order_76 : decode cX8_order 76 = .ok (.getfield 71, 3) := by decide +kernel
theorem dX8_order_79 : decode cX8_order 79 = .ok (.if_icmp .ge 30, 3) := by decide +kernel
theorem dX8_order_82 : decode cX8_order 82 = .ok (.aload_n 0, 1) := by decide +kernel
theorem dX8_order_83 : decode cX8_order 83 = .ok (.getfield 13, 3) := by decide +kernel
theorem dX8_order_86 : decode cX8_order 86 = .ok (.iload_n 3, 1) := by decide +kernel
theorem dX8_order_87 : decode cX8_order 87 = .ok (.iaload, 1) := by decide +kernel
theorem dX8_order_88 : decode cX8_order 88 = .ok (.aload_n 0, 1) := by decide +kernel
theorem dX8_order_89 : decode cX8_order 89 = .ok (.getfield 13, 3) := by decide +kernel
theorem dX8_order_92 : decode cX8_order 92 = .ok (.iload_n 2, 1) := by decide +kernel
theorem dX8_order_93 : decode cX8_order 93 = .ok (.iaload, 1) := by decide +kernel
theorem dX8_order_94 : decode cX8_order 94 = .ok (.if_icmp .ge 9, 3) := by decide +kernel
theorem dX8_order_97 : decode cX8_order 97 = .ok (.aload_n 0, 1) := by decide +kernel
theorem dX8_order_98 : decode cX8_order 98 = .ok (.iload_n 2, 1) := by decide +kernel
theorem dX8_order_99 : decode cX8_order 99 = .ok (.iload_n 3, 1) := by decide +kernel
theorem dX8_order_100 : decode cX8_order 100 = .ok (.invokevirtual 205, 3) := by decide +kernel
theorem dX8_order_103 : decode cX8_order 103 = .ok (.iinc 3 1, 3) := by decide +kernel
theorem dX8_order_106 : decode cX8_order 106 = .ok (.goto (-32), 3) := by decide +kernel
theorem dX8_order_109 : decode cX8_order 109 = .ok (.iinc 2 1, 3) := by decide +kernel
theorem dX8_order_112 : decode cX8_order 112 = .ok (.goto (-50), 3) := by decide +kernel
theorem dX8_order_115 : decode cX8_order 115 = .ok (.iconst (-1), 1) := by decide +kernel
theorem dX8_order_116 : decode cX8_order 116 = .ok (.istore_n 2, 1) := by decide +kernel
theorem dX8_order_117 : decode cX8_order 117 = .ok (.iconst 1, 1) := by decide +kernel
theorem dX8_order_118 : decode cX8_order 118 = .ok (.istore_n 3, 1) := by decide +kernel
theorem dX8_order_119 : decode cX8_order 119 = .ok (.iload_n 3, 1) := by decide +kernel
theorem dX8_order_120 : decode cX8_order 120 = .ok (.ifCond .eq 87, 3) := by decide +kernel
theorem dX8_order_123 : decode cX8_order 123 = .ok (.aload_n 0, 1) := by decide +kernel
theorem dX8_order_124 : decode cX8_order 124 = .ok (.aload_n 0, 1) := by decide +kernel
theorem dX8_order_125 : decode cX8_order 125 = .ok (.getfield 136, 3) := by decide +kernel
theorem dX8_order_128 : decode cX8_order 128 = .ok (.invokevirtual 199, 3) := by decide +kernel
theorem dX8_order_131 : decode cX8_order 131 = .ok (.istore 4, 2) := by decide +kernel
theorem dX8_order_133 : decode cX8_order 133 = .ok (.iload_n 2, 1) := by decide +kernel
theorem dX8_order_134 : decode cX8_order 134 = .ok (.ifCond .lt 9, 3) := by decide +kernel
theorem dX8_order_137 : decode cX8_order 137 = .ok (.iload 4, 2) := by decide +kernel
theorem dX8_order_139 : decode cX8_order 139 = .ok (.iload_n 2, 1) := by decide +kernel
theorem dX8_order_140 : decode cX8_order 140 = .ok (.if_icmp .ge 7, 3) := by decide +kernel
theorem dX8_order_143 : decode cX8_order 143 = .ok (.iconst 1, 1) := by decide +kernel
theorem dX8_order_144 : decode cX8_order 144 = .ok (.goto 4, 3) := by decide +kernel
theorem dX8_order_147 : decode cX8_order 147 = .ok (.iconst 0, 1) := by decide +kernel
theorem dX8_order_148 : decode cX8_order 148 = .ok (.istore 5, 2) := by decide +kernel
theorem dX8_order_150 : decode cX8_order 150 = .ok (.iload 5, 2) := by decide +kernel
theorem dX8_order_152 : decode cX8_order 152 = .ok (.ifCond .eq 8, 3) := by decide +kernel
theorem dX8_order_155 : decode cX8_order 155 = .ok (.iload 4, 2) := by decide +kernel
theorem dX8_order_157 : decode cX8_order 157 = .ok (.goto 4, 3) := by decide +kernel
theorem dX8_order_160 : decode cX8_order 160 = .ok (.iload_n 2, 1) := by decide +kernel
theorem dX8_order_161 : decode cX8_order 161 = .ok (.istore_n 2, 1) := by decide +kernel
theorem dX8_order_162 : decode cX8_order 162 = .ok (.iconst 0, 1) := by decide +kernel
theorem dX8_order_163 : decode cX8_order 163 = .ok (.istore 6, 2) := by decide +kernel
theorem dX8_order_165 : decode cX8_order 165 = .ok (.iload 6, 2) := by decide +kernel
theorem dX8_order_167 : decode cX8_order 167 = .ok (.aload_n 0, 1) := by decide +kernel
theorem dX8_order_168 : decode cX8_order 168 = .ok (.getfield 71, 3) := by decide +kernel
theorem dX8_order_171 : decode cX8_order 171 = .ok (.if_icmp .ge 28, 3) := by decide +kernel
theorem dX8_order_174 : decode cX8_order 174 = .ok (.iload 5, 2) := by decide +kernel
theorem dX8_order_176 : decode cX8_order 176 = .ok (.ifCond .eq 23, 3) := by decide +kernel
theorem dX8_order_179 : decode cX8_order 179 = .ok (.aload_n 0, 1) := by decide +kernel
theorem dX8_order_180 : decode cX8_order 180 = .ok (.getfield 49, 3) := by decide +kernel
theorem dX8_order_183 : decode cX8_order 183 = .ok (.iload 6, 2) := by decide +kernel
theorem dX8_order_185 : decode cX8_order 185 = .ok (.aload_n 0, 1) := by decide +kernel
theorem dX8_order_186 : decode cX8_order 186 = .ok (.getfield 13, 3) := by decide +kernel
theorem dX8_order_189 : decode cX8_order 189 = .ok (.iload 6, 2) := by decide +kernel
theorem dX8_order_191 : decode cX8_order 191 = .ok (.iaload, 1) := by decide +kernel
theorem dX8_order_192 : decode cX8_order 192 = .ok (.iastore, 1) := by decide +kernel
theorem dX8_order_193 : decode cX8_order 193 = .ok (.iinc 6 1, 3) := by decide +kernel
theorem dX8_order_196 : decode cX8_order 196 = .ok (.goto (-31), 3) := by decide +kernel
theorem dX8_order_199 : decode cX8_order 199 = .ok (.aload_n 0, 1) := by decide +kernel
theorem dX8_order_200 : decode cX8_order 200 = .ok (.invokevirtual 208, 3) := by decide +kernel
theorem dX8_order_203 : decode cX8_order 203 = .ok (.istore_n 3, 1) := by decide +kernel
theorem dX8_order_204 : decode cX8_order 204 = .ok (.goto (-85), 3) := by decide +kernel
theorem dX8_order_207 : decode cX8_order 207 = .ok (.iconst 0, 1) := by decide +kernel
theorem dX8_order_208 : decode cX8_order 208 = .ok (.istore 4, 2) := by decide +kernel
theorem dX8_order_210 : decode cX8_order 210 = .ok (.iload 4, 2) := by decide +kernel
theorem dX8_order_212 : decode cX8_order 212 = .ok (.aload_n 0, 1) := by decide +kernel
theorem dX8_order_213 : decode cX8_order 213 = .ok (.getfield 71, 3) := by decide +kernel
theorem dX8_order_216 : decode cX8_order 216 = .ok (.if_icmp .ge 23, 3) := by decide +kernel
theorem dX8_order_219 : decode cX8_order 219 = .ok (.aload_n 0, 1) := by decide +kernel
theorem dX8_order_220 : decode cX8_order 220 = .ok (.getfield 13, 3) := by decide +kernel
theorem dX8_order_223 : decode cX8_order 223 = .ok (.iload 4, 2) := by decide +kernel
theorem dX8_order_225 : decode cX8_order 225 = .ok (.aload_n 0, 1) := by decide +kernel
theorem dX8_order_226 : decode cX8_order 226 = .ok (.getfield 46, 3) := by decide +kernel
theorem dX8_order_229 : decode cX8_order 229 = .ok (.iload 4, 2) := by decide +kernel
theorem dX8_order_231 : decode cX8_order 231 = .ok (.iaload, 1) := by decide +kernel
theorem dX8_order_232 : decode cX8_order 232 = .ok (.iastore, 1) := by decide +kernel
theorem dX8_order_233 : decode cX8_order 233 = .ok (.iinc 4 1, 3) := by decide +kernel
theorem dX8_order_236 : decode cX8_order 236 = .ok (.goto (-26), 3) := by decide +kernel
theorem dX8_order_239 : decode cX8_order 239 = .ok (.iload_n 1, 1) := by decide +kernel
theorem dX8_order_240 : decode cX8_order 240 = .ok (.ifCond .ge 7, 3) := by decide +kernel
theorem dX8_order_243 : decode cX8_order 243 = .ok (.iload_n 2, 1) := by decide +kernel
theorem dX8_order_244 : decode cX8_order 244 = .ok (.goto 9, 3) := by decide +kernel
theorem dX8_order_247 : decode cX8_order 247 = .ok (.aload_n 0, 1) := by decide +kernel
theorem dX8_order_248 : decode cX8_order 248 = .ok (.getfield 49, 3) := by decide +kernel
theorem dX8_order_251 : decode cX8_order 251 = .ok (.iload_n 1, 1) := by decide +kernel
theorem dX8_order_252 : decode cX8_order 252 = .ok (.iaload, 1) := by decide +kernel
theorem dX8_order_253 : decode cX8_order 253 = .ok (.ireturn, 1) := by decide +kernel
theorem dX8_tryTaught_0 : decode cX8_tryTaught 0 = .ok (.aload_n 0, 1) := by decide +kernel
theorem dX8_tryTaught_1 : decode cX8_tryTaught 1 = .ok (.invokevirtual 188, 3) := by decide +kernel
theorem dX8_tryTaught_4 : decode cX8_tryTaught 4 = .ok (.aload_n 0, 1) := by decide +kernel
theorem dX8_tryTaught_5 : decode cX8_tryTaught 5 = .ok (.iload_n 1, 1) := by decide +kernel
theorem dX8_tryTaught_6 : decode cX8_tryTaught 6 = .ok (.iload_n 2, 1) := by decide +kernel
theorem dX8_tryTaught_7 : decode cX8_tryTaught 7 = .ok (.invokevirtual 176, 3) := by decide +kernel
theorem dX8_tryTaught_10 : decode cX8_tryTaught 10 = .ok (.aload_n 0, 1) := by decide +kernel
theorem dX8_tryTaught_11 : decode cX8_tryTaught 11 = .ok (.aload_n 0, 1) := by decide +kernel
theorem dX8_tryTaught_12 : decode cX8_tryTaught 12 = .ok (.getfield 136, 3) := by decide +kernel
theorem dX8_tryTaught_15 : decode cX8_tryTaught 15 = .ok (.aload_n 0, 1) := by decide +kernel
theorem dX8_tryTaught_16 : decode cX8_tryTaught 16 = .ok (.getfield 139, 3) := by decide +kernel
theorem dX8_tryTaught_19 : decode cX8_tryTaught 19 = .ok (.invokevirtual 191, 3) := by decide +kernel
theorem dX8_tryTaught_22 : decode cX8_tryTaught 22 = .ok (.istore_n 3, 1) := by decide +kernel
theorem dX8_tryTaught_23 : decode cX8_tryTaught 23 = .ok (.aload_n 0, 1) := by decide +kernel
theorem dX8_tryTaught_24 : decode cX8_tryTaught 24 = .ok (.invokevirtual 194, 3) := by decide +kernel
theorem dX8_tryTaught_27 : decode cX8_tryTaught 27 = .ok (.iload_n 3, 1) := by decide +kernel
theorem dX8_tryTaught_28 : decode cX8_tryTaught 28 = .ok (.ireturn, 1) := by decide +kernel
theorem dX8_best_0 : decode cX8_best 0 = .ok (.iload_n 1, 1) := by decide +kernel
theorem dX8_best_1 : decode cX8_best 1 = .ok (.i2l, 1) := by decide +kernel
theorem dX8_best_2 : decode cX8_best 2 = .ok (.lconst 0, 1) := by decide +kernel
theorem dX8_best_3 : decode cX8_best 3 = .ok (.lconst 1, 1) := by decide +kernel
theorem dX8_best_4 : decode cX8_best 4 = .ok (.invokestatic 78, 3) := by decide +kernel
theorem dX8_best_7 : decode cX8_best 7 = .ok (.ifCond .ne 5, 3) := by decide +kernel
theorem dX8_best_10 : decode cX8_best 10 = .ok (.iconst (-1), 1) := by decide +kernel
theorem dX8_best_11 : decode cX8_best 11 = .ok (.ireturn, 1) := by decide +kernel
theorem dX8_best_12 : decode cX8_best 12 = .ok (.aload_n 0, 1) := by decide +kernel
theorem dX8_best_13 : decode cX8_best 13 = .ok (.aload_n 0, 1) := by decide +kernel
theorem dX8_best_14 : decode cX8_best 14 = .ok (.getfield 136, 3) := by decide +kernel
theorem dX8_best_17 : decode cX8_best 17 = .ok (.invokevirtual 199, 3) := by decide +kernel
theorem dX8_best_20 : decode cX8_best 20 = .ok (.istore_n 2, 1) := by decide +kernel
theorem dX8_best_21 : decode cX8_best 21 = .ok (.bipush (-4), 2) := by decide +kernel
theorem dX8_best_23 : decode cX8_best 23 = .ok (.istore_n 3, 1) := by decide +kernel
theorem dX8_best_24 : decode cX8_best 24 = .ok (.iconst 0, 1) := by decide +kernel
theorem dX8_best_25 : decode cX8_best 25 = .ok (.istore 4, 2) := by decide +kernel
theorem dX8_best_27 : decode cX8_best 27 = .ok (.iload 4, 2) := by decide +kernel
theorem dX8_best_29 : decode cX8_best 29 = .ok (.bipush 6, 2) := by decide +kernel
theorem dX8_best_31 : decode cX8_best 31 = .ok (.aload_n 0, 1) := by decide +kernel
theorem dX8_best_32 : decode cX8_best 32 = .ok (.getfield 75, 3) := by decide +kernel
theorem dX8_best_35 : decode cX8_best 35 = .ok (.imul, 1) := by decide +kernel
theorem dX8_best_36 : decode cX8_best 36 = .ok (.if_icmp .ge 51, 3) := by decide +kernel
theorem dX8_best_39 : decode cX8_best 39 = .ok (.aload_n 0, 1) := by decide +kernel
theorem dX8_best_40 : decode cX8_best 40 = .ok (.iload 4, 2) := by decide +kernel
theorem dX8_best_42 : decode cX8_best 42 = .ok (.bipush 6, 2) := by decide +kernel
theorem dX8_best_44 : decode cX8_best 44 = .ok (.idiv, 1) := by decide +kernel
theorem dX8_best_45 : decode cX8_best 45 = .ok (.iload 4, 2) := by decide +kernel
theorem dX8_best_47 : decode cX8_best 47 = .ok (.bipush 6, 2) := by decide +kernel
theorem dX8_best_49 : decode cX8_best 49 = .ok (.irem, 1) := by decide +kernel
theorem dX8_best_50 : decode cX8_best 50 = .ok (.invokevirtual 211, 3) := by decide +kernel
theorem dX8_best_53 : decode cX8_best 53 = .ok (.istore 5, 2) := by decide +kernel
theorem dX8_best_55 : decode cX8_best 55 = .ok (.iload 5, 2) := by decide +kernel
theorem dX8_best_57 : decode cX8_best 57 = .ok (.iload_n 2, 1) := by decide +kernel
theorem dX8_best_58 : decode cX8_best 58 = .ok (.if_icmp .ge 8, 3) := by decide +kernel
theorem dX8_best_61 : decode cX8_best 61 = .ok (.iload 4, 2) := by decide +kernel
theorem dX8_best_63 : decode cX8_best 63 = .ok (.goto 4, 3) := by decide +kernel
theorem dX8_best_66 : decode cX8_best 66 = .ok (.iload_n 3, 1) := by decide +kernel
theorem dX8_best_67 : decode cX8_best 67 = .ok (.istore_n 3, 1) := by decide +kernel
theorem dX8_best_68 : decode cX8_best 68 = .ok (.iload 5, 2) := by decide +kernel
theorem dX8_best_70 : decode cX8_best 70 = .ok (.iload_n 2, 1) := by decide +kernel
theorem dX8_best_71 : decode cX8_best 71 = .ok (.if_icmp .ge 8, 3) := by decide +kernel
theorem dX8_best_74 : decode cX8_best 74 = .ok (.iload 5, 2) := by decide +kernel
theorem dX8_best_76 : decode cX8_best 76 = .ok (.goto 4, 3) := by decide +kernel
theorem dX8_best_79 : decode cX8_best 79 = .ok (.iload_n 2, 1) := by decide +kernel
theorem dX8_best_80 : decode cX8_best 80 = .ok (.istore_n 2, 1) := by decide +kernel
theorem dX8_best_81 : decode cX8_best 81 = .ok (.iinc 4 1, 3) := by decide +kernel
theorem dX8_best_84 : decode cX8_best 84 = .ok (.goto (-57), 3) := by decide +kernel
theorem dX8_best_87 : decode cX8_best 87 = .ok (.iload_n 1, 1) := by decide +kernel
theorem dX8_best_88 : decode cX8_best 88 = .ok (.ifCond .ne 7, 3) := by decide +kernel
theorem dX8_best_91 : decode cX8_best 91 = .ok (.iload_n 3, 1) := by decide +kernel
theorem dX8_best_92 : decode cX8_best 92 = .ok (.goto 4, 3) := by decide +kernel
theorem dX8_best_95 : decode cX8_best 95 = .ok (.iload_n 2, 1) := by decide +kernel
theorem dX8_best_96 : decode cX8_best 96 = .ok (.ireturn, 1) := by decide +kernel
theorem dX8_seen_0 : decode cX8_seen 0 = .ok (.iload_n 1, 1) := by decide +kernel
theorem dX8_seen_1 : decode cX8_seen 1 = .ok (.i2l, 1) := by decide +kernel
theorem dX8_seen_2 : decode cX8_seen 2 = .ok (.lconst 0, 1) := by decide +kernel
theorem dX8_seen_3 : decode cX8_seen 3 = .ok (.aload_n 0, 1) := by decide +kernel
theorem dX8_seen_4 : decode cX8_seen 4 = .ok (.getfield 71, 3) := by decide +kernel
theorem dX8_seen_7 : decode cX8_seen 7 = .ok (.iconst 1, 1) := by decide +kernel
theorem dX8_seen_8 : decode cX8_seen 8 = .ok (.isub, 1) := by decide +kernel
theorem dX8_seen_9 : decode cX8_seen 9 = .ok (.i2l, 1) := by decide +kernel
theorem dX8_seen_10 : decode cX8_seen 10 = .ok (.invokestatic 78, 3) := by decide +kernel
theorem dX8_seen_13 : decode cX8_seen 13 = .ok (.ifCond .eq 10, 3) := by decide +kernel
theorem dX8_seen_16 : decode cX8_seen 16 = .ok (.iload_n 2, 1) := by decide +kernel
theorem dX8_seen_17 : decode cX8_seen 17 = .ok (.invokestatic 103, 3) := by decide +kernel
theorem dX8_seen_20 : decode cX8_seen 20 = .ok (.ifCond .ne 5, 3) := by decide +kernel
theorem dX8_seen_23 : decode cX8_seen 23 = .ok (.iconst (-1), 1) := by decide +kernel
theorem dX8_seen_24 : decode cX8_seen 24 = .ok (.ireturn, 1) := by decide +kernel
theorem dX8_seen_25 : decode cX8_seen 25 = .ok (.aload_n 0, 1) := by decide +kernel
theorem dX8_seen_26 : decode cX8_seen 26 = .ok (.getfield 145, 3) := by decide +kernel
theorem dX8_seen_29 : decode cX8_seen 29 = .ok (.bipush 8, 2) := by decide +kernel
theorem dX8_seen_31 : decode cX8_seen 31 = .ok (.if_icmp .ne 6, 3) := by decide +kernel
theorem dX8_seen_34 : decode cX8_seen 34 = .ok (.bipush (-3), 2) := by decide +kernel
theorem dX8_seen_36 : decode cX8_seen 36 = .ok (.ireturn, 1) := by decide +kernel
theorem dX8_seen_37 : decode cX8_seen 37 = .ok (.aload_n 0, 1) := by decide +kernel
theorem dX8_seen_38 : decode cX8_seen 38 = .ok (.getfield 52, 3) := by decide +kernel
theorem dX8_seen_41 : decode cX8_seen 41 = .ok (.aload_n 0, 1) := by decide +kernel
theorem dX8_seen_42 : decode cX8_seen 42 = .ok (.getfield 145, 3) := by decide +kernel
theorem dX8_seen_45 : decode cX8_seen 45 = .ok (.iload_n 1, 1) := by decide +kernel
theorem dX8_seen_46 : decode cX8_seen 46 = .ok (.iastore, 1) := by decide +kernel
theorem dX8_seen_47 : decode cX8_seen 47 = .ok (.aload_n 0, 1) := by decide +kernel
theorem dX8_seen_48 : decode cX8_seen 48 = .ok (.getfield 55, 3) := by decide +kernel
theorem dX8_seen_51 : decode cX8_seen 51 = .ok (.aload_n 0, 1) := by decide +kernel
theorem dX8_seen_52 : decode cX8_seen 52 = .ok (.getfield 145, 3) := by decide +kernel
theorem dX8_seen_55 : decode cX8_seen 55 = .ok (.iload_n 2, 1) := by decide +kernel
theorem dX8_seen_56 : decode cX8_seen 56 = .ok (.iastore, 1) := by decide +kernel
theorem dX8_seen_57 : decode cX8_seen 57 = .ok (.aload_n 0, 1) := by decide +kernel
theorem dX8_seen_58 : decode cX8_seen 58 = .ok (.dup, 1) := by decide +kernel
theorem dX8_seen_59 : decode cX8_seen 59 = .ok (.getfield 145, 3) := by decide +kernel
theorem dX8_seen_62 : decode cX8_seen 62 = .ok (.iconst 1, 1) := by decide +kernel
theorem dX8_seen_63 : decode cX8_seen 63 = .ok (.iadd, 1) := by decide +kernel
theorem dX8_seen_64 : decode cX8_seen 64 = .ok (.putfield 145, 3) := by decide +kernel
theorem dX8_seen_67 : decode cX8_seen 67 = .ok (.aload_n 0, 1) := by decide +kernel
theorem dX8_seen_68 : decode cX8_seen 68 = .ok (.getfield 145, 3) := by decide +kernel
theorem dX8_seen_71 : decode cX8_seen 71 = .ok (.ireturn, 1) := by decide +kernel
theorem dX8_forget_0 : decode cX8_forget 0 = .ok (.aload_n 0, 1) := by decide +kernel
theorem dX8_forget_1 : decode cX8_forget 1 = .ok (.getfield 145, 3) := by decide +kernel
theorem dX8_forget_4 : decode cX8_forget 4 = .ok (.istore_n 1, 1) := by decide +kernel
theorem dX8_forget_5 : decode cX8_forget 5 = .ok (.aload_n 0, 1) := by decide +kernel
theorem dX8_forget_6 : decode cX8_forget 6 = .ok (.iconst 0, 1) := by decide +kernel
theorem dX8_forget_7 : decode cX8_forget 7 = .ok (.putfield 145, 3) := by decide +kernel
theorem dX8_forget_10 : decode cX8_forget 10 = .ok (.iload_n 1, 1) := by decide +kernel
theorem dX8_forget_11 : decode cX8_forget 11 = .ok (.ireturn, 1) := by decide +kernel
theorem dX8_isFit_0 : decode cX8_isFit 0 = .ok (.aload_n 0, 1) := by decide +kernel
theorem dX8_isFit_1 : decode cX8_isFit 1 = .ok (.invokevirtual 188, 3) := by decide +kernel
theorem dX8_isFit_4 : decode cX8_isFit 4 = .ok (.iconst 0, 1) := by decide +kernel
theorem dX8_isFit_5 : decode cX8_isFit 5 = .ok (.istore_n 3, 1) := by decide +kernel
theorem dX8_isFit_6 : decode cX8_isFit 6 = .ok (.iload_n 3, 1) := by decide +kernel
theorem dX8_isFit_7 : decode cX8_isFit 7 = .ok (.bipush 50, 2) := by decide +kernel
theorem dX8_isFit_9 : decode cX8_isFit 9 = .ok (.if_icmp .ge 16, 3) := by decide +kernel
theorem dX8_isFit_12 : decode cX8_isFit 12 = .ok (.aload_n 0, 1) := by decide +kernel
theorem dX8_isFit_13 : decode cX8_isFit 13 = .ok (.getfield 16, 3) := by decide +kernel
theorem dX8_isFit_16 : decode cX8_isFit 16 = .ok (.iload_n 3, 1) := by decide +kernel
theorem dX8_isFit_17 : decode cX8_isFit 17 = .ok (.iconst 0, 1) := by decide +kernel
theorem dX8_isFit_18 : decode cX8_isFit 18 = .ok (.iastore, 1) := by decide +kernel
theorem dX8_isFit_19 : decode cX8_isFit 19 = .ok (.iinc 3 1, 3) := by decide +kernel
theorem dX8_isFit_22 : decode cX8_isFit 22 = .ok (.goto (-16), 3) := by decide +kernel
theorem dX8_isFit_25 : decode cX8_isFit 25 = .ok (.aload_n 0, 1) := by decide +kernel
theorem dX8_isFit_26 : decode cX8_isFit 26 = .ok (.iload_n 1, 1) := by decide +kernel
theorem dX8_isFit_27 : decode cX8_isFit 27 = .ok (.iload_n 2, 1) := by decide +kernel
theorem dX8_isFit_28 : decode cX8_isFit 28 = .ok (.invokevirtual 191, 3) := by decide +kernel
theorem dX8_isFit_31 : decode cX8_isFit 31 = .ok (.pop, 1) := by decide +kernel
theorem dX8_isFit_32 : decode cX8_isFit 32 = .ok (.aload_n 0, 1) := by decide +kernel
theorem dX8_isFit_33 : decode cX8_isFit 33 = .ok (.invokevirtual 194, 3) := by decide +kernel
theorem dX8_isFit_36 : decode cX8_isFit 36 = .ok (.iconst 1, 1) := by decide +kernel
theorem dX8_isFit_37 : decode cX8_isFit 37 = .ok (.istore_n 3, 1) := by decide +kernel
theorem dX8_isFit_38 : decode cX8_isFit 38 = .ok (.iconst 0, 1) := by decide +kernel
theorem dX8_isFit_39 : decode cX8_isFit 39 = .ok (.istore 4, 2) := by decide +kernel
theorem dX8_isFit_41 : decode cX8_isFit 41 = .ok (.iload 4, 2) := by decide +kernel
theorem dX8_isFit_43 : decode cX8_isFit 43 = .ok (.aload_n 0, 1) := by decide +kernel
theorem dX8_isFit_44 : decode cX8_isFit 44 = .ok (.getfield 145, 3) := by decide +kernel
theorem dX8_isFit_47 : decode cX8_isFit 47 = .ok (.if_icmp .ge 41, 3) := by decide +kernel
theorem dX8_isFit_50 : decode cX8_isFit 50 = .ok (.iload_n 3, 1) := by decide +kernel
theorem dX8_isFit_51 : decode cX8_isFit 51 = .ok (.ifCond .eq 29, 3) := by decide +kernel
theorem dX8_isFit_54 : decode cX8_isFit 54 = .ok (.aload_n 0, 1) := by decide +kernel
theorem dX8_isFit_55 : decode cX8_isFit 55 = .ok (.getfield 37, 3) := by decide +kernel
theorem dX8_isFit_58 : decode cX8_isFit 58 = .ok (.aload_n 0, 1) := by decide +kernel
theorem dX8_isFit_59 : decode cX8_isFit 59 = .ok (.getfield 52, 3) := by decide +kernel
theorem dX8_isFit_62 : decode cX8_isFit 62 = .ok (.iload 4, 2) := by decide +kernel
theorem dX8_isFit_64 : decode cX8_isFit 64 = .ok (.iaload, 1) := by decide +kernel
theorem dX8_isFit_65 : decode cX8_isFit 65 = .ok (.iaload, 1) := by decide +kernel
theorem dX8_isFit_66 : decode cX8_isFit 66 = .ok (.aload_n 0, 1) := by decide +kernel
theorem dX8_isFit_67 : decode cX8_isFit 67 = .ok (.getfield 55, 3) := by decide +kernel
theorem dX8_isFit_70 : decode cX8_isFit 70 = .ok (.iload 4, 2) := by decide +kernel
theorem dX8_isFit_72 : decode cX8_isFit 72 = .ok (.iaload, 1) := by decide +kernel
theorem dX8_isFit_73 : decode cX8_isFit 73 = .ok (.if_icmp .ne 7, 3) := by decide +kernel
theorem dX8_isFit_76 : decode cX8_isFit 76 = .ok (.iconst 1, 1) := by decide +kernel
theorem dX8_isFit_77 : decode cX8_isFit 77 = .ok (.goto 4, 3) := by decide +kernel
theorem dX8_isFit_80 : decode cX8_isFit 80 = .ok (.iconst 0, 1) := by decide +kernel
theorem dX8_isFit_81 : decode cX8_isFit 81 = .ok (.istore_n 3, 1) := by decide +kernel
theorem dX8_isFit_82 : decode cX8_isFit 82 = .ok (.iinc 4 1, 3) := by decide +kernel
theorem dX8_isFit_85 : decode cX8_isFit 85 = .ok (.goto (-44), 3) := by decide +kernel
theorem dX8_isFit_88 : decode cX8_isFit 88 = .ok (.iload_n 3, 1) := by decide +kernel
theorem dX8_isFit_89 : decode cX8_isFit 89 = .ok (.ireturn, 1) := by decide +kernel
theorem dX8_fits_0 : decode cX8_fits 0 = .ok (.iconst 0, 1) := by decide +kernel
theorem dX8_fits_1 : decode cX8_fits 1 = .ok (.istore_n 1, 1) := by decide +kernel
theorem dX8_fits_2 : decode cX8_fits 2 = .ok (.iconst 0, 1) := by decide +kernel
theorem dX8_fits_3 : decode cX8_fits 3 = .ok (.istore_n 2, 1) := by decide +kernel
theorem dX8_fits_4 : decode cX8_fits 4 = .ok (.iload_n 2, 1) := by decide +kernel
theorem dX8_fits_5 : decode cX8_fits 5 = .ok (.iconst 4, 1) := by decide +kernel
theorem dX8_fits_6 : decode cX8_fits 6 = .ok (.if_icmp .ge 31, 3) := by decide +kernel
theorem dX8_fits_9 : decode cX8_fits 9 = .ok (.iload_n 1, 1) := by decide +kernel
theorem dX8_fits_10 : decode cX8_fits 10 = .ok (.aload_n 0, 1) := by decide +kernel
theorem dX8_fits_11 : decode cX8_fits 11 = .ok (.iload_n 2, 1) := by decide +kernel
theorem dX8_fits_12 : decode cX8_fits 12 = .ok (.aload_n 0, 1) := by decide +kernel
theorem dX8_fits_13 : decode cX8_fits 13 = .ok (.getfield 139, 3) := by decide +kernel
theorem dX8_fits_16 : decode cX8_fits 16 = .ok (.invokevirtual 214, 3) := by decide +kernel
theorem dX8_fits_19 : decode cX8_fits 19 = .ok (.ifCond .eq 9, 3) := by decide +kernel
theorem dX8_fits_22 : decode cX8_fits 22 = .ok (.iconst 1, 1) := by decide +kernel
theorem dX8_fits_23 : decode cX8_fits 23 = .ok (.iload_n 2, 1) := by decide +kernel
theorem dX8_fits_24 : decode cX8_fits 24 = .ok (.ishl, 1) := by decide +kernel
theorem dX8_fits_25 : decode cX8_fits 25 = .ok (.goto 4, 3) := by decide +kernel
theorem dX8_fits_28 : decode cX8_fits 28 = .ok (.iconst 0, 1) := by decide +kernel
theorem dX8_fits_29 : decode cX8_fits 29 = .ok (.ior, 1) := by decide +kernel
theorem dX8_fits_30 : decode cX8_fits 30 = .ok (.istore_n 1, 1) := by decide +kernel
theorem dX8_fits_31 : decode cX8_fits 31 = .ok (.iinc 2 1, 3) := by decide +kernel
theorem dX8_fits_34 : decode cX8_fits 34 = .ok (.goto (-30), 3) := by decide +kernel
theorem dX8_fits_37 : decode cX8_fits 37 = .ok (.iload_n 1, 1) := by decide +kernel
theorem dX8_fits_38 : decode cX8_fits 38 = .ok (.ireturn, 1) := by decide +kernel
theorem dX8_firsts_0 : decode cX8_firsts 0 = .ok (.iload_n 1, 1) := by decide +kernel
theorem dX8_firsts_1 : decode cX8_firsts 1 = .ok (.i2l, 1) := by decide +kernel
theorem dX8_firsts_2 : decode cX8_firsts 2 = .ok (.lconst 0, 1) := by decide +kernel
theorem dX8_firsts_3 : decode cX8_firsts 3 = .ok (.ldc2_w 180, 3) := by decide +kernel
theorem dX8_firsts_6 : decode cX8_firsts 6 = .ok (.invokestatic 78, 3) := by decide +kernel
theorem dX8_firsts_9 : decode cX8_firsts 9 = .ok (.ifCond .ne 5, 3) := by decide +kernel
theorem dX8_firsts_12 : decode cX8_firsts 12 = .ok (.iconst (-1), 1) := by decide +kernel
theorem dX8_firsts_13 : decode cX8_firsts 13 = .ok (.ireturn, 1) := by decide +kernel
theorem dX8_firsts_14 : decode cX8_firsts 14 = .ok (.iconst 0, 1) := by decide +kernel
theorem dX8_firsts_15 : decode cX8_firsts 15 = .ok (.istore_n 2, 1) := by decide +kernel
theorem dX8_firsts_16 : decode cX8_firsts 16 = .ok (.iconst 0, 1) := by decide +kernel
theorem dX8_firsts_17 : decode cX8_firsts 17 = .ok (.istore_n 3, 1) := by decide +kernel
theorem dX8_firsts_18 : decode cX8_firsts 18 = .ok (.iload_n 3, 1) := by decide +kernel
theorem dX8_firsts_19 : decode cX8_firsts 19 = .ok (.bipush 6, 2) := by decide +kernel
theorem dX8_firsts_21 : decode cX8_firsts 21 = .ok (.if_icmp .ge 28, 3) := by decide +kernel
theorem dX8_firsts_24 : decode cX8_firsts 24 = .ok (.iload_n 2, 1) := by decide +kernel
theorem dX8_firsts_25 : decode cX8_firsts 25 = .ok (.aload_n 0, 1) := by decide +kernel
theorem dX8_firsts_26 : decode cX8_firsts 26 = .ok (.iload_n 1, 1) := by decide +kernel
theorem dX8_firsts_27 : decode cX8_firsts 27 = .ok (.iload_n 3, 1) := by decide +kernel
theorem dX8_firsts_28 : decode cX8_firsts 28 = .ok (.invokevirtual 214, 3) := by decide +kernel
theorem dX8_firsts_31 : decode cX8_firsts 31 = .ok (.ifCond .eq 9, 3) := by decide +kernel
theorem dX8_firsts_34 : decode cX8_firsts 34 = .ok (.iconst 1, 1) := by decide +kernel
theorem dX8_firsts_35 : decode cX8_firsts 35 = .ok (.iload_n 3, 1) := by decide +kernel
theorem dX8_firsts_36 : decode cX8_firsts 36 = .ok (.ishl, 1) := by decide +kernel
theorem dX8_firsts_37 : decode cX8_firsts 37 = .ok (.goto 4, 3) := by decide +kernel
theorem dX8_firsts_40 : decode cX8_firsts 40 = .ok (.iconst 0, 1) := by decide +kernel
theorem dX8_firsts_41 : decode cX8_firsts 41 = .ok (.ior, 1) := by decide +kernel
theorem dX8_firsts_42 : decode cX8_firsts 42 = .ok (.istore_n 2, 1) := by decide +kernel
theorem dX8_firsts_43 : decode cX8_firsts 43 = .ok (.iinc 3 1, 3) := by decide +kernel
theorem dX8_firsts_46 : decode cX8_firsts 46 = .ok (.goto (-28), 3) := by decide +kernel
theorem dX8_firsts_49 : decode cX8_firsts 49 = .ok (.iload_n 2, 1) := by decide +kernel
theorem dX8_firsts_50 : decode cX8_firsts 50 = .ok (.ireturn, 1) := by decide +kernel
theorem dX8_ask_0 : decode cX8_ask 0 = .ok (.iload_n 1, 1) := by decide +kernel
theorem dX8_ask_1 : decode cX8_ask 1 = .ok (.i2l, 1) := by decide +kernel
theorem dX8_ask_2 : decode cX8_ask 2 = .ok (.lconst 0, 1) := by decide +kernel
theorem dX8_ask_3 : decode cX8_ask 3 = .ok (.lconst 1, 1) := by decide +kernel
theorem dX8_ask_4 : decode cX8_ask 4 = .ok (.invokestatic 78, 3) := by decide +kernel
theorem dX8_ask_7 : decode cX8_ask 7 = .ok (.ifCond .ne 5, 3) := by decide +kernel
theorem dX8_ask_10 : decode cX8_ask 10 = .ok (.iconst (-1), 1) := by decide +kernel
theorem dX8_ask_11 : decode cX8_ask 11 = .ok (.ireturn, 1) := by decide +kernel
theorem dX8_ask_12 : decode cX8_ask 12 = .ok (.aload_n 0, 1) := by decide +kernel
theorem dX8_ask_13 : decode cX8_ask 13 = .ok (.invokevirtual 217, 3) := by decide +kernel
theorem dX8_ask_16 : decode cX8_ask 16 = .ok (.istore_n 2, 1) := by decide +kernel
theorem dX8_ask_17 : decode cX8_ask 17 = .ok (.bipush (-4), 2) := by decide +kernel
theorem dX8_ask_19 : decode cX8_ask 19 = .ok (.istore_n 3, 1) := by decide +kernel
theorem dX8_ask_20 : decode cX8_ask 20 = .ok (.bipush (-4), 2) := by decide +kernel
theorem dX8_ask_22 : decode cX8_ask 22 = .ok (.istore 4, 2) := by decide +kernel
theorem dX8_ask_24 : decode cX8_ask 24 = .ok (.iconst 0, 1) := by decide +kernel
theorem dX8_ask_25 : decode cX8_ask 25 = .ok (.istore 5, 2) := by decide +kernel
theorem dX8_ask_27 : decode cX8_ask 27 = .ok (.iload 5, 2) := by decide +kernel
theorem dX8_ask_29 : decode cX8_ask 29 = .ok (.aload_n 0, 1) := by decide +kernel
theorem dX8_ask_30 : decode cX8_ask 30 = .ok (.getfield 75, 3) := by decide +kernel
theorem dX8_ask_33 : decode cX8_ask 33 = .ok (.if_icmp .ge 135, 3) := by decide +kernel
theorem dX8_ask_36 : decode cX8_ask 36 = .ok (.iload_n 2, 1) := by decide +kernel
theorem dX8_ask_37 : decode cX8_ask 37 = .ok (.ifCond .le 131, 3) := by decide +kernel
theorem dX8_ask_40 : decode cX8_ask 40 = .ok (.iconst 0, 1) := by decide +kernel
theorem dX8_ask_41 : decode cX8_ask 41 = .ok (.istore 6, 2) := by decide +kernel
theorem dX8_ask_43 : decode cX8_ask 43 = .ok (.iconst 0, 1) := by decide +kernel
theorem dX8_ask_44 : decode cX8_ask 44 = .ok (.istore 7, 2) := by decide +kernel
theorem dX8_ask_46 : decode cX8_ask 46 = .ok (.iload 7, 2) := by decide +kernel
theorem dX8_ask_48 : decode cX8_ask 48 = .ok (.bipush 6, 2) := by decide +kernel
theorem dX8_ask_50 : decode cX8_ask 50 = .ok (.if_icmp .ge 79, 3) := by decide +kernel
theorem dX8_ask_53 : decode cX8_ask 53 = .ok (.iconst 0, 1) := by decide +kernel
theorem dX8_ask_54 : decode cX8_ask 54 = .ok (.istore 8, 2) := by decide +kernel
theorem dX8_ask_56 : decode cX8_ask 56 = .ok (.iconst 0, 1) := by decide +kernel
theorem dX8_ask_57 : decode cX8_ask 57 = .ok (.istore 9, 2) := by decide +kernel
theorem dX8_ask_59 : decode cX8_ask 59 = .ok (.iload 9, 2) := by decide +kernel
theorem dX8_ask_61 : decode cX8_ask 61 = .ok (.iconst 4, 1) := by decide +kernel
theorem dX8_ask_62 : decode cX8_ask 62 = .ok (.if_icmp .ge 45, 3) := by decide +kernel
theorem dX8_ask_65 : decode cX8_ask 65 = .ok (.iload 8, 2) := by decide +kernel
theorem dX8_ask_67 : decode cX8_ask 67 = .ok (.iload_n 2, 1) := by decide +kernel
theorem dX8_ask_68 : decode cX8_ask 68 = .ok (.iload 9, 2) := by decide +kernel
theorem dX8_ask_70 : decode cX8_ask 70 = .ok (.invokestatic 162, 3) := by decide +kernel
theorem dX8_ask_73 : decode cX8_ask 73 = .ok (.ifCond .eq 24, 3) := by decide +kernel
theorem dX8_ask_76 : decode cX8_ask 76 = .ok (.aload_n 0, 1) := by decide +kernel
theorem dX8_ask_77 : decode cX8_ask 77 = .ok (.iload 9, 2) := by decide +kernel
theorem dX8_ask_79 : decode cX8_ask 79 = .ok (.aload_n 0, 1) := by decide +kernel
theorem dX8_ask_80 : decode cX8_ask 80 = .ok (.getfield 139, 3) := by decide +kernel
theorem dX8_ask_83 : decode cX8_ask 83 = .ok (.iload 5, 2) := by decide +kernel
theorem dX8_ask_85 : decode cX8_ask 85 = .ok (.invokevirtual 166, 3) := by decide +kernel
theorem dX8_ask_88 : decode cX8_ask 88 = .ok (.iload 7, 2) := by decide +kernel
theorem dX8_ask_90 : decode cX8_ask 90 = .ok (.if_icmp .ne 7, 3) := by decide +kernel
theorem dX8_ask_93 : decode cX8_ask 93 = .ok (.iconst 1, 1) := by decide +kernel
theorem dX8_ask_94 : decode cX8_ask 94 = .ok (.goto 4, 3) := by decide +kernel
theorem dX8_ask_97 : decode cX8_ask 97 = .ok (.iconst 0, 1) := by decide +kernel
theorem dX8_ask_98 : decode cX8_ask 98 = .ok (.iadd, 1) := by decide +kernel
theorem dX8_ask_99 : decode cX8_ask 99 = .ok (.istore 8, 2) := by decide +kernel
theorem dX8_ask_101 : decode cX8_ask 101 = .ok (.iinc 9 1, 3) := by decide +kernel
theorem dX8_ask_104 : decode cX8_ask 104 = .ok (.goto (-45), 3) := by decide +kernel
theorem dX8_ask_107 : decode cX8_ask 107 = .ok (.iload 8, 2) := by decide +kernel
theorem dX8_ask_109 : decode cX8_ask 109 = .ok (.iload 6, 2) := by decide +kernel
theorem dX8_ask_111 : decode cX8_ask 111 = .ok (.if_icmp .le 8, 3) := by decide +kernel
theorem dX8_ask_114 : decode cX8_ask 114 = .ok (.iload 8, 2) := by decide +kernel
theorem dX8_ask_116 : decode cX8_ask 116 = .ok (.goto 5, 3) := by decide +kernel
theorem dX8_ask_119 : decode cX8_ask 119 = .ok (.iload 6, 2) := by decide +kernel
theorem dX8_ask_121 : decode cX8_ask 121 = .ok (.istore 6, 2) := by decide +kernel
theorem dX8_ask_123 : decode cX8_ask 123 = .ok (.iinc 7 1, 3) := by decide +kernel
theorem dX8_ask_126 : decode cX8_ask 126 = .ok (.goto (-80), 3) := by decide +kernel
theorem dX8_ask_129 : decode cX8_ask 129 = .ok (.iload_n 3, 1) := by decide +kernel
theorem dX8_ask_130 : decode cX8_ask 130 = .ok (.ifCond .lt 10, 3) := by decide +kernel
theorem dX8_ask_133 : decode cX8_ask 133 = .ok (.iload 6, 2) := by decide +kernel
theorem dX8_ask_135 : decode cX8_ask 135 = .ok (.iload 4, 2) := by decide +kernel
theorem dX8_ask_137 : decode cX8_ask 137 = .ok (.if_icmp .ge 8, 3) := by decide +kernel
theorem dX8_ask_140 : decode cX8_ask 140 = .ok (.iload 5, 2) := by decide +kernel
theorem dX8_ask_142 : decode cX8_ask 142 = .ok (.goto 4, 3) := by decide +kernel
theorem dX8_ask_145 : decode cX8_ask 145 = .ok (.iload_n 3, 1) := by decide +kernel
theorem dX8_ask_146 : decode cX8_ask 146 = .ok (.istore_n 3, 1) := by decide +kernel
theorem dX8_ask_147 : decode cX8_ask 147 = .ok (.iload_n 3, 1) := by decide +kernel
theorem dX8_ask_148 : decode cX8_ask 148 = .ok (.iload 5, 2) := by decide +kernel
theorem dX8_ask_150 : decode cX8_ask 150 = .ok (.if_icmp .ne 8, 3) := by decide +kernel
theorem dX8_ask_153 : decode cX8_ask 153 = .ok (.iload 6, 2) := by decide +kernel
theorem dX8_ask_155 : decode cX8_ask 155 = .ok (.goto 5, 3) := by decide +kernel
theorem dX8_ask_158 : decode cX8_ask 158 = .ok (.iload 4, 2) := by decide +kernel
theorem dX8_ask_160 : decode cX8_ask 160 = .ok (.istore 4, 2) := by decide +kernel
theorem dX8_ask_162 : decode cX8_ask 162 = .ok (.iinc 5 1, 3) := by decide +kernel
theorem dX8_ask_165 : decode cX8_ask 165 = .ok (.goto (-138), 3) := by decide +kernel
theorem dX8_ask_168 : decode cX8_ask 168 = .ok (.iload_n 1, 1) := by decide +kernel
theorem dX8_ask_169 : decode cX8_ask 169 = .ok (.ifCond .ne 7, 3) := by decide +kernel
theorem dX8_ask_172 : decode cX8_ask 172 = .ok (.iload_n 3, 1) := by decide +kernel
theorem dX8_ask_173 : decode cX8_ask 173 = .ok (.goto 5, 3) := by decide +kernel
theorem dX8_ask_176 : decode cX8_ask 176 = .ok (.iload 4, 2) := by decide +kernel
theorem dX8_ask_178 : decode cX8_ask 178 = .ok (.ireturn, 1) := by decide +kernel
theorem dX8_holds_0 : decode cX8_holds 0 = .ok (.aload_n 0, 1) := by decide +kernel
theorem dX8_holds_1 : decode cX8_holds 1 = .ok (.getfield 7, 3) := by decide +kernel
theorem dX8_holds_4 : decode cX8_holds 4 = .ok (.iconst 5, 1) := by decide +kernel
theorem dX8_holds_5 : decode cX8_holds 5 = .ok (.iload_n 2, 1) := by decide +kernel
theorem dX8_holds_6 : decode cX8_holds 6 = .ok (.imul, 1) := by decide +kernel
theorem dX8_holds_7 : decode cX8_holds 7 = .ok (.iaload, 1) := by decide +kernel
theorem dX8_holds_8 : decode cX8_holds 8 = .ok (.iload_n 1, 1) := by decide +kernel
theorem dX8_holds_9 : decode cX8_holds 9 = .ok (.iand, 1) := by decide +kernel
theorem dX8_holds_10 : decode cX8_holds 10 = .ok (.iload_n 1, 1) := by decide +kernel
theorem dX8_holds_11 : decode cX8_holds 11 = .ok (.if_icmp .ne 7, 3) := by decide +kernel
theorem dX8_holds_14 : decode cX8_holds 14 = .ok (.iconst 1, 1) := by decide +kernel
theorem dX8_holds_15 : decode cX8_holds 15 = .ok (.goto 4, 3) := by decide +kernel
theorem dX8_holds_18 : decode cX8_holds 18 = .ok (.iconst 0, 1) := by decide +kernel
theorem dX8_holds_19 : decode cX8_holds 19 = .ok (.ireturn, 1) := by decide +kernel
theorem dX8_rule_0 : decode cX8_rule 0 = .ok (.iload_n 1, 1) := by decide +kernel
theorem dX8_rule_1 : decode cX8_rule 1 = .ok (.invokestatic 103, 3) := by decide +kernel
theorem dX8_rule_4 : decode cX8_rule 4 = .ok (.ifCond .ne 5, 3) := by decide +kernel
theorem dX8_rule_7 : decode cX8_rule 7 = .ok (.iconst (-1), 1) := by decide +kernel
theorem dX8_rule_8 : decode cX8_rule 8 = .ok (.ireturn, 1) := by decide +kernel
theorem dX8_rule_9 : decode cX8_rule 9 = .ok (.bipush (-4), 2) := by decide +kernel
theorem dX8_rule_11 : decode cX8_rule 11 = .ok (.istore_n 2, 1) := by decide +kernel
theorem dX8_rule_12 : decode cX8_rule 12 = .ok (.iconst 0, 1) := by decide +kernel
theorem dX8_rule_13 : decode cX8_rule 13 = .ok (.istore_n 3, 1) := by decide +kernel
theorem dX8_rule_14 : decode cX8_rule 14 = .ok (.iload_n 3, 1) := by decide +kernel
theorem dX8_rule_15 : decode cX8_rule 15 = .ok (.bipush 32, 2) := by decide +kernel
theorem dX8_rule_17 : decode cX8_rule 17 = .ok (.if_icmp .ge 98, 3) := by decide +kernel
theorem dX8_rule_20 : decode cX8_rule 20 = .ok (.iconst 1, 1) := by decide +kernel
theorem dX8_rule_21 : decode cX8_rule 21 = .ok (.istore 4, 2) := by decide +kernel
theorem dX8_rule_23 : decode cX8_rule 23 = .ok (.iconst 0, 1) := by decide +kernel
theorem dX8_rule_24 : decode cX8_rule 24 = .ok (.istore 5, 2) := by decide +kernel
theorem dX8_rule_26 : decode cX8_rule 26 = .ok (.iload 5, 2) := by decide +kernel
theorem dX8_rule_28 : decode cX8_rule 28 = .ok (.aload_n 0, 1) := by decide +kernel
theorem dX8_rule_29 : decode cX8_rule 29 = .ok (.getfield 75, 3) := by decide +kernel
theorem dX8_rule_32 : decode cX8_rule 32 = .ok (.if_icmp .ge 51, 3) := by decide +kernel
theorem dX8_rule_35 : decode cX8_rule 35 = .ok (.iload 4, 2) := by decide +kernel
theorem dX8_rule_37 : decode cX8_rule 37 = .ok (.ifCond .eq 37, 3) := by decide +kernel
theorem dX8_rule_40 : decode cX8_rule 40 = .ok (.aload_n 0, 1) := by decide +kernel
theorem dX8_rule_41 : decode cX8_rule 41 = .ok (.iload_n 3, 1) := by decide +kernel
theorem dX8_rule_42 : decode cX8_rule 42 = .ok (.iload 5, 2) := by decide +kernel
theorem dX8_rule_44 : decode cX8_rule 44 = .ok (.invokevirtual 220, 3) := by decide +kernel
theorem dX8_rule_47 : decode cX8_rule 47 = .ok (.aload_n 0, 1) := by decide +kernel
theorem dX8_rule_48 : decode cX8_rule 48 = .ok (.getfield 7, 3) := by decide +kernel
theorem dX8_rule_51 : decode cX8_rule 51 = .ok (.iconst 5, 1) := by decide +kernel
theorem dX8_rule_52 : decode cX8_rule 52 = .ok (.iload 5, 2) := by decide +kernel
theorem dX8_rule_54 : decode cX8_rule 54 = .ok (.imul, 1) := by decide +kernel
theorem dX8_rule_55 : decode cX8_rule 55 = .ok (.iconst 1, 1) := by decide +kernel
theorem dX8_rule_56 : decode cX8_rule 56 = .ok (.iadd, 1) := by decide +kernel
theorem dX8_rule_57 : decode cX8_rule 57 = .ok (.iaload, 1) := by decide +kernel
theorem dX8_rule_58 : decode cX8_rule 58 = .ok (.iload_n 1, 1) := by decide +kernel
theorem dX8_rule_59 : decode cX8_rule 59 = .ok (.if_icmp .ne 7, 3) := by decide +kernel
theorem dX8_rule_62 : decode cX8_rule 62 = .ok (.iconst 1, 1) := by decide +kernel
theorem dX8_rule_63 : decode cX8_rule 63 = .ok (.goto 4, 3) := by decide +kernel
theorem dX8_rule_66 : decode cX8_rule 66 = .ok (.iconst 0, 1) := by decide +kernel
theorem dX8_rule_67 : decode cX8_rule 67 = .ok (.if_icmp .ne 7, 3) := by decide +kernel
theorem dX8_rule_70 : decode cX8_rule 70 = .ok (.iconst 1, 1) := by decide +kernel
theorem dX8_rule_71 : decode cX8_rule 71 = .ok (.goto 4, 3) := by decide +kernel
theorem dX8_rule_74 : decode cX8_rule 74 = .ok (.iconst 0, 1) := by decide +kernel
theorem dX8_rule_75 : decode cX8_rule 75 = .ok (.istore 4, 2) := by decide +kernel
theorem dX8_rule_77 : decode cX8_rule 77 = .ok (.iinc 5 1, 3) := by decide +kernel
theorem dX8_rule_80 : decode cX8_rule 80 = .ok (.goto (-54), 3) := by decide +kernel
theorem dX8_rule_83 : decode cX8_rule 83 = .ok (.iload 4, 2) := by decide +kernel
theorem dX8_rule_85 : decode cX8_rule 85 = .ok (.ifCond .eq 22, 3) := by decide +kernel
theorem dX8_rule_88 : decode cX8_rule 88 = .ok (.iload_n 2, 1) := by decide +kernel
theorem dX8_rule_89 : decode cX8_rule 89 = .ok (.ifCond .lt 14, 3) := by decide +kernel
theorem dX8_rule_92 : decode cX8_rule 92 = .ok (.iload_n 3, 1) := by decide +kernel
theorem dX8_rule_93 : decode cX8_rule 93 = .ok (.invokestatic 154, 3) := by decide +kernel
theorem dX8_rule_96 : decode cX8_rule 96 = .ok (.iload_n 2, 1) := by decide +kernel
theorem dX8_rule_97 : decode cX8_rule 97 = .ok (.invokestatic 154, 3) := by decide +kernel
theorem dX8_rule_100 : decode cX8_rule 100 = .ok (.if_icmp .ge 7, 3) := by decide +kernel
theorem dX8_rule_103 : decode cX8_rule 103 = .ok (.iload_n 3, 1) := by decide +kernel
theorem dX8_rule_104 : decode cX8_rule 104 = .ok (.goto 4, 3) := by decide +kernel
theorem dX8_rule_107 : decode cX8_rule 107 = .ok (.iload_n 2, 1) := by decide +kernel
theorem dX8_rule_108 : decode cX8_rule 108 = .ok (.istore_n 2, 1) := by decide +kernel
theorem dX8_rule_109 : decode cX8_rule 109 = .ok (.iinc 3 1, 3) := by decide +kernel
theorem dX8_rule_112 : decode cX8_rule 112 = .ok (.goto (-98), 3) := by decide +kernel
theorem dX8_rule_115 : decode cX8_rule 115 = .ok (.iload_n 2, 1) := by decide +kernel
theorem dX8_rule_116 : decode cX8_rule 116 = .ok (.ireturn, 1) := by decide +kernel
theorem dX8_wrong_0 : decode cX8_wrong 0 = .ok (.iload_n 1, 1) := by decide +kernel
theorem dX8_wrong_1 : decode cX8_wrong 1 = .ok (.invokestatic 103, 3) := by decide +kernel
theorem dX8_wrong_4 : decode cX8_wrong 4 = .ok (.ifCond .eq 15, 3) := by decide +kernel
theorem dX8_wrong_7 : decode cX8_wrong 7 = .ok (.iload_n 2, 1) := by decide +kernel
theorem dX8_wrong_8 : decode cX8_wrong 8 = .ok (.i2l, 1) := by decide +kernel
theorem dX8_wrong_9 : decode cX8_wrong 9 = .ok (.lconst 0, 1) := by decide +kernel
theorem dX8_wrong_10 : decode cX8_wrong 10 = .ok (.ldc2_w 101, 3) := by decide +kernel
theorem dX8_wrong_13 : decode cX8_wrong 13 = .ok (.invokestatic 78, 3) := by decide +kernel
theorem dX8_wrong_16 : decode cX8_wrong 16 = .ok (.ifCond .ne 5, 3) := by decide +kernel
theorem dX8_wrong_19 : decode cX8_wrong 19 = .ok (.iconst (-1), 1) := by decide +kernel
theorem dX8_wrong_20 : decode cX8_wrong 20 = .ok (.ireturn, 1) := by decide +kernel
theorem dX8_wrong_21 : decode cX8_wrong 21 = .ok (.bipush (-4), 2) := by decide +kernel
theorem dX8_wrong_23 : decode cX8_wrong 23 = .ok (.istore 4, 2) := by decide +kernel
theorem dX8_wrong_25 : decode cX8_wrong 25 = .ok (.aload_n 0, 1) := by decide +kernel
theorem dX8_wrong_26 : decode cX8_wrong 26 = .ok (.getfield 75, 3) := by decide +kernel
theorem dX8_wrong_29 : decode cX8_wrong 29 = .ok (.iconst 1, 1) := by decide +kernel
theorem dX8_wrong_30 : decode cX8_wrong 30 = .ok (.isub, 1) := by decide +kernel
theorem dX8_wrong_31 : decode cX8_wrong 31 = .ok (.istore 5, 2) := by decide +kernel
theorem dX8_wrong_33 : decode cX8_wrong 33 = .ok (.iload 5, 2) := by decide +kernel
theorem dX8_wrong_35 : decode cX8_wrong 35 = .ok (.ifCond .lt 94, 3) := by decide +kernel
theorem dX8_wrong_38 : decode cX8_wrong 38 = .ok (.aload_n 0, 1) := by decide +kernel
theorem dX8_wrong_39 : decode cX8_wrong 39 = .ok (.getfield 7, 3) := by decide +kernel
theorem dX8_wrong_42 : decode cX8_wrong 42 = .ok (.iconst 5, 1) := by decide +kernel
theorem dX8_wrong_43 : decode cX8_wrong 43 = .ok (.iload 5, 2) := by decide +kernel
theorem dX8_wrong_45 : decode cX8_wrong 45 = .ok (.imul, 1) := by decide +kernel
theorem dX8_wrong_46 : decode cX8_wrong 46 = .ok (.iconst 1, 1) := by decide +kernel
theorem dX8_wrong_47 : decode cX8_wrong 47 = .ok (.iadd, 1) := by decide +kernel
theorem dX8_wrong_48 : decode cX8_wrong 48 = .ok (.iaload, 1) := by decide +kernel
theorem dX8_wrong_49 : decode cX8_wrong 49 = .ok (.iload_n 1, 1) := by decide +kernel
theorem dX8_wrong_50 : decode cX8_wrong 50 = .ok (.if_icmp .ne 7, 3) := by decide +kernel
theorem dX8_wrong_53 : decode cX8_wrong 53 = .ok (.iconst 1, 1) := by decide +kernel
theorem dX8_wrong_54 : decode cX8_wrong 54 = .ok (.goto 4, 3) := by decide +kernel
theorem dX8_wrong_57 : decode cX8_wrong 57 = .ok (.iconst 0, 1) := by decide +kernel
theorem dX8_wrong_58 : decode cX8_wrong 58 = .ok (.istore 6, 2) := by decide +kernel
theorem dX8_wrong_60 : decode cX8_wrong 60 = .ok (.iload_n 3, 1) := by decide +kernel
theorem dX8_wrong_61 : decode cX8_wrong 61 = .ok (.ifCond .eq 26, 3) := by decide +kernel
theorem dX8_wrong_64 : decode cX8_wrong 64 = .ok (.iload 6, 2) := by decide +kernel
theorem dX8_wrong_66 : decode cX8_wrong 66 = .ok (.ifCond .eq 17, 3) := by decide +kernel
theorem dX8_wrong_69 : decode cX8_wrong 69 = .ok (.aload_n 0, 1) := by decide +kernel
theorem dX8_wrong_70 : decode cX8_wrong 70 = .ok (.iload_n 2, 1) := by decide +kernel
theorem dX8_wrong_71 : decode cX8_wrong 71 = .ok (.iload 5, 2) := by decide +kernel
theorem dX8_wrong_73 : decode cX8_wrong 73 = .ok (.invokevirtual 220, 3) := by decide +kernel
theorem dX8_wrong_76 : decode cX8_wrong 76 = .ok (.ifCond .ne 7, 3) := by decide +kernel
theorem dX8_wrong_79 : decode cX8_wrong 79 = .ok (.iconst 1, 1) := by decide +kernel
theorem dX8_wrong_80 : decode cX8_wrong 80 = .ok (.goto 27, 3) := by decide +kernel
theorem dX8_wrong_83 : decode cX8_wrong 83 = .ok (.iconst 0, 1) := by decide +kernel
theorem dX8_wrong_84 : decode cX8_wrong 84 = .ok (.goto 23, 3) := by decide +kernel
theorem dX8_wrong_87 : decode cX8_wrong 87 = .ok (.iload 6, 2) := by decide +kernel
theorem dX8_wrong_89 : decode cX8_wrong 89 = .ok (.ifCond .ne 17, 3) := by decide +kernel
theorem dX8_wrong_92 : decode cX8_wrong 92 = .ok (.aload_n 0, 1) := by decide +kernel
theorem dX8_wrong_93 : decode cX8_wrong 93 = .ok (.iload_n 2, 1) := by decide +kernel
theorem dX8_wrong_94 : decode cX8_wrong 94 = .ok (.iload 5, 2) := by decide +kernel
theorem dX8_wrong_96 : decode cX8_wrong 96 = .ok (.invokevirtual 220, 3) := by decide +kernel
theorem dX8_wrong_99 : decode cX8_wrong 99 = .ok (.ifCond .eq 7, 3) := by decide +kernel
theorem dX8_wrong_102 : decode cX8_wrong 102 = .ok (.iconst 1, 1) := by decide +kernel
theorem dX8_wrong_103 : decode cX8_wrong 103 = .ok (.goto 4, 3) := by decide +kernel
theorem dX8_wrong_106 : decode cX8_wrong 106 = .ok (.iconst 0, 1) := by decide +kernel
theorem dX8_wrong_107 : decode cX8_wrong 107 = .ok (.istore 7, 2) := by decide +kernel
theorem dX8_wrong_109 : decode cX8_wrong 109 = .ok (.iload 7, 2) := by decide +kernel
theorem dX8_wrong_111 : decode cX8_wrong 111 = .ok (.ifCond .eq 8, 3) := by decide +kernel
theorem dX8_wrong_114 : decode cX8_wrong 114 = .ok (.iload 5, 2) := by decide +kernel
theorem dX8_wrong_116 : decode cX8_wrong 116 = .ok (.goto 5, 3) := by decide +kernel
theorem dX8_wrong_119 : decode cX8_wrong 119 = .ok (.iload 4, 2) := by decide +kernel
theorem dX8_wrong_121 : decode cX8_wrong 121 = .ok (.istore 4, 2) := by decide +kernel
theorem dX8_wrong_123 : decode cX8_wrong 123 = .ok (.iinc 5 (-1), 3) := by decide +kernel
theorem dX8_wrong_126 : decode cX8_wrong 126 = .ok (.goto (-93), 3) := by decide +kernel
theorem dX8_wrong_129 : decode cX8_wrong 129 = .ok (.iload 4, 2) := by decide +kernel
theorem dX8_wrong_131 : decode cX8_wrong 131 = .ok (.ireturn, 1) := by decide +kernel
theorem dX8_copyTo_0 : decode cX8_copyTo 0 = .ok (.iconst 0, 1) := by decide +kernel
theorem dX8_copyTo_1 : decode cX8_copyTo 1 = .ok (.istore_n 3, 1) := by decide +kernel
theorem dX8_copyTo_2 : decode cX8_copyTo 2 = .ok (.iload_n 3, 1) := by decide +kernel
theorem dX8_copyTo_3 : decode cX8_copyTo 3 = .ok (.bipush 50, 2) := by decide +kernel
theorem dX8_copyTo_5 : decode cX8_copyTo 5 = .ok (.if_icmp .ge 15, 3) := by decide +kernel
theorem dX8_copyTo_8 : decode cX8_copyTo 8 = .ok (.aload_n 1, 1) := by decide +kernel
theorem dX8_copyTo_9 : decode cX8_copyTo 9 = .ok (.iload_n 3, 1) := by decide +kernel
theorem dX8_copyTo_10 : decode cX8_copyTo 10 = .ok (.aload_n 2, 1) := by decide +kernel
theorem dX8_copyTo_11 : decode cX8_copyTo 11 = .ok (.iload_n 3, 1) := by decide +kernel
theorem dX8_copyTo_12 : decode cX8_copyTo 12 = .ok (.iaload, 1) := by decide +kernel
theorem dX8_copyTo_13 : decode cX8_copyTo 13 = .ok (.iastore, 1) := by decide +kernel
theorem dX8_copyTo_14 : decode cX8_copyTo 14 = .ok (.iinc 3 1, 3) := by decide +kernel
theorem dX8_copyTo_17 : decode cX8_copyTo 17 = .ok (.goto (-15), 3) := by decide +kernel
theorem dX8_copyTo_20 : decode cX8_copyTo 20 = .ok (.return_, 1) := by decide +kernel
theorem dX8_worstDay_0 : decode cX8_worstDay 0 = .ok (.iconst 0, 1) := by decide +kernel
theorem dX8_worstDay_1 : decode cX8_worstDay 1 = .ok (.istore_n 1, 1) := by decide +kernel
theorem dX8_worstDay_2 : decode cX8_worstDay 2 = .ok (.iconst 0, 1) := by decide +kernel
theorem dX8_worstDay_3 : decode cX8_worstDay 3 = .ok (.istore_n 2, 1) := by decide +kernel
theorem dX8_worstDay_4 : decode cX8_worstDay 4 = .ok (.iload_n 2, 1) := by decide +kernel
theorem dX8_worstDay_5 : decode cX8_worstDay 5 = .ok (.aload_n 0, 1) := by decide +kernel
theorem dX8_worstDay_6 : decode cX8_worstDay 6 = .ok (.getfield 75, 3) := by decide +kernel
theorem dX8_worstDay_9 : decode cX8_worstDay 9 = .ok (.if_icmp .ge 62, 3) := by decide +kernel
theorem dX8_worstDay_12 : decode cX8_worstDay 12 = .ok (.aload_n 0, 1) := by decide +kernel
theorem dX8_worstDay_13 : decode cX8_worstDay 13 = .ok (.aload_n 0, 1) := by decide +kernel
theorem dX8_worstDay_14 : decode cX8_worstDay 14 = .ok (.getfield 136, 3) := by decide +kernel
theorem dX8_worstDay_17 : decode cX8_worstDay 17 = .ok (.aload_n 0, 1) := by decide +kernel
theorem dX8_worstDay_18 : decode cX8_worstDay 18 = .ok (.getfield 139, 3) := by decide +kernel
theorem dX8_worstDay_21 : decode cX8_worstDay 21 = .ok (.iload_n 2, 1) := by decide +kernel
theorem dX8_worstDay_22 : decode cX8_worstDay 22 = .ok (.invokevirtual 166, 3) := by decide +kernel
theorem dX8_worstDay_25 : decode cX8_worstDay 25 = .ok (.istore_n 3, 1) := by decide +kernel
theorem dX8_worstDay_26 : decode cX8_worstDay 26 = .ok (.aload_n 0, 1) := by decide +kernel
theorem dX8_worstDay_27 : decode cX8_worstDay 27 = .ok (.iload_n 2, 1) := by decide +kernel
theorem dX8_worstDay_28 : decode cX8_worstDay 28 = .ok (.iload_n 3, 1) := by decide +kernel
theorem dX8_worstDay_29 : decode cX8_worstDay 29 = .ok (.invokevirtual 173, 3) := by decide +kernel
theorem dX8_worstDay_32 : decode cX8_worstDay 32 = .ok (.iconst 1, 1) := by decide +kernel
theorem dX8_worstDay_33 : decode cX8_worstDay 33 = .ok (.if_icmp .ne 16, 3) := by decide +kernel
theorem dX8_worstDay_36 : decode cX8_worstDay 36 = .ok (.aload_n 0, 1) := by decide +kernel
theorem dX8_worstDay_37 : decode cX8_worstDay 37 = .ok (.getfield 7, 3) := by decide +kernel
theorem dX8_worstDay_40 : decode cX8_worstDay 40 = .ok (.iconst 5, 1) := by decide +kernel
theorem dX8_worstDay_41 : decode cX8_worstDay 41 = .ok (.iload_n 2, 1) := by decide +kernel
theorem dX8_worstDay_42 : decode cX8_worstDay 42 = .ok (.imul, 1) := by decide +kernel
theorem dX8_worstDay_43 : decode cX8_worstDay 43 = .ok (.iconst 3, 1) := by decide +kernel
theorem dX8_worstDay_44 : decode cX8_worstDay 44 = .ok (.iadd, 1) := by decide +kernel
theorem dX8_worstDay_45 : decode cX8_worstDay 45 = .ok (.iaload, 1) := by decide +kernel
theorem dX8_worstDay_46 : decode cX8_worstDay 46 = .ok (.goto 4, 3) := by decide +kernel
theorem dX8_worstDay_49 : decode cX8_worstDay 49 = .ok (.iconst 0, 1) := by decide +kernel
theorem dX8_worstDay_50 : decode cX8_worstDay 50 = .ok (.istore 4, 2) := by decide +kernel
theorem dX8_worstDay_52 : decode cX8_worstDay 52 = .ok (.iload 4, 2) := by decide +kernel
theorem dX8_worstDay_54 : decode cX8_worstDay 54 = .ok (.iload_n 1, 1) := by decide +kernel
theorem dX8_worstDay_55 : decode cX8_worstDay 55 = .ok (.if_icmp .le 8, 3) := by decide +kernel
theorem dX8_worstDay_58 : decode cX8_worstDay 58 = .ok (.iload 4, 2) := by decide +kernel
theorem dX8_worstDay_60 : decode cX8_worstDay 60 = .ok (.goto 4, 3) := by decide +kernel
theorem dX8_worstDay_63 : decode cX8_worstDay 63 = .ok (.iload_n 1, 1) := by decide +kernel
theorem dX8_worstDay_64 : decode cX8_worstDay 64 = .ok (.istore_n 1, 1) := by decide +kernel
theorem dX8_worstDay_65 : decode cX8_worstDay 65 = .ok (.iinc 2 1, 3) := by decide +kernel
theorem dX8_worstDay_68 : decode cX8_worstDay 68 = .ok (.goto (-64), 3) := by decide +kernel
theorem dX8_worstDay_71 : decode cX8_worstDay 71 = .ok (.iload_n 1, 1) := by decide +kernel
theorem dX8_worstDay_72 : decode cX8_worstDay 72 = .ok (.ireturn, 1) := by decide +kernel
theorem dX8_oneRound_0 : decode cX8_oneRound 0 = .ok (.aload_n 0, 1) := by decide +kernel
theorem dX8_oneRound_1 : decode cX8_oneRound 1 = .ok (.aload_n 0, 1) := by decide +kernel
theorem dX8_oneRound_2 : decode cX8_oneRound 2 = .ok (.getfield 61, 3) := by decide +kernel
theorem dX8_oneRound_5 : decode cX8_oneRound 5 = .ok (.aload_n 0, 1) := by decide +kernel
theorem dX8_oneRound_6 : decode cX8_oneRound 6 = .ok (.getfield 16, 3) := by decide +kernel
theorem dX8_oneRound_9 : decode cX8_oneRound 9 = .ok (.invokevirtual 223, 3) := by decide +kernel
theorem dX8_oneRound_12 : decode cX8_oneRound 12 = .ok (.aload_n 0, 1) := by decide +kernel
theorem dX8_oneRound_13 : decode cX8_oneRound 13 = .ok (.invokevirtual 227, 3) := by decide +kernel
theorem dX8_oneRound_16 : decode cX8_oneRound 16 = .ok (.istore_n 1, 1) := by decide +kernel
theorem dX8_oneRound_17 : decode cX8_oneRound 17 = .ok (.iconst 0, 1) := by decide +kernel
theorem dX8_oneRound_18 : decode cX8_oneRound 18 = .ok (.istore_n 2, 1) := by decide +kernel
theorem dX8_oneRound_19 : decode cX8_oneRound 19 = .ok (.iload_n 2, 1) := by decide +kernel
theorem dX8_oneRound_20 : decode cX8_oneRound 20 = .ok (.bipush 6, 2) := by decide +kernel
theorem dX8_oneRound_22 : decode cX8_oneRound 22 = .ok (.aload_n 0, 1) := by decide +kernel
theorem dX8_oneRound_23 : decode cX8_oneRound 23 = .ok (.getfield 75, 3) := by decide +kernel
theorem dX8_oneRound_26 : decode cX8_oneRound 26 = .ok (.imul, 1) := by decide +kernel
theorem dX8_oneRound_27 : decode cX8_oneRound 27 = .ok (.if_icmp .ge 53, 3) := by decide +kernel
theorem dX8_oneRound_30 : decode cX8_oneRound 30 = .ok (.iload_n 1, 1) := by decide +kernel
theorem dX8_oneRound_31 : decode cX8_oneRound 31 = .ok (.ifCond .le 49, 3) := by decide +kernel
theorem dX8_oneRound_34 : decode cX8_oneRound 34 = .ok (.aload_n 0, 1) := by decide +kernel
theorem dX8_oneRound_35 : decode cX8_oneRound 35 = .ok (.iload_n 2, 1) := by decide +kernel
theorem dX8_oneRound_36 : decode cX8_oneRound 36 = .ok (.bipush 6, 2) := by decide +kernel
theorem dX8_oneRound_38 : decode cX8_oneRound 38 = .ok (.idiv, 1) := by decide +kernel
theorem dX8_oneRound_39 : decode cX8_oneRound 39 = .ok (.iload_n 2, 1) := by decide +kernel
theorem dX8_oneRound_40 : decode cX8_oneRound 40 = .ok (.bipush 6, 2) := by decide +kernel
theorem dX8_oneRound_42 : decode cX8_oneRound 42 = .ok (.irem, 1) := by decide +kernel
theorem dX8_oneRound_43 : decode cX8_oneRound 43 = .ok (.invokevirtual 176, 3) := by decide +kernel
theorem dX8_oneRound_46 : decode cX8_oneRound 46 = .ok (.aload_n 0, 1) := by decide +kernel
theorem dX8_oneRound_47 : decode cX8_oneRound 47 = .ok (.invokevirtual 227, 3) := by decide +kernel
theorem dX8_oneRound_50 : decode cX8_oneRound 50 = .ok (.istore_n 3, 1) := by decide +kernel
theorem dX8_oneRound_51 : decode cX8_oneRound 51 = .ok (.iload_n 3, 1) := by decide +kernel
theorem dX8_oneRound_52 : decode cX8_oneRound 52 = .ok (.iload_n 1, 1) := by decide +kernel
theorem dX8_oneRound_53 : decode cX8_oneRound 53 = .ok (.if_icmp .ge 7, 3) := by decide +kernel
theorem dX8_oneRound_56 : decode cX8_oneRound 56 = .ok (.iload_n 3, 1) := by decide +kernel
theorem dX8_oneRound_57 : decode cX8_oneRound 57 = .ok (.goto 4, 3) := by decide +kernel
theorem dX8_oneRound_60 : decode cX8_oneRound 60 = .ok (.iload_n 1, 1) := by decide +kernel
theorem dX8_oneRound_61 : decode cX8_oneRound 61 = .ok (.istore_n 1, 1) := by decide +kernel
theorem dX8_oneRound_62 : decode cX8_oneRound 62 = .ok (.aload_n 0, 1) := by decide +kernel
theorem dX8_oneRound_63 : decode cX8_oneRound 63 = .ok (.aload_n 0, 1) := by decide +kernel
theorem dX8_oneRound_64 : decode cX8_oneRound 64 = .ok (.getfield 16, 3) := by decide +kernel
theorem dX8_oneRound_67 : decode cX8_oneRound 67 = .ok (.aload_n 0, 1) := by decide +kernel
theorem dX8_oneRound_68 : decode cX8_oneRound 68 = .ok (.getfield 61, 3) := by decide +kernel
theorem dX8_oneRound_71 : decode cX8_oneRound 71 = .ok (.invokevirtual 223, 3) := by decide +kernel
theorem dX8_oneRound_74 : decode cX8_oneRound 74 = .ok (.iinc 2 1, 3) := by decide +kernel
theorem dX8_oneRound_77 : decode cX8_oneRound 77 = .ok (.goto (-58), 3) := by decide +kernel
theorem dX8_oneRound_80 : decode cX8_oneRound 80 = .ok (.iload_n 1, 1) := by decide +kernel
theorem dX8_oneRound_81 : decode cX8_oneRound 81 = .ok (.ireturn, 1) := by decide +kernel
theorem dX8_worstTwo_0 : decode cX8_worstTwo 0 = .ok (.aload_n 0, 1) := by decide +kernel
theorem dX8_worstTwo_1 : decode cX8_worstTwo 1 = .ok (.invokevirtual 188, 3) := by decide +kernel
theorem dX8_worstTwo_4 : decode cX8_worstTwo 4 = .ok (.iconst 0, 1) := by decide +kernel
theorem dX8_worstTwo_5 : decode cX8_worstTwo 5 = .ok (.istore_n 1, 1) := by decide +kernel
theorem dX8_worstTwo_6 : decode cX8_worstTwo 6 = .ok (.iconst 0, 1) := by decide +kernel
theorem dX8_worstTwo_7 : decode cX8_worstTwo 7 = .ok (.istore_n 2, 1) := by decide +kernel
theorem dX8_worstTwo_8 : decode cX8_worstTwo 8 = .ok (.iload_n 2, 1) := by decide +kernel
theorem dX8_worstTwo_9 : decode cX8_worstTwo 9 = .ok (.aload_n 0, 1) := by decide +kernel
theorem dX8_worstTwo_10 : decode cX8_worstTwo 10 = .ok (.getfield 75, 3) := by decide +kernel
theorem dX8_worstTwo_13 : decode cX8_worstTwo 13 = .ok (.if_icmp .ge 68, 3) := by decide +kernel
theorem dX8_worstTwo_16 : decode cX8_worstTwo 16 = .ok (.aload_n 0, 1) := by decide +kernel
theorem dX8_worstTwo_17 : decode cX8_worstTwo 17 = .ok (.getfield 16, 3) := by decide +kernel
theorem dX8_worstTwo_20 : decode cX8_worstTwo 20 = .ok (.bipush 42, 2) := by decide +kernel
theorem dX8_worstTwo_22 : decode cX8_worstTwo 22 = .ok (.iaload, 1) := by decide +kernel
theorem dX8_worstTwo_23 : decode cX8_worstTwo 23 = .ok (.istore_n 3, 1) := by decide +kernel
theorem dX8_worstTwo_24 : decode cX8_worstTwo 24 = .ok (.aload_n 0, 1) := by decide +kernel
theorem dX8_worstTwo_25 : decode cX8_worstTwo 25 = .ok (.aload_n 0, 1) := by decide +kernel
theorem dX8_worstTwo_26 : decode cX8_worstTwo 26 = .ok (.getfield 136, 3) := by decide +kernel
theorem dX8_worstTwo_29 : decode cX8_worstTwo 29 = .ok (.aload_n 0, 1) := by decide +kernel
theorem dX8_worstTwo_30 : decode cX8_worstTwo 30 = .ok (.getfield 139, 3) := by decide +kernel
theorem dX8_worstTwo_33 : decode cX8_worstTwo 33 = .ok (.iload_n 2, 1) := by decide +kernel
theorem dX8_worstTwo_34 : decode cX8_worstTwo 34 = .ok (.invokevirtual 185, 3) := by decide +kernel
theorem dX8_worstTwo_37 : decode cX8_worstTwo 37 = .ok (.pop, 1) := by decide +kernel
theorem dX8_worstTwo_38 : decode cX8_worstTwo 38 = .ok (.aload_n 0, 1) := by decide +kernel
theorem dX8_worstTwo_39 : decode cX8_worstTwo 39 = .ok (.getfield 16, 3) := by decide +kernel
theorem dX8_worstTwo_42 : decode cX8_worstTwo 42 = .ok (.bipush 42, 2) := by decide +kernel
theorem dX8_worstTwo_44 : decode cX8_worstTwo 44 = .ok (.iaload, 1) := by decide +kernel
theorem dX8_worstTwo_45 : decode cX8_worstTwo 45 = .ok (.iload_n 3, 1) := by decide +kernel
theorem dX8_worstTwo_46 : decode cX8_worstTwo 46 = .ok (.isub, 1) := by decide +kernel
theorem dX8_worstTwo_47 : decode cX8_worstTwo 47 = .ok (.istore 4, 2) := by decide +kernel
theorem dX8_worstTwo_49 : decode cX8_worstTwo 49 = .ok (.iload 4, 2) := by decide +kernel
theorem dX8_worstTwo_51 : decode cX8_worstTwo 51 = .ok (.aload_n 0, 1) := by decide +kernel
theorem dX8_worstTwo_52 : decode cX8_worstTwo 52 = .ok (.invokevirtual 230, 3) := by decide +kernel
theorem dX8_worstTwo_55 : decode cX8_worstTwo 55 = .ok (.iadd, 1) := by decide +kernel
theorem dX8_worstTwo_56 : decode cX8_worstTwo 56 = .ok (.istore 4, 2) := by decide +kernel
theorem dX8_worstTwo_58 : decode cX8_worstTwo 58 = .ok (.aload_n 0, 1) := by decide +kernel
theorem dX8_worstTwo_59 : decode cX8_worstTwo 59 = .ok (.invokevirtual 194, 3) := by decide +kernel
theorem dX8_worstTwo_62 : decode cX8_worstTwo 62 = .ok (.iload 4, 2) := by decide +kernel
theorem dX8_worstTwo_64 : decode cX8_worstTwo 64 = .ok (.iload_n 1, 1) := by decide +kernel
theorem dX8_worstTwo_65 : decode cX8_worstTwo 65 = .ok (.if_icmp .le 8, 3) := by decide +kernel
theorem dX8_worstTwo_68 : decode cX8_worstTwo 68 = .ok (.iload 4, 2) := by decide +kernel
theorem dX8_worstTwo_70 : decode cX8_worstTwo 70 = .ok (.goto 4, 3) := by decide +kernel
theorem dX8_worstTwo_73 : decode cX8_worstTwo 73 = .ok (.iload_n 1, 1) := by decide +kernel
theorem dX8_worstTwo_74 : decode cX8_worstTwo 74 = .ok (.istore_n 1, 1) := by decide +kernel
theorem dX8_worstTwo_75 : decode cX8_worstTwo 75 = .ok (.iinc 2 1, 3) := by decide +kernel
theorem dX8_worstTwo_78 : decode cX8_worstTwo 78 = .ok (.goto (-70), 3) := by decide +kernel
theorem dX8_worstTwo_81 : decode cX8_worstTwo 81 = .ok (.iload_n 1, 1) := by decide +kernel
theorem dX8_worstTwo_82 : decode cX8_worstTwo 82 = .ok (.ireturn, 1) := by decide +kernel
theorem dX8_twoRounds_0 : decode cX8_twoRounds 0 = .ok (.aload_n 0, 1) := by decide +kernel
theorem dX8_twoRounds_1 : decode cX8_twoRounds 1 = .ok (.aload_n 0, 1) := by decide +kernel
theorem dX8_twoRounds_2 : decode cX8_twoRounds 2 = .ok (.getfield 58, 3) := by decide +kernel
theorem dX8_twoRounds_5 : decode cX8_twoRounds 5 = .ok (.aload_n 0, 1) := by decide +kernel
theorem dX8_twoRounds_6 : decode cX8_twoRounds 6 = .ok (.getfield 16, 3) := by decide +kernel
theorem dX8_twoRounds_9 : decode cX8_twoRounds 9 = .ok (.invokevirtual 223, 3) := by decide +kernel
theorem dX8_twoRounds_12 : decode cX8_twoRounds 12 = .ok (.aload_n 0, 1) := by decide +kernel
theorem dX8_twoRounds_13 : decode cX8_twoRounds 13 = .ok (.invokevirtual 233, 3) := by decide +kernel
theorem dX8_twoRounds_16 : decode cX8_twoRounds 16 = .ok (.istore_n 1, 1) := by decide +kernel
theorem dX8_twoRounds_17 : decode cX8_twoRounds 17 = .ok (.iconst 0, 1) := by decide +kernel
theorem dX8_twoRounds_18 : decode cX8_twoRounds 18 = .ok (.istore_n 2, 1) := by decide +kernel
theorem dX8_twoRounds_19 : decode cX8_twoRounds 19 = .ok (.iload_n 2, 1) := by decide +kernel
theorem dX8_twoRounds_20 : decode cX8_twoRounds 20 = .ok (.bipush 6, 2) := by decide +kernel
theorem dX8_twoRounds_22 : decode cX8_twoRounds 22 = .ok (.aload_n 0, 1) := by decide +kernel
theorem dX8_twoRounds_23 : decode cX8_twoRounds 23 = .ok (.getfield 75, 3) := by decide +kernel
theorem dX8_twoRounds_26 : decode cX8_twoRounds 26 = .ok (.imul, 1) := by decide +kernel
theorem dX8_twoRounds_27 : decode cX8_twoRounds 27 = .ok (.if_icmp .ge 53, 3) := by decide +kernel
theorem dX8_twoRounds_30 : decode cX8_twoRounds 30 = .ok (.iload_n 1, 1) := by decide +kernel
theorem dX8_twoRounds_31 : decode cX8_twoRounds 31 = .ok (.ifCond .le 49, 3) := by decide +kernel
theorem dX8_twoRounds_34 : decode cX8_twoRounds 34 = .ok (.aload_n 0, 1) := by decide +kernel
theorem dX8_twoRounds_35 : decode cX8_twoRounds 35 = .ok (.iload_n 2, 1) := by decide +kernel
theorem dX8_twoRounds_36 : decode cX8_twoRounds 36 = .ok (.bipush 6, 2) := by decide +kernel
theorem dX8_twoRounds_38 : decode cX8_twoRounds 38 = .ok (.idiv, 1) := by decide +kernel
theorem dX8_twoRounds_39 : decode cX8_twoRounds 39 = .ok (.iload_n 2, 1) := by decide +kernel
theorem dX8_twoRounds_40 : decode cX8_twoRounds 40 = .ok (.bipush 6, 2) := by decide +kernel
theorem dX8_twoRounds_42 : decode cX8_twoRounds 42 = .ok (.irem, 1) := by decide +kernel
theorem dX8_twoRounds_43 : decode cX8_twoRounds 43 = .ok (.invokevirtual 176, 3) := by decide +kernel
theorem dX8_twoRounds_46 : decode cX8_twoRounds 46 = .ok (.aload_n 0, 1) := by decide +kernel
theorem dX8_twoRounds_47 : decode cX8_twoRounds 47 = .ok (.invokevirtual 233, 3) := by decide +kernel
theorem dX8_twoRounds_50 : decode cX8_twoRounds 50 = .ok (.istore_n 3, 1) := by decide +kernel
theorem dX8_twoRounds_51 : decode cX8_twoRounds 51 = .ok (.iload_n 3, 1) := by decide +kernel
theorem dX8_twoRounds_52 : decode cX8_twoRounds 52 = .ok (.iload_n 1, 1) := by decide +kernel
theorem dX8_twoRounds_53 : decode cX8_twoRounds 53 = .ok (.if_icmp .ge 7, 3) := by decide +kernel
theorem dX8_twoRounds_56 : decode cX8_twoRounds 56 = .ok (.iload_n 3, 1) := by decide +kernel
theorem dX8_twoRounds_57 : decode cX8_twoRounds 57 = .ok (.goto 4, 3) := by decide +kernel
theorem dX8_twoRounds_60 : decode cX8_twoRounds 60 = .ok (.iload_n 1, 1) := by decide +kernel
theorem dX8_twoRounds_61 : decode cX8_twoRounds 61 = .ok (.istore_n 1, 1) := by decide +kernel
theorem dX8_twoRounds_62 : decode cX8_twoRounds 62 = .ok (.aload_n 0, 1) := by decide +kernel
theorem dX8_twoRounds_63 : decode cX8_twoRounds 63 = .ok (.aload_n 0, 1) := by decide +kernel
theorem dX8_twoRounds_64 : decode cX8_twoRounds 64 = .ok (.getfield 16, 3) := by decide +kernel
theorem dX8_twoRounds_67 : decode cX8_twoRounds 67 = .ok (.aload_n 0, 1) := by decide +kernel
theorem dX8_twoRounds_68 : decode cX8_twoRounds 68 = .ok (.getfield 58, 3) := by decide +kernel
theorem dX8_twoRounds_71 : decode cX8_twoRounds 71 = .ok (.invokevirtual 223, 3) := by decide +kernel
theorem dX8_twoRounds_74 : decode cX8_twoRounds 74 = .ok (.iinc 2 1, 3) := by decide +kernel
theorem dX8_twoRounds_77 : decode cX8_twoRounds 77 = .ok (.goto (-58), 3) := by decide +kernel
theorem dX8_twoRounds_80 : decode cX8_twoRounds 80 = .ok (.iload_n 1, 1) := by decide +kernel
theorem dX8_twoRounds_81 : decode cX8_twoRounds 81 = .ok (.ireturn, 1) := by decide +kernel
theorem dX8_byTurns_0 : decode cX8_byTurns 0 = .ok (.iload_n 1, 1) := by decide +kernel
theorem dX8_byTurns_1 : decode cX8_byTurns 1 = .ok (.i2l, 1) := by decide +kernel
theorem dX8_byTurns_2 : decode cX8_byTurns 2 = .ok (.lconst 0, 1) := by decide +kernel
theorem dX8_byTurns_3 : decode cX8_byTurns 3 = .ok (.ldc2_w 236, 3) := by decide +kernel
theorem dX8_byTurns_6 : decode cX8_byTurns 6 = .ok (.invokestatic 78, 3) := by decide +kernel
theorem dX8_byTurns_9 : decode cX8_byTurns 9 = .ok (.ifCond .ne 5, 3) := by decide +kernel
theorem dX8_byTurns_12 : decode cX8_byTurns 12 = .ok (.iconst (-1), 1) := by decide +kernel
theorem dX8_byTurns_13 : decode cX8_byTurns 13 = .ok (.ireturn, 1) := by decide +kernel
theorem dX8_byTurns_14 : decode cX8_byTurns 14 = .ok (.iload_n 1, 1) := by decide +kernel
theorem dX8_byTurns_15 : decode cX8_byTurns 15 = .ok (.ifCond .ne 7, 3) := by decide +kernel
theorem dX8_byTurns_18 : decode cX8_byTurns 18 = .ok (.iconst 0, 1) := by decide +kernel
theorem dX8_byTurns_19 : decode cX8_byTurns 19 = .ok (.goto 19, 3) := by decide +kernel
theorem dX8_byTurns_22 : decode cX8_byTurns 22 = .ok (.iload_n 1, 1) := by decide +kernel
theorem dX8_byTurns_23 : decode cX8_byTurns 23 = .ok (.iconst 1, 1) := by decide +kernel
theorem dX8_byTurns_24 : decode cX8_byTurns 24 = .ok (.if_icmp .ne 10, 3) := by decide +kernel
theorem dX8_byTurns_27 : decode cX8_byTurns 27 = .ok (.aload_n 0, 1) := by decide +kernel
theorem dX8_byTurns_28 : decode cX8_byTurns 28 = .ok (.invokevirtual 230, 3) := by decide +kernel
theorem dX8_byTurns_31 : decode cX8_byTurns 31 = .ok (.goto 7, 3) := by decide +kernel
theorem dX8_byTurns_34 : decode cX8_byTurns 34 = .ok (.aload_n 0, 1) := by decide +kernel
theorem dX8_byTurns_35 : decode cX8_byTurns 35 = .ok (.invokevirtual 238, 3) := by decide +kernel
theorem dX8_byTurns_38 : decode cX8_byTurns 38 = .ok (.ireturn, 1) := by decide +kernel
theorem dX8_common_0 : decode cX8_common 0 = .ok (.lload_n 0, 1) := by decide +kernel
theorem dX8_common_1 : decode cX8_common 1 = .ok (.lstore 4, 2) := by decide +kernel
theorem dX8_common_3 : decode cX8_common 3 = .ok (.lload_n 2, 1) := by decide +kernel
theorem dX8_common_4 : decode cX8_common 4 = .ok (.lstore 6, 2) := by decide +kernel
theorem dX8_common_6 : decode cX8_common 6 = .ok (.lload 6, 2) := by decide +kernel
theorem dX8_common_8 : decode cX8_common 8 = .ok (.lconst 0, 1) := by decide +kernel
theorem dX8_common_9 : decode cX8_common 9 = .ok (.lcmp, 1) := by decide +kernel
theorem dX8_common_10 : decode cX8_common 10 = .ok (.ifCond .eq 21, 3) := by decide +kernel
theorem dX8_common_13 : decode cX8_common 13 = .ok (.lload 4, 2) := by decide +kernel
theorem dX8_common_15 : decode cX8_common 15 = .ok (.lload 6, 2) := by decide +kernel
theorem dX8_common_17 : decode cX8_common 17 = .ok (.lrem, 1) := by decide +kernel
theorem dX8_common_18 : decode cX8_common 18 = .ok (.lstore 8, 2) := by decide +kernel
theorem dX8_common_20 : decode cX8_common 20 = .ok (.lload 6, 2) := by decide +kernel
theorem dX8_common_22 : decode cX8_common 22 = .ok (.lstore 4, 2) := by decide +kernel
theorem dX8_common_24 : decode cX8_common 24 = .ok (.lload 8, 2) := by decide +kernel
theorem dX8_common_26 : decode cX8_common 26 = .ok (.lstore 6, 2) := by decide +kernel
theorem dX8_common_28 : decode cX8_common 28 = .ok (.goto (-22), 3) := by decide +kernel
theorem dX8_common_31 : decode cX8_common 31 = .ok (.lload 4, 2) := by decide +kernel
theorem dX8_common_33 : decode cX8_common 33 = .ok (.lreturn, 1) := by decide +kernel
theorem dX8_mean_0 : decode cX8_mean 0 = .ok (.iload_n 1, 1) := by decide +kernel
theorem dX8_mean_1 : decode cX8_mean 1 = .ok (.i2l, 1) := by decide +kernel
theorem dX8_mean_2 : decode cX8_mean 2 = .ok (.lconst 0, 1) := by decide +kernel
theorem dX8_mean_3 : decode cX8_mean 3 = .ok (.ldc2_w 180, 3) := by decide +kernel
theorem dX8_mean_6 : decode cX8_mean 6 = .ok (.invokestatic 78, 3) := by decide +kernel
theorem dX8_mean_9 : decode cX8_mean 9 = .ok (.ifCond .eq 13, 3) := by decide +kernel
theorem dX8_mean_12 : decode cX8_mean 12 = .ok (.iload_n 2, 1) := by decide +kernel
theorem dX8_mean_13 : decode cX8_mean 13 = .ok (.i2l, 1) := by decide +kernel
theorem dX8_mean_14 : decode cX8_mean 14 = .ok (.lconst 0, 1) := by decide +kernel
theorem dX8_mean_15 : decode cX8_mean 15 = .ok (.lconst 1, 1) := by decide +kernel
theorem dX8_mean_16 : decode cX8_mean 16 = .ok (.invokestatic 78, 3) := by decide +kernel
theorem dX8_mean_19 : decode cX8_mean 19 = .ok (.ifCond .ne 5, 3) := by decide +kernel
theorem dX8_mean_22 : decode cX8_mean 22 = .ok (.iconst (-1), 1) := by decide +kernel
theorem dX8_mean_23 : decode cX8_mean 23 = .ok (.ireturn, 1) := by decide +kernel
theorem dX8_mean_24 : decode cX8_mean 24 = .ok (.iconst 0, 1) := by decide +kernel
theorem dX8_mean_25 : decode cX8_mean 25 = .ok (.istore_n 3, 1) := by decide +kernel
theorem dX8_mean_26 : decode cX8_mean 26 = .ok (.iconst 0, 1) := by decide +kernel
theorem dX8_mean_27 : decode cX8_mean 27 = .ok (.istore 4, 2) := by decide +kernel
theorem dX8_mean_29 : decode cX8_mean 29 = .ok (.iload 4, 2) := by decide +kernel
theorem dX8_mean_31 : decode cX8_mean 31 = .ok (.aload_n 0, 1) := by decide +kernel
theorem dX8_mean_32 : decode cX8_mean 32 = .ok (.getfield 75, 3) := by decide +kernel
theorem dX8_mean_35 : decode cX8_mean 35 = .ok (.if_icmp .ge 23, 3) := by decide +kernel
theorem dX8_mean_38 : decode cX8_mean 38 = .ok (.iload_n 3, 1) := by decide +kernel
theorem dX8_mean_39 : decode cX8_mean 39 = .ok (.aload_n 0, 1) := by decide +kernel
theorem dX8_mean_40 : decode cX8_mean 40 = .ok (.getfield 7, 3) := by decide +kernel
theorem dX8_mean_43 : decode cX8_mean 43 = .ok (.iconst 5, 1) := by decide +kernel
theorem dX8_mean_44 : decode cX8_mean 44 = .ok (.iload 4, 2) := by decide +kernel
theorem dX8_mean_46 : decode cX8_mean 46 = .ok (.imul, 1) := by decide +kernel
theorem dX8_mean_47 : decode cX8_mean 47 = .ok (.iconst 4, 1) := by decide +kernel
theorem dX8_mean_48 : decode cX8_mean 48 = .ok (.iadd, 1) := by decide +kernel
theorem dX8_mean_49 : decode cX8_mean 49 = .ok (.iaload, 1) := by decide +kernel
theorem dX8_mean_50 : decode cX8_mean 50 = .ok (.iadd, 1) := by decide +kernel
theorem dX8_mean_51 : decode cX8_mean 51 = .ok (.istore_n 3, 1) := by decide +kernel
theorem dX8_mean_52 : decode cX8_mean 52 = .ok (.iinc 4 1, 3) := by decide +kernel
theorem dX8_mean_55 : decode cX8_mean 55 = .ok (.goto (-26), 3) := by decide +kernel
theorem dX8_mean_58 : decode cX8_mean 58 = .ok (.iconst 1, 1) := by decide +kernel
theorem dX8_mean_59 : decode cX8_mean 59 = .ok (.istore 4, 2) := by decide +kernel
theorem dX8_mean_61 : decode cX8_mean 61 = .ok (.lconst 1, 1) := by decide +kernel
theorem dX8_mean_62 : decode cX8_mean 62 = .ok (.lstore 5, 2) := by decide +kernel
theorem dX8_mean_64 : decode cX8_mean 64 = .ok (.iconst 0, 1) := by decide +kernel
theorem dX8_mean_65 : decode cX8_mean 65 = .ok (.istore 7, 2) := by decide +kernel
theorem dX8_mean_67 : decode cX8_mean 67 = .ok (.iload 7, 2) := by decide +kernel
theorem dX8_mean_69 : decode cX8_mean 69 = .ok (.iload_n 1, 1) := by decide +kernel
theorem dX8_mean_70 : decode cX8_mean 70 = .ok (.if_icmp .ge 25, 3) := by decide +kernel
theorem dX8_mean_73 : decode cX8_mean 73 = .ok (.iload 4, 2) := by decide +kernel
theorem dX8_mean_75 : decode cX8_mean 75 = .ok (.aload_n 0, 1) := by decide +kernel
theorem dX8_mean_76 : decode cX8_mean 76 = .ok (.getfield 75, 3) := by decide +kernel
theorem dX8_mean_79 : decode cX8_mean 79 = .ok (.imul, 1) := by decide +kernel
theorem dX8_mean_80 : decode cX8_mean 80 = .ok (.istore 4, 2) := by decide +kernel
theorem dX8_mean_82 : decode cX8_mean 82 = .ok (.lload 5, 2) := by decide +kernel
theorem dX8_mean_84 : decode cX8_mean 84 = .ok (.iload_n 3, 1) := by decide +kernel
theorem dX8_mean_85 : decode cX8_mean 85 = .ok (.i2l, 1) := by decide +kernel
theorem dX8_mean_86 : decode cX8_mean 86 = .ok (.lmul, 1) := by decide +kernel
theorem dX8_mean_87 : decode cX8_mean 87 = .ok (.lstore 5, 2) := by decide +kernel
theorem dX8_mean_89 : decode cX8_mean 89 = .ok (.iinc 7 1, 3) := by decide +kernel
theorem dX8_mean_92 : decode cX8_mean 92 = .ok (.goto (-25), 3) := by decide +kernel
theorem dX8_mean_95 : decode cX8_mean 95 = .ok (.lconst 0, 1) := by decide +kernel
theorem dX8_mean_96 : decode cX8_mean 96 = .ok (.lstore 7, 2) := by decide +kernel
theorem dX8_mean_98 : decode cX8_mean 98 = .ok (.iconst 0, 1) := by decide +kernel
theorem dX8_mean_99 : decode cX8_mean 99 = .ok (.istore 9, 2) := by decide +kernel
theorem dX8_mean_101 : decode cX8_mean 101 = .ok (.iload 9, 2) := by decide +kernel
theorem dX8_mean_103 : decode cX8_mean 103 = .ok (.iload 4, 2) := by decide +kernel
theorem dX8_mean_105 : decode cX8_mean 105 = .ok (.if_icmp .ge 114, 3) := by decide +kernel
theorem dX8_mean_108 : decode cX8_mean 108 = .ok (.aload_n 0, 1) := by decide +kernel
theorem dX8_mean_109 : decode cX8_mean 109 = .ok (.invokevirtual 188, 3) := by decide +kernel
theorem dX8_mean_112 : decode cX8_mean 112 = .ok (.lconst 1, 1) := by decide +kernel
theorem dX8_mean_113 : decode cX8_mean 113 = .ok (.lstore 10, 2) := by decide +kernel
theorem dX8_mean_115 : decode cX8_mean 115 = .ok (.iload 9, 2) := by decide +kernel
theorem dX8_mean_117 : decode cX8_mean 117 = .ok (.istore 12, 2) := by decide +kernel
theorem dX8_mean_119 : decode cX8_mean 119 = .ok (.iconst 0, 1) := by decide +kernel
theorem dX8_mean_120 : decode cX8_mean 120 = .ok (.istore 13, 2) := by decide +kernel
theorem dX8_mean_122 : decode cX8_mean 122 = .ok (.iload 13, 2) := by decide +kernel
theorem dX8_mean_124 : decode cX8_mean 124 = .ok (.iload_n 1, 1) := by decide +kernel
theorem dX8_mean_125 : decode cX8_mean 125 = .ok (.if_icmp .ge 60, 3) := by decide +kernel
theorem dX8_mean_128 : decode cX8_mean 128 = .ok (.lload 10, 2) := by decide +kernel
theorem dX8_mean_130 : decode cX8_mean 130 = .ok (.aload_n 0, 1) := by decide +kernel
theorem dX8_mean_131 : decode cX8_mean 131 = .ok (.getfield 7, 3) := by decide +kernel
theorem dX8_mean_134 : decode cX8_mean 134 = .ok (.iconst 5, 1) := by decide +kernel
theorem dX8_mean_135 : decode cX8_mean 135 = .ok (.iload 12, 2) := by decide +kernel
theorem dX8_mean_137 : decode cX8_mean 137 = .ok (.aload_n 0, 1) := by decide +kernel
theorem dX8_mean_138 : decode cX8_mean 138 = .ok (.getfield 75, 3) := by decide +kernel
theorem dX8_mean_141 : decode cX8_mean 141 = .ok (.irem, 1) := by decide +kernel
theorem dX8_mean_142 : decode cX8_mean 142 = .ok (.imul, 1) := by decide +kernel
theorem dX8_mean_143 : decode cX8_mean 143 = .ok (.iconst 4, 1) := by decide +kernel
theorem dX8_mean_144 : decode cX8_mean 144 = .ok (.iadd, 1) := by decide +kernel
theorem dX8_mean_145 : decode cX8_mean 145 = .ok (.iaload, 1) := by decide +kernel
theorem dX8_mean_146 : decode cX8_mean 146 = .ok (.i2l, 1) := by decide +kernel
theorem dX8_mean_147 : decode cX8_mean 147 = .ok (.lmul, 1) := by decide +kernel
theorem dX8_mean_148 : decode cX8_mean 148 = .ok (.lstore 10, 2) := by decide +kernel
theorem dX8_mean_150 : decode cX8_mean 150 = .ok (.aload_n 0, 1) := by decide +kernel
theorem dX8_mean_151 : decode cX8_mean 151 = .ok (.aload_n 0, 1) := by decide +kernel
theorem dX8_mean_152 : decode cX8_mean 152 = .ok (.getfield 136, 3) := by decide +kernel
theorem dX8_mean_155 : decode cX8_mean 155 = .ok (.aload_n 0, 1) := by decide +kernel
theorem dX8_mean_156 : decode cX8_mean 156 = .ok (.getfield 139, 3) := by decide +kernel
theorem dX8_mean_159 : decode cX8_mean 159 = .ok (.iload 12, 2) := by decide +kernel
theorem dX8_mean_161 : decode cX8_mean 161 = .ok (.aload_n 0, 1) := by decide +kernel
theorem dX8_mean_162 : decode cX8_mean 162 = .ok (.getfield 75, 3) := by decide +kernel
theorem dX8_mean_165 : decode cX8_mean 165 = .ok (.irem, 1) := by decide +kernel
theorem dX8_mean_166 : decode cX8_mean 166 = .ok (.invokevirtual 185, 3) := by decide +kernel
theorem dX8_mean_169 : decode cX8_mean 169 = .ok (.pop, 1) := by decide +kernel
theorem dX8_mean_170 : decode cX8_mean 170 = .ok (.iload 12, 2) := by decide +kernel
theorem dX8_mean_172 : decode cX8_mean 172 = .ok (.aload_n 0, 1) := by decide +kernel
theorem dX8_mean_173 : decode cX8_mean 173 = .ok (.getfield 75, 3) := by decide +kernel
theorem dX8_mean_176 : decode cX8_mean 176 = .ok (.idiv, 1) := by decide +kernel
theorem dX8_mean_177 : decode cX8_mean 177 = .ok (.istore 12, 2) := by decide +kernel
theorem dX8_mean_179 : decode cX8_mean 179 = .ok (.iinc 13 1, 3) := by decide +kernel
theorem dX8_mean_182 : decode cX8_mean 182 = .ok (.goto (-60), 3) := by decide +kernel
theorem dX8_mean_185 : decode cX8_mean 185 = .ok (.lload 7, 2) := by decide +kernel
theorem dX8_mean_187 : decode cX8_mean 187 = .ok (.lload 10, 2) := by decide +kernel
theorem dX8_mean_189 : decode cX8_mean 189 = .ok (.aload_n 0, 1) := by decide +kernel
theorem dX8_mean_190 : decode cX8_mean 190 = .ok (.getfield 16, 3) := by decide +kernel
theorem dX8_mean_193 : decode cX8_mean 193 = .ok (.bipush 42, 2) := by decide +kernel
theorem dX8_mean_195 : decode cX8_mean 195 = .ok (.iaload, 1) := by decide +kernel
theorem dX8_mean_196 : decode cX8_mean 196 = .ok (.aload_n 0, 1) := by decide +kernel
theorem dX8_mean_197 : decode cX8_mean 197 = .ok (.getfield 34, 3) := by decide +kernel
theorem dX8_mean_200 : decode cX8_mean 200 = .ok (.bipush 42, 2) := by decide +kernel
theorem dX8_mean_202 : decode cX8_mean 202 = .ok (.iaload, 1) := by decide +kernel
theorem dX8_mean_203 : decode cX8_mean 203 = .ok (.isub, 1) := by decide +kernel
theorem dX8_mean_204 : decode cX8_mean 204 = .ok (.i2l, 1) := by decide +kernel
theorem dX8_mean_205 : decode cX8_mean 205 = .ok (.lmul, 1) := by decide +kernel
theorem dX8_mean_206 : decode cX8_mean 206 = .ok (.ladd, 1) := by decide +kernel
theorem dX8_mean_207 : decode cX8_mean 207 = .ok (.lstore 7, 2) := by decide +kernel
theorem dX8_mean_209 : decode cX8_mean 209 = .ok (.aload_n 0, 1) := by decide +kernel
theorem dX8_mean_210 : decode cX8_mean 210 = .ok (.invokevirtual 194, 3) := by decide +kernel
theorem dX8_mean_213 : decode cX8_mean 213 = .ok (.iinc 9 1, 3) := by decide +kernel
theorem dX8_mean_216 : decode cX8_mean 216 = .ok (.goto (-115), 3) := by decide +kernel
theorem dX8_mean_219 : decode cX8_mean 219 = .ok (.lload 7, 2) := by decide +kernel
theorem dX8_mean_221 : decode cX8_mean 221 = .ok (.lload 5, 2) := by decide +kernel
theorem dX8_mean_223 : decode cX8_mean 223 = .ok (.invokestatic 241, 3) := by decide +kernel
theorem dX8_mean_226 : decode cX8_mean 226 = .ok (.lstore 9, 2) := by decide +kernel
theorem dX8_mean_228 : decode cX8_mean 228 = .ok (.iload_n 2, 1) := by decide +kernel
theorem dX8_mean_229 : decode cX8_mean 229 = .ok (.ifCond .ne 11, 3) := by decide +kernel
theorem dX8_mean_232 : decode cX8_mean 232 = .ok (.lload 7, 2) := by decide +kernel
theorem dX8_mean_234 : decode cX8_mean 234 = .ok (.lload 9, 2) := by decide +kernel
theorem dX8_mean_236 : decode cX8_mean 236 = .ok (.ldiv, 1) := by decide +kernel
theorem dX8_mean_237 : decode cX8_mean 237 = .ok (.goto 8, 3) := by decide +kernel
theorem dX8_mean_240 : decode cX8_mean 240 = .ok (.lload 5, 2) := by decide +kernel
theorem dX8_mean_242 : decode cX8_mean 242 = .ok (.lload 9, 2) := by decide +kernel
theorem dX8_mean_244 : decode cX8_mean 244 = .ok (.ldiv, 1) := by decide +kernel
theorem dX8_mean_245 : decode cX8_mean 245 = .ok (.l2i, 1) := by decide +kernel
theorem dX8_mean_246 : decode cX8_mean 246 = .ok (.ireturn, 1) := by decide +kernel
theorem dX8_year_0 : decode cX8_year 0 = .ok (.iload_n 1, 1) := by decide +kernel
theorem dX8_year_1 : decode cX8_year 1 = .ok (.i2l, 1) := by decide +kernel
theorem dX8_year_2 : decode cX8_year 2 = .ok (.lconst 0, 1) := by decide +kernel
theorem dX8_year_3 : decode cX8_year 3 = .ok (.ldc2_w 245, 3) := by decide +kernel
theorem dX8_year_6 : decode cX8_year 6 = .ok (.invokestatic 78, 3) := by decide +kernel
theorem dX8_year_9 : decode cX8_year 9 = .ok (.ifCond .eq 25, 3) := by decide +kernel
theorem dX8_year_12 : decode cX8_year 12 = .ok (.iload_n 2, 1) := by decide +kernel
theorem dX8_year_13 : decode cX8_year 13 = .ok (.i2l, 1) := by decide +kernel
theorem dX8_year_14 : decode cX8_year 14 = .ok (.lconst 1, 1) := by decide +kernel
theorem dX8_year_15 : decode cX8_year 15 = .ok (.ldc2_w 247, 3) := by decide +kernel
theorem dX8_year_18 : decode cX8_year 18 = .ok (.invokestatic 78, 3) := by decide +kernel
theorem dX8_year_21 : decode cX8_year 21 = .ok (.ifCond .eq 13, 3) := by decide +kernel
theorem dX8_year_24 : decode cX8_year 24 = .ok (.iload_n 3, 1) := by decide +kernel
theorem dX8_year_25 : decode cX8_year 25 = .ok (.i2l, 1) := by decide +kernel
theorem dX8_year_26 : decode cX8_year 26 = .ok (.lconst 0, 1) := by decide +kernel
theorem dX8_year_27 : decode cX8_year 27 = .ok (.lconst 1, 1) := by decide +kernel
theorem dX8_year_28 : decode cX8_year 28 = .ok (.invokestatic 78, 3) := by decide +kernel
theorem dX8_year_31 : decode cX8_year 31 = .ok (.ifCond .ne 5, 3) := by decide +kernel
theorem dX8_year_34 : decode cX8_year 34 = .ok (.iconst (-1), 1) := by decide +kernel
theorem dX8_year_35 : decode cX8_year 35 = .ok (.ireturn, 1) := by decide +kernel
theorem dX8_year_36 : decode cX8_year 36 = .ok (.aload_n 0, 1) := by decide +kernel
theorem dX8_year_37 : decode cX8_year 37 = .ok (.invokevirtual 188, 3) := by decide +kernel
theorem dX8_year_40 : decode cX8_year 40 = .ok (.iconst 0, 1) := by decide +kernel
theorem dX8_year_41 : decode cX8_year 41 = .ok (.istore 4, 2) := by decide +kernel
theorem dX8_year_43 : decode cX8_year 43 = .ok (.iload 4, 2) := by decide +kernel
theorem dX8_year_45 : decode cX8_year 45 = .ok (.iload_n 2, 1) := by decide +kernel
theorem dX8_year_46 : decode cX8_year 46 = .ok (.if_icmp .ge 60, 3) := by decide +kernel
theorem dX8_year_49 : decode cX8_year 49 = .ok (.ldc2_w 249, 3) := by decide +kernel
theorem dX8_year_52 : decode cX8_year 52 = .ok (.iload_n 1, 1) := by decide +kernel
theorem dX8_year_53 : decode cX8_year 53 = .ok (.i2l, 1) := by decide +kernel
theorem dX8_year_54 : decode cX8_year 54 = .ok (.lmul, 1) := by decide +kernel
theorem dX8_year_55 : decode cX8_year 55 = .ok (.ldc2_w 251, 3) := by decide +kernel
theorem dX8_year_58 : decode cX8_year 58 = .ok (.iload 4, 2) := by decide +kernel
theorem dX8_year_60 : decode cX8_year 60 = .ok (.i2l, 1) := by decide +kernel
theorem dX8_year_61 : decode cX8_year 61 = .ok (.lmul, 1) := by decide +kernel
theorem dX8_year_62 : decode cX8_year 62 = .ok (.ladd, 1) := by decide +kernel
theorem dX8_year_63 : decode cX8_year 63 = .ok (.lconst 1, 1) := by decide +kernel
theorem dX8_year_64 : decode cX8_year 64 = .ok (.ladd, 1) := by decide +kernel
theorem dX8_year_65 : decode cX8_year 65 = .ok (.lstore 5, 2) := by decide +kernel
theorem dX8_year_67 : decode cX8_year 67 = .ok (.aload_n 0, 1) := by decide +kernel
theorem dX8_year_68 : decode cX8_year 68 = .ok (.aload_n 0, 1) := by decide +kernel
theorem dX8_year_69 : decode cX8_year 69 = .ok (.getfield 136, 3) := by decide +kernel
theorem dX8_year_72 : decode cX8_year 72 = .ok (.aload_n 0, 1) := by decide +kernel
theorem dX8_year_73 : decode cX8_year 73 = .ok (.getfield 139, 3) := by decide +kernel
theorem dX8_year_76 : decode cX8_year 76 = .ok (.lload 5, 2) := by decide +kernel
theorem dX8_year_78 : decode cX8_year 78 = .ok (.lload 5, 2) := by decide +kernel
theorem dX8_year_80 : decode cX8_year 80 = .ok (.lmul, 1) := by decide +kernel
theorem dX8_year_81 : decode cX8_year 81 = .ok (.ldc2_w 253, 3) := by decide +kernel
theorem dX8_year_84 : decode cX8_year 84 = .ok (.lrem, 1) := by decide +kernel
theorem dX8_year_85 : decode cX8_year 85 = .ok (.ldc2_w 255, 3) := by decide +kernel
theorem dX8_year_88 : decode cX8_year 88 = .ok (.ldiv, 1) := by decide +kernel
theorem dX8_year_89 : decode cX8_year 89 = .ok (.aload_n 0, 1) := by decide +kernel
theorem dX8_year_90 : decode cX8_year 90 = .ok (.getfield 75, 3) := by decide +kernel
theorem dX8_year_93 : decode cX8_year 93 = .ok (.i2l, 1) := by decide +kernel
theorem dX8_year_94 : decode cX8_year 94 = .ok (.lrem, 1) := by decide +kernel
theorem dX8_year_95 : decode cX8_year 95 = .ok (.l2i, 1) := by decide +kernel
theorem dX8_year_96 : decode cX8_year 96 = .ok (.invokevirtual 185, 3) := by decide +kernel
theorem dX8_year_99 : decode cX8_year 99 = .ok (.pop, 1) := by decide +kernel
theorem dX8_year_100 : decode cX8_year 100 = .ok (.iinc 4 1, 3) := by decide +kernel
theorem dX8_year_103 : decode cX8_year 103 = .ok (.goto (-60), 3) := by decide +kernel
theorem dX8_year_106 : decode cX8_year 106 = .ok (.iload_n 3, 1) := by decide +kernel
theorem dX8_year_107 : decode cX8_year 107 = .ok (.ifCond .ne 21, 3) := by decide +kernel
theorem dX8_year_110 : decode cX8_year 110 = .ok (.aload_n 0, 1) := by decide +kernel
theorem dX8_year_111 : decode cX8_year 111 = .ok (.getfield 16, 3) := by decide +kernel
theorem dX8_year_114 : decode cX8_year 114 = .ok (.bipush 42, 2) := by decide +kernel
theorem dX8_year_116 : decode cX8_year 116 = .ok (.iaload, 1) := by decide +kernel
theorem dX8_year_117 : decode cX8_year 117 = .ok (.aload_n 0, 1) := by decide +kernel
theorem dX8_year_118 : decode cX8_year 118 = .ok (.getfield 34, 3) := by decide +kernel
theorem dX8_year_121 : decode cX8_year 121 = .ok (.bipush 42, 2) := by decide +kernel
theorem dX8_year_123 : decode cX8_year 123 = .ok (.iaload, 1) := by decide +kernel
theorem dX8_year_124 : decode cX8_year 124 = .ok (.isub, 1) := by decide +kernel
theorem dX8_year_125 : decode cX8_year 125 = .ok (.goto 18, 3) := by decide +kernel
theorem dX8_year_128 : decode cX8_year 128 = .ok (.aload_n 0, 1) := by decide +kernel
theorem dX8_year_129 : decode cX8_year 129 = .ok (.getfield 16, 3) := by decide +kernel
theorem dX8_year_132 : decode cX8_year 132 = .ok (.bipush 43, 2) := by decide +kernel
theorem dX8_year_134 : decode cX8_year 134 = .ok (.iaload, 1) := by decide +kernel
theorem dX8_year_135 : decode cX8_year 135 = .ok (.aload_n 0, 1) := by decide +kernel
theorem dX8_year_136 : decode cX8_year 136 = .ok (.getfield 34, 3) := by decide +kernel
theorem dX8_year_139 : decode cX8_year 139 = .ok (.bipush 43, 2) := by decide +kernel
theorem dX8_year_141 : decode cX8_year 141 = .ok (.iaload, 1) := by decide +kernel
theorem dX8_year_142 : decode cX8_year 142 = .ok (.isub, 1) := by decide +kernel
theorem dX8_year_143 : decode cX8_year 143 = .ok (.istore 4, 2) := by decide +kernel
theorem dX8_year_145 : decode cX8_year 145 = .ok (.aload_n 0, 1) := by decide +kernel
theorem dX8_year_146 : decode cX8_year 146 = .ok (.invokevirtual 194, 3) := by decide +kernel
theorem dX8_year_149 : decode cX8_year 149 = .ok (.iload 4, 2) := by decide +kernel
theorem dX8_year_151 : decode cX8_year 151 = .ok (.ireturn, 1) := by decide +kernel
theorem dX8_keep_0 : decode cX8_keep 0 = .ok (.aload_n 0, 1) := by decide +kernel
theorem dX8_keep_1 : decode cX8_keep 1 = .ok (.getfield 148, 3) := by decide +kernel
theorem dX8_keep_4 : decode cX8_keep 4 = .ok (.iconst 2, 1) := by decide +kernel
theorem dX8_keep_5 : decode cX8_keep 5 = .ok (.if_icmp .ne 6, 3) := by decide +kernel
theorem dX8_keep_8 : decode cX8_keep 8 = .ok (.bipush (-3), 2) := by decide +kernel
theorem dX8_keep_10 : decode cX8_keep 10 = .ok (.ireturn, 1) := by decide +kernel
theorem dX8_keep_11 : decode cX8_keep 11 = .ok (.iconst 0, 1) := by decide +kernel
theorem dX8_keep_12 : decode cX8_keep 12 = .ok (.istore_n 1, 1) := by decide +kernel
theorem dX8_keep_13 : decode cX8_keep 13 = .ok (.iload_n 1, 1) := by decide +kernel
theorem dX8_keep_14 : decode cX8_keep 14 = .ok (.bipush 50, 2) := by decide +kernel
theorem dX8_keep_16 : decode cX8_keep 16 = .ok (.if_icmp .ge 29, 3) := by decide +kernel
theorem dX8_keep_19 : decode cX8_keep 19 = .ok (.aload_n 0, 1) := by decide +kernel
theorem dX8_keep_20 : decode cX8_keep 20 = .ok (.getfield 64, 3) := by decide +kernel
theorem dX8_keep_23 : decode cX8_keep 23 = .ok (.bipush 50, 2) := by decide +kernel
theorem dX8_keep_25 : decode cX8_keep 25 = .ok (.aload_n 0, 1) := by decide +kernel
theorem dX8_keep_26 : decode cX8_keep 26 = .ok (.getfield 148, 3) := by decide +kernel
theorem dX8_keep_29 : decode cX8_keep 29 = .ok (.imul, 1) := by decide +kernel
theorem dX8_keep_30 : decode cX8_keep 30 = .ok (.iload_n 1, 1) := by decide +kernel
theorem dX8_keep_31 : decode cX8_keep 31 = .ok (.iadd, 1) := by decide +kernel
theorem dX8_keep_32 : decode cX8_keep 32 = .ok (.aload_n 0, 1) := by decide +kernel
theorem dX8_keep_33 : decode cX8_keep 33 = .ok (.getfield 16, 3) := by decide +kernel
theorem dX8_keep_36 : decode cX8_keep 36 = .ok (.iload_n 1, 1) := by decide +kernel
theorem dX8_keep_37 : decode cX8_keep 37 = .ok (.iaload, 1) := by decide +kernel
theorem dX8_keep_38 : decode cX8_keep 38 = .ok (.iastore, 1) := by decide +kernel
theorem dX8_keep_39 : decode cX8_keep 39 = .ok (.iinc 1 1, 3) := by decide +kernel
theorem dX8_keep_42 : decode cX8_keep 42 = .ok (.goto (-29), 3) := by decide +kernel
theorem dX8_keep_45 : decode cX8_keep 45 = .ok (.aload_n 0, 1) := by decide +kernel
theorem dX8_keep_46 : decode cX8_keep 46 = .ok (.dup, 1) := by decide +kernel
theorem dX8_keep_47 : decode cX8_keep 47 = .ok (.getfield 148, 3) := by decide +kernel
theorem dX8_keep_50 : decode cX8_keep 50 = .ok (.iconst 1, 1) := by decide +kernel
theorem dX8_keep_51 : decode cX8_keep 51 = .ok (.iadd, 1) := by decide +kernel
theorem dX8_keep_52 : decode cX8_keep 52 = .ok (.putfield 148, 3) := by decide +kernel
theorem dX8_keep_55 : decode cX8_keep 55 = .ok (.aload_n 0, 1) := by decide +kernel
theorem dX8_keep_56 : decode cX8_keep 56 = .ok (.getfield 148, 3) := by decide +kernel
theorem dX8_keep_59 : decode cX8_keep 59 = .ok (.ireturn, 1) := by decide +kernel
theorem dX8_back_0 : decode cX8_back 0 = .ok (.aload_n 0, 1) := by decide +kernel
theorem dX8_back_1 : decode cX8_back 1 = .ok (.getfield 148, 3) := by decide +kernel
theorem dX8_back_4 : decode cX8_back 4 = .ok (.ifCond .ne 6, 3) := by decide +kernel
theorem dX8_back_7 : decode cX8_back 7 = .ok (.bipush (-2), 2) := by decide +kernel
theorem dX8_back_9 : decode cX8_back 9 = .ok (.ireturn, 1) := by decide +kernel
theorem dX8_back_10 : decode cX8_back 10 = .ok (.aload_n 0, 1) := by decide +kernel
theorem dX8_back_11 : decode cX8_back 11 = .ok (.dup, 1) := by decide +kernel
theorem dX8_back_12 : decode cX8_back 12 = .ok (.getfield 148, 3) := by decide +kernel
theorem dX8_back_15 : decode cX8_back 15 = .ok (.iconst 1, 1) := by decide +kernel
theorem dX8_back_16 : decode cX8_back 16 = .ok (.isub, 1) := by decide +kernel
theorem dX8_back_17 : decode cX8_back 17 = .ok (.putfield 148, 3) := by decide +kernel
theorem dX8_back_20 : decode cX8_back 20 = .ok (.iconst 0, 1) := by decide +kernel
theorem dX8_back_21 : decode cX8_back 21 = .ok (.istore_n 1, 1) := by decide +kernel
theorem dX8_back_22 : decode cX8_back 22 = .ok (.iload_n 1, 1) := by decide +kernel
theorem dX8_back_23 : decode cX8_back 23 = .ok (.bipush 50, 2) := by decide +kernel
theorem dX8_back_25 : decode cX8_back 25 = .ok (.if_icmp .ge 29, 3) := by decide +kernel
theorem dX8_back_28 : decode cX8_back 28 = .ok (.aload_n 0, 1) := by decide +kernel
theorem dX8_back_29 : decode cX8_back 29 = .ok (.getfield 16, 3) := by decide +kernel
theorem dX8_back_32 : decode cX8_back 32 = .ok (.iload_n 1, 1) := by decide +kernel
theorem dX8_back_33 : decode cX8_back 33 = .ok (.aload_n 0, 1) := by decide +kernel
theorem dX8_back_34 : decode cX8_back 34 = .ok (.getfield 64, 3) := by decide +kernel
theorem dX8_back_37 : decode cX8_back 37 = .ok (.bipush 50, 2) := by decide +kernel
theorem dX8_back_39 : decode cX8_back 39 = .ok (.aload_n 0, 1) := by decide +kernel
theorem dX8_back_40 : decode cX8_back 40 = .ok (.getfield 148, 3) := by decide +kernel
theorem dX8_back_43 : decode cX8_back 43 = .ok (.imul, 1) := by decide +kernel
theorem dX8_back_44 : decode cX8_back 44 = .ok (.iload_n 1, 1) := by decide +kernel
theorem dX8_back_45 : decode cX8_back 45 = .ok (.iadd, 1) := by decide +kernel
theorem dX8_back_46 : decode cX8_back 46 = .ok (.iaload, 1) := by decide +kernel
theorem dX8_back_47 : decode cX8_back 47 = .ok (.iastore, 1) := by decide +kernel
theorem dX8_back_48 : decode cX8_back 48 = .ok (.iinc 1 1, 3) := by decide +kernel
theorem dX8_back_51 : decode cX8_back 51 = .ok (.goto (-29), 3) := by decide +kernel
theorem dX8_back_54 : decode cX8_back 54 = .ok (.aload_n 0, 1) := by decide +kernel
theorem dX8_back_55 : decode cX8_back 55 = .ok (.iconst 0, 1) := by decide +kernel
theorem dX8_back_56 : decode cX8_back 56 = .ok (.putfield 142, 3) := by decide +kernel
theorem dX8_back_59 : decode cX8_back 59 = .ok (.aload_n 0, 1) := by decide +kernel
theorem dX8_back_60 : decode cX8_back 60 = .ok (.getfield 148, 3) := by decide +kernel
theorem dX8_back_63 : decode cX8_back 63 = .ok (.ireturn, 1) := by decide +kernel
theorem dX8_count_0 : decode cX8_count 0 = .ok (.iload_n 1, 1) := by decide +kernel
theorem dX8_count_1 : decode cX8_count 1 = .ok (.tableswitch 135 0 11 #[63, 68, 73, 78, 83, 91, 99, 107, 115, 120, 125, 130], 63) := by decide +kernel
theorem dX8_count_64 : decode cX8_count 64 = .ok (.aload_n 0, 1) := by decide +kernel
theorem dX8_count_65 : decode cX8_count 65 = .ok (.getfield 75, 3) := by decide +kernel
theorem dX8_count_68 : decode cX8_count 68 = .ok (.ireturn, 1) := by decide +kernel
theorem dX8_count_69 : decode cX8_count 69 = .ok (.aload_n 0, 1) := by decide +kernel
theorem dX8_count_70 : decode cX8_count 70 = .ok (.getfield 136, 3) := by decide +kernel
theorem dX8_count_73 : decode cX8_count 73 = .ok (.ireturn, 1) := by decide +kernel
theorem dX8_count_74 : decode cX8_count 74 = .ok (.aload_n 0, 1) := by decide +kernel
theorem dX8_count_75 : decode cX8_count 75 = .ok (.getfield 139, 3) := by decide +kernel
theorem dX8_count_78 : decode cX8_count 78 = .ok (.ireturn, 1) := by decide +kernel
theorem dX8_count_79 : decode cX8_count 79 = .ok (.aload_n 0, 1) := by decide +kernel
theorem dX8_count_80 : decode cX8_count 80 = .ok (.getfield 71, 3) := by decide +kernel
theorem dX8_count_83 : decode cX8_count 83 = .ok (.ireturn, 1) := by decide +kernel
theorem dX8_count_84 : decode cX8_count 84 = .ok (.aload_n 0, 1) := by decide +kernel
theorem dX8_count_85 : decode cX8_count 85 = .ok (.getfield 16, 3) := by decide +kernel
theorem dX8_count_88 : decode cX8_count 88 = .ok (.bipush 40, 2) := by decide +kernel
theorem dX8_count_90 : decode cX8_count 90 = .ok (.iaload, 1) := by decide +kernel
theorem dX8_count_91 : decode cX8_count 91 = .ok (.ireturn, 1) := by decide +kernel
theorem dX8_count_92 : decode cX8_count 92 = .ok (.aload_n 0, 1) := by decide +kernel
theorem dX8_count_93 : decode cX8_count 93 = .ok (.getfield 16, 3) := by decide +kernel
theorem dX8_count_96 : decode cX8_count 96 = .ok (.bipush 41, 2) := by decide +kernel
theorem dX8_count_98 : decode cX8_count 98 = .ok (.iaload, 1) := by decide +kernel
theorem dX8_count_99 : decode cX8_count 99 = .ok (.ireturn, 1) := by decide +kernel
theorem dX8_count_100 : decode cX8_count 100 = .ok (.aload_n 0, 1) := by decide +kernel
theorem dX8_count_101 : decode cX8_count 101 = .ok (.getfield 16, 3) := by decide +kernel
theorem dX8_count_104 : decode cX8_count 104 = .ok (.bipush 42, 2) := by decide +kernel
theorem dX8_count_106 : decode cX8_count 106 = .ok (.iaload, 1) := by decide +kernel
theorem dX8_count_107 : decode cX8_count 107 = .ok (.ireturn, 1) := by decide +kernel
theorem dX8_count_108 : decode cX8_count 108 = .ok (.aload_n 0, 1) := by decide +kernel
theorem dX8_count_109 : decode cX8_count 109 = .ok (.getfield 16, 3) := by decide +kernel
theorem dX8_count_112 : decode cX8_count 112 = .ok (.bipush 43, 2) := by decide +kernel
theorem dX8_count_114 : decode cX8_count 114 = .ok (.iaload, 1) := by decide +kernel
theorem dX8_count_115 : decode cX8_count 115 = .ok (.ireturn, 1) := by decide +kernel
theorem dX8_count_116 : decode cX8_count 116 = .ok (.aload_n 0, 1) := by decide +kernel
theorem dX8_count_117 : decode cX8_count 117 = .ok (.getfield 145, 3) := by decide +kernel
theorem dX8_count_120 : decode cX8_count 120 = .ok (.ireturn, 1) := by decide +kernel
theorem dX8_count_121 : decode cX8_count 121 = .ok (.aload_n 0, 1) := by decide +kernel
theorem dX8_count_122 : decode cX8_count 122 = .ok (.getfield 142, 3) := by decide +kernel
theorem dX8_count_125 : decode cX8_count 125 = .ok (.ireturn, 1) := by decide +kernel
theorem dX8_count_126 : decode cX8_count 126 = .ok (.aload_n 0, 1) := by decide +kernel
theorem dX8_count_127 : decode cX8_count 127 = .ok (.getfield 148, 3) := by decide +kernel
theorem dX8_count_130 : decode cX8_count 130 = .ok (.ireturn, 1) := by decide +kernel
theorem dX8_count_131 : decode cX8_count 131 = .ok (.aload_n 0, 1) := by decide +kernel
theorem dX8_count_132 : decode cX8_count 132 = .ok (.getfield 88, 3) := by decide +kernel
theorem dX8_count_135 : decode cX8_count 135 = .ok (.ireturn, 1) := by decide +kernel
theorem dX8_count_136 : decode cX8_count 136 = .ok (.iconst (-1), 1) := by decide +kernel
theorem dX8_count_137 : decode cX8_count 137 = .ok (.ireturn, 1) := by decide +kernel
theorem dJ6_bitCount_0f7a4_0 : decode cJ6_bitCount_0f7a4 0 = .ok (.iload_n 0, 1) := by decide +kernel
theorem dJ6_bitCount_0f7a4_1 : decode cJ6_bitCount_0f7a4 1 = .ok (.iload_n 0, 1) := by decide +kernel
theorem dJ6_bitCount_0f7a4_2 : decode cJ6_bitCount_0f7a4 2 = .ok (.iconst 1, 1) := by decide +kernel
theorem dJ6_bitCount_0f7a4_3 : decode cJ6_bitCount_0f7a4 3 = .ok (.iushr, 1) := by decide +kernel
theorem dJ6_bitCount_0f7a4_4 : decode cJ6_bitCount_0f7a4 4 = .ok (.ldc_w 265, 3) := by decide +kernel
theorem dJ6_bitCount_0f7a4_7 : decode cJ6_bitCount_0f7a4 7 = .ok (.iand, 1) := by decide +kernel
theorem dJ6_bitCount_0f7a4_8 : decode cJ6_bitCount_0f7a4 8 = .ok (.isub, 1) := by decide +kernel
theorem dJ6_bitCount_0f7a4_9 : decode cJ6_bitCount_0f7a4 9 = .ok (.istore_n 0, 1) := by decide +kernel
theorem dJ6_bitCount_0f7a4_10 : decode cJ6_bitCount_0f7a4 10 = .ok (.iload_n 0, 1) := by decide +kernel
theorem dJ6_bitCount_0f7a4_11 : decode cJ6_bitCount_0f7a4 11 = .ok (.ldc_w 266, 3) := by decide +kernel
theorem dJ6_bitCount_0f7a4_14 : decode cJ6_bitCount_0f7a4 14 = .ok (.iand, 1) := by decide +kernel
theorem dJ6_bitCount_0f7a4_15 : decode cJ6_bitCount_0f7a4 15 = .ok (.iload_n 0, 1) := by decide +kernel
theorem dJ6_bitCount_0f7a4_16 : decode cJ6_bitCount_0f7a4 16 = .ok (.iconst 2, 1) := by decide +kernel
theorem dJ6_bitCount_0f7a4_17 : decode cJ6_bitCount_0f7a4 17 = .ok (.iushr, 1) := by decide +kernel
theorem dJ6_bitCount_0f7a4_18 : decode cJ6_bitCount_0f7a4 18 = .ok (.ldc_w 266, 3) := by decide +kernel
theorem dJ6_bitCount_0f7a4_21 : decode cJ6_bitCount_0f7a4 21 = .ok (.iand, 1) := by decide +kernel
theorem dJ6_bitCount_0f7a4_22 : decode cJ6_bitCount_0f7a4 22 = .ok (.iadd, 1) := by decide +kernel
theorem dJ6_bitCount_0f7a4_23 : decode cJ6_bitCount_0f7a4 23 = .ok (.istore_n 0, 1) := by decide +kernel
theorem dJ6_bitCount_0f7a4_24 : decode cJ6_bitCount_0f7a4 24 = .ok (.iload_n 0, 1) := by decide +kernel
theorem dJ6_bitCount_0f7a4_25 : decode cJ6_bitCount_0f7a4 25 = .ok (.iload_n 0, 1) := by decide +kernel
theorem dJ6_bitCount_0f7a4_26 : decode cJ6_bitCount_0f7a4 26 = .ok (.iconst 4, 1) := by decide +kernel
theorem dJ6_bitCount_0f7a4_27 : decode cJ6_bitCount_0f7a4 27 = .ok (.iushr, 1) := by decide +kernel
theorem dJ6_bitCount_0f7a4_28 : decode cJ6_bitCount_0f7a4 28 = .ok (.iadd, 1) := by decide +kernel
theorem dJ6_bitCount_0f7a4_29 : decode cJ6_bitCount_0f7a4 29 = .ok (.ldc_w 267, 3) := by decide +kernel
theorem dJ6_bitCount_0f7a4_32 : decode cJ6_bitCount_0f7a4 32 = .ok (.iand, 1) := by decide +kernel
theorem dJ6_bitCount_0f7a4_33 : decode cJ6_bitCount_0f7a4 33 = .ok (.istore_n 0, 1) := by decide +kernel
theorem dJ6_bitCount_0f7a4_34 : decode cJ6_bitCount_0f7a4 34 = .ok (.iload_n 0, 1) := by decide +kernel
theorem dJ6_bitCount_0f7a4_35 : decode cJ6_bitCount_0f7a4 35 = .ok (.iload_n 0, 1) := by decide +kernel
theorem dJ6_bitCount_0f7a4_36 : decode cJ6_bitCount_0f7a4 36 = .ok (.bipush 8, 2) := by decide +kernel
theorem dJ6_bitCount_0f7a4_38 : decode cJ6_bitCount_0f7a4 38 = .ok (.iushr, 1) := by decide +kernel
theorem dJ6_bitCount_0f7a4_39 : decode cJ6_bitCount_0f7a4 39 = .ok (.iadd, 1) := by decide +kernel
theorem dJ6_bitCount_0f7a4_40 : decode cJ6_bitCount_0f7a4 40 = .ok (.istore_n 0, 1) := by decide +kernel
theorem dJ6_bitCount_0f7a4_41 : decode cJ6_bitCount_0f7a4 41 = .ok (.iload_n 0, 1) := by decide +kernel
theorem dJ6_bitCount_0f7a4_42 : decode cJ6_bitCount_0f7a4 42 = .ok (.iload_n 0, 1) := by decide +kernel
theorem dJ6_bitCount_0f7a4_43 : decode cJ6_bitCount_0f7a4 43 = .ok (.bipush 16, 2) := by decide +kernel
theorem dJ6_bitCount_0f7a4_45 : decode cJ6_bitCount_0f7a4 45 = .ok (.iushr, 1) := by decide +kernel
theorem dJ6_bitCount_0f7a4_46 : decode cJ6_bitCount_0f7a4 46 = .ok (.iadd, 1) := by decide +kernel
theorem dJ6_bitCount_0f7a4_47 : decode cJ6_bitCount_0f7a4 47 = .ok (.istore_n 0, 1) := by decide +kernel
theorem dJ6_bitCount_0f7a4_48 : decode cJ6_bitCount_0f7a4 48 = .ok (.iload_n 0, 1) := by decide +kernel
theorem dJ6_bitCount_0f7a4_49 : decode cJ6_bitCount_0f7a4 49 = .ok (.bipush 63, 2) := by decide +kernel
theorem dJ6_bitCount_0f7a4_51 : decode cJ6_bitCount_0f7a4 51 = .ok (.iand, 1) := by decide +kernel
theorem dJ6_bitCount_0f7a4_52 : decode cJ6_bitCount_0f7a4 52 = .ok (.ireturn, 1) := by decide +kernel
theorem dJ9_max_7cf53_0 : decode cJ9_max_7cf53 0 = .ok (.iload_n 0, 1) := by decide +kernel
theorem dJ9_max_7cf53_1 : decode cJ9_max_7cf53 1 = .ok (.iload_n 1, 1) := by decide +kernel
theorem dJ9_max_7cf53_2 : decode cJ9_max_7cf53 2 = .ok (.if_icmp .lt 7, 3) := by decide +kernel
theorem dJ9_max_7cf53_5 : decode cJ9_max_7cf53 5 = .ok (.iload_n 0, 1) := by decide +kernel
theorem dJ9_max_7cf53_6 : decode cJ9_max_7cf53 6 = .ok (.goto 4, 3) := by decide +kernel
theorem dJ9_max_7cf53_9 : decode cJ9_max_7cf53 9 = .ok (.iload_n 1, 1) := by decide +kernel
theorem dJ9_max_7cf53_10 : decode cJ9_max_7cf53 10 = .ok (.ireturn, 1) := by decide +kernel
theorem dJ9_min_7cf53_0 : decode cJ9_min_7cf53 0 = .ok (.iload_n 0, 1) := by decide +kernel
theorem dJ9_min_7cf53_1 : decode cJ9_min_7cf53 1 = .ok (.iload_n 1, 1) := by decide +kernel
theorem dJ9_min_7cf53_2 : decode cJ9_min_7cf53 2 = .ok (.if_icmp .gt 7, 3) := by decide +kernel
theorem dJ9_min_7cf53_5 : decode cJ9_min_7cf53 5 = .ok (.iload_n 0, 1) := by decide +kernel
theorem dJ9_min_7cf53_6 : decode cJ9_min_7cf53 6 = .ok (.goto 4, 3) := by decide +kernel
theorem dJ9_min_7cf53_9 : decode cJ9_min_7cf53 9 = .ok (.iload_n 1, 1) := by decide +kernel
theorem dJ9_min_7cf53_10 : decode cJ9_min_7cf53 10 = .ok (.ireturn, 1) := by decide +kernel
theorem dJ0_length_8abf5_0 : decode cJ0_length_8abf5 0 = .ok (.aload_n 0, 1) := by decide +kernel
theorem dJ0_length_8abf5_1 : decode cJ0_length_8abf5 1 = .ok (.getfield 9, 3) := by decide +kernel
theorem dJ0_length_8abf5_4 : decode cJ0_length_8abf5 4 = .ok (.arraylength, 1) := by decide +kernel
theorem dJ0_length_8abf5_5 : decode cJ0_length_8abf5 5 = .ok (.aload_n 0, 1) := by decide +kernel
theorem dJ0_length_8abf5_6 : decode cJ0_length_8abf5 6 = .ok (.invokevirtual 335, 3) := by decide +kernel
theorem dJ0_length_8abf5_9 : decode cJ0_length_8abf5 9 = .ok (.ishr, 1) := by decide +kernel
theorem dJ0_length_8abf5_10 : decode cJ0_length_8abf5 10 = .ok (.ireturn, 1) := by decide +kernel
theorem dJ0_charAt_5068e_0 : decode cJ0_charAt_5068e 0 = .ok (.aload_n 0, 1) := by decide +kernel
theorem dJ0_charAt_5068e_1 : decode cJ0_charAt_5068e 1 = .ok (.invokevirtual 492, 3) := by decide +kernel
theorem dJ0_charAt_5068e_4 : decode cJ0_charAt_5068e 4 = .ok (.ifCond .eq 12, 3) := by decide +kernel
theorem dJ0_charAt_5068e_7 : decode cJ0_charAt_5068e 7 = .ok (.aload_n 0, 1) := by decide +kernel
theorem dJ0_charAt_5068e_8 : decode cJ0_charAt_5068e 8 = .ok (.getfield 9, 3) := by decide +kernel
theorem dJ0_charAt_5068e_11 : decode cJ0_charAt_5068e 11 = .ok (.iload_n 1, 1) := by decide +kernel
theorem dJ0_charAt_5068e_12 : decode cJ0_charAt_5068e 12 = .ok (.invokestatic 495, 3) := by decide +kernel
theorem dJ0_charAt_5068e_15 : decode cJ0_charAt_5068e 15 = .ok (.ireturn, 1) := by decide +kernel
theorem dJ0_charAt_5068e_16 : decode cJ0_charAt_5068e 16 = .ok (.aload_n 0, 1) := by decide +kernel
theorem dJ0_charAt_5068e_17 : decode cJ0_charAt_5068e 17 = .ok (.getfield 9, 3) := by decide +kernel
theorem dJ0_charAt_5068e_20 : decode cJ0_charAt_5068e 20 = .ok (.iload_n 1, 1) := by decide +kernel
theorem dJ0_charAt_5068e_21 : decode cJ0_charAt_5068e 21 = .ok (.invokestatic 498, 3) := by decide +kernel
theorem dJ0_charAt_5068e_24 : decode cJ0_charAt_5068e 24 = .ok (.ireturn, 1) := by decide +kernel
theorem dJ0_coder_7d493_0 : decode cJ0_coder_7d493 0 = .ok (.getstatic 38, 3) := by decide +kernel
theorem dJ0_coder_7d493_3 : decode cJ0_coder_7d493 3 = .ok (.ifCond .eq 10, 3) := by decide +kernel
theorem dJ0_coder_7d493_6 : decode cJ0_coder_7d493 6 = .ok (.aload_n 0, 1) := by decide +kernel
theorem dJ0_coder_7d493_7 : decode cJ0_coder_7d493 7 = .ok (.getfield 15, 3) := by decide +kernel
theorem dJ0_coder_7d493_10 : decode cJ0_coder_7d493 10 = .ok (.goto 4, 3) := by decide +kernel
theorem dJ0_coder_7d493_13 : decode cJ0_coder_7d493 13 = .ok (.iconst 1, 1) := by decide +kernel
theorem dJ0_coder_7d493_14 : decode cJ0_coder_7d493 14 = .ok (.ireturn, 1) := by decide +kernel
theorem dJ0_isLatin1_aae02_0 : decode cJ0_isLatin1_aae02 0 = .ok (.getstatic 38, 3) := by decide +kernel
theorem dJ0_isLatin1_aae02_3 : decode cJ0_isLatin1_aae02 3 = .ok (.ifCond .eq 14, 3) := by decide +kernel
theorem dJ0_isLatin1_aae02_6 : decode cJ0_isLatin1_aae02 6 = .ok (.aload_n 0, 1) := by decide +kernel
theorem dJ0_isLatin1_aae02_7 : decode cJ0_isLatin1_aae02 7 = .ok (.getfield 15, 3) := by decide +kernel
theorem dJ0_isLatin1_aae02_10 : decode cJ0_isLatin1_aae02 10 = .ok (.ifCond .ne 7, 3) := by decide +kernel
theorem dJ0_isLatin1_aae02_13 : decode cJ0_isLatin1_aae02 13 = .ok (.iconst 1, 1) := by decide +kernel
theorem dJ0_isLatin1_aae02_14 : decode cJ0_isLatin1_aae02 14 = .ok (.goto 4, 3) := by decide +kernel
theorem dJ0_isLatin1_aae02_17 : decode cJ0_isLatin1_aae02 17 = .ok (.iconst 0, 1) := by decide +kernel
theorem dJ0_isLatin1_aae02_18 : decode cJ0_isLatin1_aae02 18 = .ok (.ireturn, 1) := by decide +kernel
theorem dJ0_checkIndex_df160_0 : decode cJ0_checkIndex_df160 0 = .ok (.iload_n 0, 1) := by decide +kernel
theorem dJ0_checkIndex_df160_1 : decode cJ0_checkIndex_df160 1 = .ok (.iload_n 1, 1) := by decide +kernel
theorem dJ0_checkIndex_df160_2 : decode cJ0_checkIndex_df160 2 = .ok (.getstatic 1053, 3) := by decide +kernel
theorem dJ0_checkIndex_df160_5 : decode cJ0_checkIndex_df160 5 = .ok (.invokestatic 1059, 3) := by decide +kernel
theorem dJ0_checkIndex_df160_8 : decode cJ0_checkIndex_df160 8 = .ok (.pop, 1) := by decide +kernel
theorem dJ0_checkIndex_df160_9 : decode cJ0_checkIndex_df160 9 = .ok (.return_, 1) := by decide +kernel
theorem dJ1_charAt_3b067_0 : decode cJ1_charAt_3b067 0 = .ok (.iload_n 1, 1) := by decide +kernel
theorem dJ1_charAt_3b067_1 : decode cJ1_charAt_3b067 1 = .ok (.aload_n 0, 1) := by decide +kernel
theorem dJ1_charAt_3b067_2 : decode cJ1_charAt_3b067 2 = .ok (.arraylength, 1) := by decide +kernel
theorem dJ1_charAt_3b067_3 : decode cJ1_charAt_3b067 3 = .ok (.invokestatic 9, 3) := by decide +kernel
theorem dJ1_charAt_3b067_6 : decode cJ1_charAt_3b067 6 = .ok (.aload_n 0, 1) := by decide +kernel
theorem dJ1_charAt_3b067_7 : decode cJ1_charAt_3b067 7 = .ok (.iload_n 1, 1) := by decide +kernel
theorem dJ1_charAt_3b067_8 : decode cJ1_charAt_3b067 8 = .ok (.baload, 1) := by decide +kernel
theorem dJ1_charAt_3b067_9 : decode cJ1_charAt_3b067 9 = .ok (.sipush 255, 3) := by decide +kernel
theorem dJ1_charAt_3b067_12 : decode cJ1_charAt_3b067 12 = .ok (.iand, 1) := by decide +kernel
theorem dJ1_charAt_3b067_13 : decode cJ1_charAt_3b067 13 = .ok (.i2c, 1) := by decide +kernel
theorem dJ1_charAt_3b067_14 : decode cJ1_charAt_3b067 14 = .ok (.ireturn, 1) := by decide +kernel
theorem dJ2_getChar_3b067_0 : decode cJ2_getChar_3b067 0 = .ok (.getstatic 44, 3) := by decide +kernel
theorem dJ2_getChar_3b067_3 : decode cJ2_getChar_3b067 3 = .ok (.ifCond .ne 25, 3) := by decide +kernel
theorem dJ2_getChar_3b067_6 : decode cJ2_getChar_3b067 6 = .ok (.iload_n 1, 1) := by decide +kernel
theorem dJ2_getChar_3b067_7 : decode cJ2_getChar_3b067 7 = .ok (.ifCond .lt 11, 3) := by decide +kernel
theorem dJ2_getChar_3b067_10 : decode cJ2_getChar_3b067 10 = .ok (.iload_n 1, 1) := by decide +kernel
theorem dJ2_getChar_3b067_11 : decode cJ2_getChar_3b067 11 = .ok (.aload_n 0, 1) := by decide +kernel
theorem dJ2_getChar_3b067_12 : decode cJ2_getChar_3b067 12 = .ok (.invokestatic 48, 3) := by decide +kernel
theorem dJ2_getChar_3b067_15 : decode cJ2_getChar_3b067 15 = .ok (.if_icmp .lt 13, 3) := by decide +kernel
theorem dJ2_getChar_3b067_18 : decode cJ2_getChar_3b067 18 = .ok (.new 52, 3) := by decide +kernel
theorem dJ2_getChar_3b067_21 : decode cJ2_getChar_3b067 21 = .ok (.dup, 1) := by decide +kernel
theorem dJ2_getChar_3b067_22 : decode cJ2_getChar_3b067 22 = .ok (.ldc 54, 2) := by decide +kernel
theorem dJ2_getChar_3b067_24 : decode cJ2_getChar_3b067 24 = .ok (.invokespecial 56, 3) := by decide +kernel
theorem dJ2_getChar_3b067_27 : decode cJ2_getChar_3b067 27 = .ok (.athrow, 1) := by decide +kernel
theorem dJ2_getChar_3b067_28 : decode cJ2_getChar_3b067 28 = .ok (.iload_n 1, 1) := by decide +kernel
theorem dJ2_getChar_3b067_29 : decode cJ2_getChar_3b067 29 = .ok (.iconst 1, 1) := by decide +kernel
theorem dJ2_getChar_3b067_30 : decode cJ2_getChar_3b067 30 = .ok (.ishl, 1) := by decide +kernel
theorem dJ2_getChar_3b067_31 : decode cJ2_getChar_3b067 31 = .ok (.istore_n 1, 1) := by decide +kernel
theorem dJ2_getChar_3b067_32 : decode cJ2_getChar_3b067 32 = .ok (.aload_n 0, 1) := by decide +kernel
theorem dJ2_getChar_3b067_33 : decode cJ2_getChar_3b067 33 = .ok (.iload_n 1, 1) := by decide +kernel
theorem dJ2_getChar_3b067_34 : decode cJ2_getChar_3b067 34 = .ok (.iinc 1 1, 3) := by decide +kernel
theorem dJ2_getChar_3b067_37 : decode cJ2_getChar_3b067 37 = .ok (.baload, 1) := by decide +kernel
theorem dJ2_getChar_3b067_38 : decode cJ2_getChar_3b067 38 = .ok (.sipush 255, 3) := by decide +kernel
theorem dJ2_getChar_3b067_41 : decode cJ2_getChar_3b067 41 = .ok (.iand, 1) := by decide +kernel
theorem dJ2_getChar_3b067_42 : decode cJ2_getChar_3b067 42 = .ok (.getstatic 59, 3) := by decide +kernel
theorem dJ2_getChar_3b067_45 : decode cJ2_getChar_3b067 45 = .ok (.ishl, 1) := by decide +kernel
theorem dJ2_getChar_3b067_46 : decode cJ2_getChar_3b067 46 = .ok (.aload_n 0, 1) := by decide +kernel
theorem dJ2_getChar_3b067_47 : decode cJ2_getChar_3b067 47 = .ok (.iload_n 1, 1) := by decide +kernel
theorem dJ2_getChar_3b067_48 : decode cJ2_getChar_3b067 48 = .ok (.baload, 1) := by decide +kernel
theorem dJ2_getChar_3b067_49 : decode cJ2_getChar_3b067 49 = .ok (.sipush 255, 3) := by decide +kernel
theorem dJ2_getChar_3b067_52 : decode cJ2_getChar_3b067 52 = .ok (.iand, 1) := by decide +kernel
theorem dJ2_getChar_3b067_53 : decode cJ2_getChar_3b067 53 = .ok (.getstatic 63, 3) := by decide +kernel
theorem dJ2_getChar_3b067_56 : decode cJ2_getChar_3b067 56 = .ok (.ishl, 1) := by decide +kernel
theorem dJ2_getChar_3b067_57 : decode cJ2_getChar_3b067 57 = .ok (.ior, 1) := by decide +kernel
theorem dJ2_getChar_3b067_58 : decode cJ2_getChar_3b067 58 = .ok (.i2c, 1) := by decide +kernel
theorem dJ2_getChar_3b067_59 : decode cJ2_getChar_3b067 59 = .ok (.ireturn, 1) := by decide +kernel
theorem dJ2_length_9d52b_0 : decode cJ2_length_9d52b 0 = .ok (.aload_n 0, 1) := by decide +kernel
theorem dJ2_length_9d52b_1 : decode cJ2_length_9d52b 1 = .ok (.arraylength, 1) := by decide +kernel
theorem dJ2_length_9d52b_2 : decode cJ2_length_9d52b 2 = .ok (.iconst 1, 1) := by decide +kernel
theorem dJ2_length_9d52b_3 : decode cJ2_length_9d52b 3 = .ok (.ishr, 1) := by decide +kernel
theorem dJ2_length_9d52b_4 : decode cJ2_length_9d52b 4 = .ok (.ireturn, 1) := by decide +kernel
theorem dJ2_charAt_3b067_0 : decode cJ2_charAt_3b067 0 = .ok (.iload_n 1, 1) := by decide +kernel
theorem dJ2_charAt_3b067_1 : decode cJ2_charAt_3b067 1 = .ok (.aload_n 0, 1) := by decide +kernel
theorem dJ2_charAt_3b067_2 : decode cJ2_charAt_3b067 2 = .ok (.invokestatic 67, 3) := by decide +kernel
theorem dJ2_charAt_3b067_5 : decode cJ2_charAt_3b067 5 = .ok (.aload_n 0, 1) := by decide +kernel
theorem dJ2_charAt_3b067_6 : decode cJ2_charAt_3b067 6 = .ok (.iload_n 1, 1) := by decide +kernel
theorem dJ2_charAt_3b067_7 : decode cJ2_charAt_3b067 7 = .ok (.invokestatic 71, 3) := by decide +kernel
theorem dJ2_charAt_3b067_10 : decode cJ2_charAt_3b067 10 = .ok (.ireturn, 1) := by decide +kernel
theorem dJ2_checkIndex_2214a_0 : decode cJ2_checkIndex_2214a 0 = .ok (.iload_n 0, 1) := by decide +kernel
theorem dJ2_checkIndex_2214a_1 : decode cJ2_checkIndex_2214a 1 = .ok (.aload_n 1, 1) := by decide +kernel
theorem dJ2_checkIndex_2214a_2 : decode cJ2_checkIndex_2214a 2 = .ok (.invokestatic 48, 3) := by decide +kernel
theorem dJ2_checkIndex_2214a_5 : decode cJ2_checkIndex_2214a 5 = .ok (.invokestatic 414, 3) := by decide +kernel
theorem dJ2_checkIndex_2214a_8 : decode cJ2_checkIndex_2214a 8 = .ok (.return_, 1) := by decide +kernel
theorem dJ3_checkIndex_8e157_0 : decode cJ3_checkIndex_8e157 0 = .ok (.iload_n 0, 1) := by decide +kernel
theorem dJ3_checkIndex_8e157_1 : decode cJ3_checkIndex_8e157 1 = .ok (.ifCond .lt 8, 3) := by decide +kernel
theorem dJ3_checkIndex_8e157_4 : decode cJ3_checkIndex_8e157 4 = .ok (.iload_n 0, 1) := by decide +kernel
theorem dJ3_checkIndex_8e157_5 : decode cJ3_checkIndex_8e157 5 = .ok (.iload_n 1, 1) := by decide +kernel
theorem dJ3_checkIndex_8e157_6 : decode cJ3_checkIndex_8e157 6 = .ok (.if_icmp .lt 10, 3) := by decide +kernel
theorem dJ3_checkIndex_8e157_9 : decode cJ3_checkIndex_8e157 9 = .ok (.aload_n 2, 1) := by decide +kernel
theorem dJ3_checkIndex_8e157_10 : decode cJ3_checkIndex_8e157 10 = .ok (.iload_n 0, 1) := by decide +kernel
theorem dJ3_checkIndex_8e157_11 : decode cJ3_checkIndex_8e157 11 = .ok (.iload_n 1, 1) := by decide +kernel
theorem dJ3_checkIndex_8e157_12 : decode cJ3_checkIndex_8e157 12 = .ok (.invokestatic 95, 3) := by decide +kernel
theorem dJ3_checkIndex_8e157_15 : decode cJ3_checkIndex_8e157 15 = .ok (.athrow, 1) := by decide +kernel
theorem dJ3_checkIndex_8e157_16 : decode cJ3_checkIndex_8e157 16 = .ok (.iload_n 0, 1) := by decide +kernel
theorem dJ3_checkIndex_8e157_17 : decode cJ3_checkIndex_8e157 17 = .ok (.ireturn, 1) := by decide +kernel
theorem dL_law_0 : decode cL_law 0 = .ok (.new 7, 3) := by decide +kernel
theorem dL_law_3 : decode cL_law 3 = .ok (.dup, 1) := by decide +kernel
theorem dL_law_4 : decode cL_law 4 = .ok (.invokespecial 9, 3) := by decide +kernel
theorem dL_law_7 : decode cL_law 7 = .ok (.astore_n 1, 1) := by decide +kernel
theorem dL_law_8 : decode cL_law 8 = .ok (.new 10, 3) := by decide +kernel
theorem dL_law_11 : decode cL_law 11 = .ok (.dup, 1) := by decide +kernel
theorem dL_law_12 : decode cL_law 12 = .ok (.invokespecial 12, 3) := by decide +kernel
theorem dL_law_15 : decode cL_law 15 = .ok (.astore_n 2, 1) := by decide +kernel
theorem dL_law_16 : decode cL_law 16 = .ok (.iconst 0, 1) := by decide +kernel
theorem dL_law_17 : decode cL_law 17 = .ok (.istore_n 3, 1) := by decide +kernel
theorem dL_law_18 : decode cL_law 18 = .ok (.iload_n 3, 1) := by decide +kernel
theorem dL_law_19 : decode cL_law 19 = .ok (.aload_n 0, 1) := by decide +kernel
theorem dL_law_20 : decode cL_law 20 = .ok (.arraylength, 1) := by decide +kernel
theorem dL_law_21 : decode cL_law 21 = .ok (.iconst 4, 1) := by decide +kernel
theorem dL_law_22 : decode cL_law 22 = .ok (.isub, 1) := by decide +kernel
theorem dL_law_23 : decode cL_law 23 = .ok (.if_icmp .gt 904, 3) := by decide +kernel
theorem dL_law_26 : decode cL_law 26 = .ok (.aload_n 0, 1) := by decide +kernel
theorem dL_law_27 : decode cL_law 27 = .ok (.iload_n 3, 1) := by decide +kernel
theorem dL_law_28 : decode cL_law 28 = .ok (.iaload, 1) := by decide +kernel
theorem dL_law_29 : decode cL_law 29 = .ok (.bipush 31, 2) := by decide +kernel
theorem dL_law_31 : decode cL_law 31 = .ok (.iand, 1) := by decide +kernel
theorem dL_law_32 : decode cL_law 32 = .ok (.tableswitch 889 0 30 #[140, 163, 176, 189, 202, 235, 258, 281, 314, 347, 370, 403, 416, 439, 452, 495, 508, 531, 554, 587, 600, 613, 636, 659, 682, 741, 764, 797, 840, 853, 866], 140) := by decide +kernel
theorem dL_law_172 : decode cL_law 172 = .ok (.aload_n 1, 1) := by decide +kernel
theorem dL_law_173 : decode cL_law 173 = .ok (.aload_n 0, 1) := by decide +kernel
theorem dL_law_174 : decode cL_law 174 = .ok (.iload_n 3, 1) := by decide +kernel
theorem dL_law_175 : decode cL_law 175 = .ok (.iconst 1, 1) := by decide +kernel
theorem dL_law_176 : decode cL_law 176 = .ok (.iadd, 1) := by decide +kernel
theorem dL_law_177 : decode cL_law 177 = .ok (.iaload, 1) := by decide +kernel
theorem dL_law_178 : decode cL_law 178 = .ok (.invokevirtual 13, 3) := by decide +kernel
theorem dL_law_181 : decode cL_law 181 = .ok (.aload_n 2, 1) := by decide +kernel
theorem dL_law_182 : decode cL_law 182 = .ok (.aload_n 0, 1) := by decide +kernel
theorem dL_law_183 : decode cL_law 183 = .ok (.iload_n 3, 1) := by decide +kernel
theorem dL_law_184 : decode cL_law 184 = .ok (.iconst 1, 1) := by decide +kernel
theorem dL_law_185 : decode cL_law 185 = .ok (.iadd, 1) := by decide +kernel
theorem dL_law_186 : decode cL_law 186 = .ok (.iaload, 1) := by decide +kernel
theorem dL_law_187 : decode cL_law 187 = .ok (.invokevirtual 17, 3) := by decide +kernel
theorem dL_law_190 : decode cL_law 190 = .ok (.if_icmp .eq 731, 3) := by decide +kernel
theorem dL_law_193 : decode cL_law 193 = .ok (.iconst 0, 1) := by decide +kernel
theorem dL_law_194 : decode cL_law 194 = .ok (.ireturn, 1) := by decide +kernel
theorem dL_law_195 : decode cL_law 195 = .ok (.aload_n 1, 1) := by decide +kernel
theorem dL_law_196 : decode cL_law 196 = .ok (.invokevirtual 18, 3) := by decide +kernel
theorem dL_law_199 : decode cL_law 199 = .ok (.aload_n 2, 1) := by decide +kernel
theorem dL_law_200 : decode cL_law 200 = .ok (.invokevirtual 22, 3) := by decide +kernel
theorem dL_law_203 : decode cL_law 203 = .ok (.if_icmp .eq 718, 3) := by decide +kernel
theorem dL_law_206 : decode cL_law 206 = .ok (.iconst 0, 1) := by decide +kernel
theorem dL_law_207 : decode cL_law 207 = .ok (.ireturn, 1) := by decide +kernel
theorem dL_law_208 : decode cL_law 208 = .ok (.aload_n 1, 1) := by decide +kernel
theorem dL_law_209 : decode cL_law 209 = .ok (.invokevirtual 23, 3) := by decide +kernel
theorem dL_law_212 : decode cL_law 212 = .ok (.aload_n 2, 1) := by decide +kernel
theorem dL_law_213 : decode cL_law 213 = .ok (.invokevirtual 26, 3) := by decide +kernel
theorem dL_law_216 : decode cL_law 216 = .ok (.if_icmp .eq 705, 3) := by decide +kernel
theorem dL_law_219 : decode cL_law 219 = .ok (.iconst 0, 1) := by decide +kernel
theorem dL_law_220 : decode cL_law 220 = .ok (.ireturn, 1) := by decide +kernel
theorem dL_law_221 : decode cL_law 221 = .ok (.aload_n 1, 1) := by decide +kernel
theorem dL_law_222 : decode cL_law 222 = .ok (.invokevirtual 27, 3) := by decide +kernel
theorem dL_law_225 : decode cL_law 225 = .ok (.aload_n 2, 1) := by decide +kernel
theorem dL_law_226 : decode cL_law 226 = .ok (.invokevirtual 30, 3) := by decide +kernel
theorem dL_law_229 : decode cL_law 229 = .ok (.if_icmp .eq 692, 3) := by decide +kernel
theorem dL_law_232 : decode cL_law 232 = .ok (.iconst 0, 1) := by decide +kernel
theorem dL_law_233 : decode cL_law 233 = .ok (.ireturn, 1) := by decide +kernel
theorem dL_law_234 : decode cL_law 234 = .ok (.aload_n 1, 1) := by decide +kernel
theorem dL_law_235 : decode cL_law 235 = .ok (.aload_n 0, 1) := by decide +kernel
theorem dL_law_236 : decode cL_law 236 = .ok (.iload_n 3, 1) := by decide +kernel
theorem dL_law_237 : decode cL_law 237 = .ok (.iconst 1, 1) := by decide +kernel
theorem dL_law_238 : decode cL_law 238 = .ok (.iadd, 1) := by decide +kernel
theorem dL_law_239 : decode cL_law 239 = .ok (.iaload, 1) := by decide +kernel
theorem dL_law_240 : decode cL_law 240 = .ok (.aload_n 0, 1) := by decide +kernel
theorem dL_law_241 : decode cL_law 241 = .ok (.iload_n 3, 1) := by decide +kernel
theorem dL_law_242 : decode cL_law 242 = .ok (.iconst 2, 1) := by decide +kernel
theorem dL_law_243 : decode cL_law 243 = .ok (.iadd, 1) := by decide +kernel
theorem dL_law_244 : decode cL_law 244 = .ok (.iaload, 1) := by decide +kernel
theorem dL_law_245 : decode cL_law 245 = .ok (.invokevirtual 31, 3) := by decide +kernel
theorem dL_law_248 : decode cL_law 248 = .ok (.aload_n 2, 1) := by decide +kernel
theorem dL_law_249 : decode cL_law 249 = .ok (.aload_n 0, 1) := by decide +kernel
theorem dL_law_250 : decode cL_law 250 = .ok (.iload_n 3, 1) := by decide +kernel
theorem dL_law_251 : decode cL_law 251 = .ok (.iconst 1, 1) := by decide +kernel
theorem dL_law_252 : decode cL_law 252 = .ok (.iadd, 1) := by decide +kernel
theorem dL_law_253 : decode cL_law 253 = .ok (.iaload, 1) := by decide +kernel
theorem dL_law_254 : decode cL_law 254 = .ok (.aload_n 0, 1) := by decide +kernel
theorem dL_law_255 : decode cL_law 255 = .ok (.iload_n 3, 1) := by decide +kernel
theorem dL_law_256 : decode cL_law 256 = .ok (.iconst 2, 1) := by decide +kernel
theorem dL_law_257 : decode cL_law 257 = .ok (.iadd, 1) := by decide +kernel
theorem dL_law_258 : decode cL_law 258 = .ok (.iaload, 1) := by decide +kernel
theorem dL_law_259 : decode cL_law 259 = .ok (.invokevirtual 35, 3) := by decide +kernel
theorem dL_law_262 : decode cL_law 262 = .ok (.if_icmp .eq 659, 3) := by decide +kernel
theorem dL_law_265 : decode cL_law 265 = .ok (.iconst 0, 1) := by decide +kernel
theorem dL_law_266 : decode cL_law 266 = .ok (.ireturn, 1) := by decide +kernel
theorem dL_law_267 : decode cL_law 267 = .ok (.aload_n 1, 1) := by decide +kernel
theorem dL_law_268 : decode cL_law 268 = .ok (.aload_n 0, 1) := by decide +kernel
theorem dL_law_269 : decode cL_law 269 = .ok (.iload_n 3, 1) := by decide +kernel
theorem dL_law_270 : decode cL_law 270 = .ok (.iconst 1, 1) := by decide +kernel
theorem dL_law_271 : decode cL_law 271 = .ok (.iadd, 1) := by decide +kernel
theorem dL_law_272 : decode cL_law 272 = .ok (.iaload, 1) := by decide +kernel
theorem dL_law_273 : decode cL_law 273 = .ok (.invokevirtual 36, 3) := by decide +kernel
theorem dL_law_276 : decode cL_law 276 = .ok (.aload_n 2, 1) := by decide +kernel
theorem dL_law_277 : decode cL_law 277 = .ok (.aload_n 0, 1) := by decide +kernel
theorem dL_law_278 : decode cL_law 278 = .ok (.iload_n 3, 1) := by decide +kernel
theorem dL_law_279 : decode cL_law 279 = .ok (.iconst 1, 1) := by decide +kernel
theorem dL_law_280 : decode cL_law 280 = .ok (.iadd, 1) := by decide +kernel
theorem dL_law_281 : decode cL_law 281 = .ok (.iaload, 1) := by decide +kernel
theorem dL_law_282 : decode cL_law 282 = .ok (.invokevirtual 39, 3) := by decide +kernel
theorem dL_law_285 : decode cL_law 285 = .ok (.if_icmp .eq 636, 3) := by decide +kernel
theorem dL_law_288 : decode cL_law 288 = .ok (.iconst 0, 1) := by decide +kernel
theorem dL_law_289 : decode cL_law 289 = .ok (.ireturn, 1) := by decide +kernel
theorem dL_law_290 : decode cL_law 290 = .ok (.aload_n 1, 1) := by decide +kernel
theorem dL_law_291 : decode cL_law 291 = .ok (.aload_n 0, 1) := by decide +kernel
theorem dL_law_292 : decode cL_law 292 = .ok (.iload_n 3, 1) := by decide +kernel
theorem dL_law_293 : decode cL_law 293 = .ok (.iconst 1, 1) := by decide +kernel
theorem dL_law_294 : decode cL_law 294 = .ok (.iadd, 1) := by decide +kernel
theorem dL_law_295 : decode cL_law 295 = .ok (.iaload, 1) := by decide +kernel
theorem dL_law_296 : decode cL_law 296 = .ok (.invokevirtual 40, 3) := by decide +kernel
theorem dL_law_299 : decode cL_law 299 = .ok (.aload_n 2, 1) := by decide +kernel
theorem dL_law_300 : decode cL_law 300 = .ok (.aload_n 0, 1) := by decide +kernel
theorem dL_law_301 : decode cL_law 301 = .ok (.iload_n 3, 1) := by decide +kernel
theorem dL_law_302 : decode cL_law 302 = .ok (.iconst 1, 1) := by decide +kernel
theorem dL_law_303 : decode cL_law 303 = .ok (.iadd, 1) := by decide +kernel
theorem dL_law_304 : decode cL_law 304 = .ok (.iaload, 1) := by decide +kernel
theorem dL_law_305 : decode cL_law 305 = .ok (.invokevirtual 43, 3) := by decide +kernel
theorem dL_law_308 : decode cL_law 308 = .ok (.if_icmp .eq 613, 3) := by decide +kernel
theorem dL_law_311 : decode cL_law 311 = .ok (.iconst 0, 1) := by decide +kernel
theorem dL_law_312 : decode cL_law 312 = .ok (.ireturn, 1) := by decide +kernel
theorem dL_law_313 : decode cL_law 313 = .ok (.aload_n 1, 1) := by decide +kernel
theorem dL_law_314 : decode cL_law 314 = .ok (.aload_n 0, 1) := by decide +kernel
theorem dL_law_315 : decode cL_law 315 = .ok (.iload_n 3, 1) := by decide +kernel
theorem dL_law_316 : decode cL_law 316 = .ok (.iconst 1, 1) := by decide +kernel
theorem dL_law_317 : decode cL_law 317 = .ok (.iadd, 1) := by decide +kernel
theorem dL_law_318 : decode cL_law 318 = .ok (.iaload, 1) := by decide +kernel
theorem dL_law_319 : decode cL_law 319 = .ok (.aload_n 0, 1) := by decide +kernel
theorem dL_law_320 : decode cL_law 320 = .ok (.iload_n 3, 1) := by decide +kernel
theorem dL_law_321 : decode cL_law 321 = .ok (.iconst 2, 1) := by decide +kernel
theorem dL_law_322 : decode cL_law 322 = .ok (.iadd, 1) := by decide +kernel
theorem dL_law_323 : decode cL_law 323 = .ok (.iaload, 1) := by decide +kernel
theorem dL_law_324 : decode cL_law 324 = .ok (.invokevirtual 44, 3) := by decide +kernel
theorem dL_law_327 : decode cL_law 327 = .ok (.aload_n 2, 1) := by decide +kernel
theorem dL_law_328 : decode cL_law 328 = .ok (.aload_n 0, 1) := by decide +kernel
theorem dL_law_329 : decode cL_law 329 = .ok (.iload_n 3, 1) := by decide +kernel
theorem dL_law_330 : decode cL_law 330 = .ok (.iconst 1, 1) := by decide +kernel
theorem dL_law_331 : decode cL_law 331 = .ok (.iadd, 1) := by decide +kernel
theorem dL_law_332 : decode cL_law 332 = .ok (.iaload, 1) := by decide +kernel
theorem dL_law_333 : decode cL_law 333 = .ok (.aload_n 0, 1) := by decide +kernel
theorem dL_law_334 : decode cL_law 334 = .ok (.iload_n 3, 1) := by decide +kernel
theorem dL_law_335 : decode cL_law 335 = .ok (.iconst 2, 1) := by decide +kernel
theorem dL_law_336 : decode cL_law 336 = .ok (.iadd, 1) := by decide +kernel
theorem dL_law_337 : decode cL_law 337 = .ok (.iaload, 1) := by decide +kernel
theorem dL_law_338 : decode cL_law 338 = .ok (.invokevirtual 47, 3) := by decide +kernel
theorem dL_law_341 : decode cL_law 341 = .ok (.if_icmp .eq 580, 3) := by decide +kernel
theorem dL_law_344 : decode cL_law 344 = .ok (.iconst 0, 1) := by decide +kernel
theorem dL_law_345 : decode cL_law 345 = .ok (.ireturn, 1) := by decide +kernel
theorem dL_law_346 : decode cL_law 346 = .ok (.aload_n 1, 1) := by decide +kernel
theorem dL_law_347 : decode cL_law 347 = .ok (.aload_n 0, 1) := by decide +kernel
theorem dL_law_348 : decode cL_law 348 = .ok (.iload_n 3, 1) := by decide +kernel
theorem dL_law_349 : decode cL_law 349 = .ok (.iconst 1, 1) := by decide +kernel
theorem dL_law_350 : decode cL_law 350 = .ok (.iadd, 1) := by decide +kernel
theorem dL_law_351 : decode cL_law 351 = .ok (.iaload, 1) := by decide +kernel
theorem dL_law_352 : decode cL_law 352 = .ok (.aload_n 0, 1) := by decide +kernel
theorem dL_law_353 : decode cL_law 353 = .ok (.iload_n 3, 1) := by decide +kernel
theorem dL_law_354 : decode cL_law 354 = .ok (.iconst 2, 1) := by decide +kernel
theorem dL_law_355 : decode cL_law 355 = .ok (.iadd, 1) := by decide +kernel
theorem dL_law_356 : decode cL_law 356 = .ok (.iaload, 1) := by decide +kernel
theorem dL_law_357 : decode cL_law 357 = .ok (.invokevirtual 48, 3) := by decide +kernel
theorem dL_law_360 : decode cL_law 360 = .ok (.aload_n 2, 1) := by decide +kernel
theorem dL_law_361 : decode cL_law 361 = .ok (.aload_n 0, 1) := by decide +kernel
theorem dL_law_362 : decode cL_law 362 = .ok (.iload_n 3, 1) := by decide +kernel
theorem dL_law_363 : decode cL_law 363 = .ok (.iconst 1, 1) := by decide +kernel
theorem dL_law_364 : decode cL_law 364 = .ok (.iadd, 1) := by decide +kernel
theorem dL_law_365 : decode cL_law 365 = .ok (.iaload, 1) := by decide +kernel
theorem dL_law_366 : decode cL_law 366 = .ok (.aload_n 0, 1) := by decide +kernel
theorem dL_law_367 : decode cL_law 367 = .ok (.iload_n 3, 1) := by decide +kernel
theorem dL_law_368 : decode cL_law 368 = .ok (.iconst 2, 1) := by decide +kernel
theorem dL_law_369 : decode cL_law 369 = .ok (.iadd, 1) := by decide +kernel
theorem dL_law_370 : decode cL_law 370 = .ok (.iaload, 1) := by decide +kernel
theorem dL_law_371 : decode cL_law 371 = .ok (.invokevirtual 51, 3) := by decide +kernel
theorem dL_law_374 : decode cL_law 374 = .ok (.if_icmp .eq 547, 3) := by decide +kernel
theorem dL_law_377 : decode cL_law 377 = .ok (.iconst 0, 1) := by decide +kernel
theorem dL_law_378 : decode cL_law 378 = .ok (.ireturn, 1) := by decide +kernel
theorem dL_law_379 : decode cL_law 379 = .ok (.aload_n 1, 1) := by decide +kernel
theorem dL_law_380 : decode cL_law 380 = .ok (.aload_n 0, 1) := by decide +kernel
theorem dL_law_381 : decode cL_law 381 = .ok (.iload_n 3, 1) := by decide +kernel
theorem dL_law_382 : decode cL_law 382 = .ok (.iconst 1, 1) := by decide +kernel
theorem dL_law_383 : decode cL_law 383 = .ok (.iadd, 1) := by decide +kernel
theorem dL_law_384 : decode cL_law 384 = .ok (.iaload, 1) := by decide +kernel
theorem dL_law_385 : decode cL_law 385 = .ok (.invokevirtual 52, 3) := by decide +kernel
theorem dL_law_388 : decode cL_law 388 = .ok (.aload_n 2, 1) := by decide +kernel
theorem dL_law_389 : decode cL_law 389 = .ok (.aload_n 0, 1) := by decide +kernel
theorem dL_law_390 : decode cL_law 390 = .ok (.iload_n 3, 1) := by decide +kernel
theorem dL_law_391 : decode cL_law 391 = .ok (.iconst 1, 1) := by decide +kernel
theorem dL_law_392 : decode cL_law 392 = .ok (.iadd, 1) := by decide +kernel
theorem dL_law_393 : decode cL_law 393 = .ok (.iaload, 1) := by decide +kernel
theorem dL_law_394 : decode cL_law 394 = .ok (.invokevirtual 55, 3) := by decide +kernel
theorem dL_law_397 : decode cL_law 397 = .ok (.if_icmp .eq 524, 3) := by decide +kernel
theorem dL_law_400 : decode cL_law 400 = .ok (.iconst 0, 1) := by decide +kernel
theorem dL_law_401 : decode cL_law 401 = .ok (.ireturn, 1) := by decide +kernel
theorem dL_law_402 : decode cL_law 402 = .ok (.aload_n 1, 1) := by decide +kernel
theorem dL_law_403 : decode cL_law 403 = .ok (.aload_n 0, 1) := by decide +kernel
theorem dL_law_404 : decode cL_law 404 = .ok (.iload_n 3, 1) := by decide +kernel
theorem dL_law_405 : decode cL_law 405 = .ok (.iconst 1, 1) := by decide +kernel
theorem dL_law_406 : decode cL_law 406 = .ok (.iadd, 1) := by decide +kernel
theorem dL_law_407 : decode cL_law 407 = .ok (.iaload, 1) := by decide +kernel
theorem dL_law_408 : decode cL_law 408 = .ok (.aload_n 0, 1) := by decide +kernel
theorem dL_law_409 : decode cL_law 409 = .ok (.iload_n 3, 1) := by decide +kernel
theorem dL_law_410 : decode cL_law 410 = .ok (.iconst 2, 1) := by decide +kernel
theorem dL_law_411 : decode cL_law 411 = .ok (.iadd, 1) := by decide +kernel
theorem dL_law_412 : decode cL_law 412 = .ok (.iaload, 1) := by decide +kernel
theorem dL_law_413 : decode cL_law 413 = .ok (.invokevirtual 56, 3) := by decide +kernel
theorem dL_law_416 : decode cL_law 416 = .ok (.aload_n 2, 1) := by decide +kernel
theorem dL_law_417 : decode cL_law 417 = .ok (.aload_n 0, 1) := by decide +kernel
theorem dL_law_418 : decode cL_law 418 = .ok (.iload_n 3, 1) := by decide +kernel
theorem dL_law_419 : decode cL_law 419 = .ok (.iconst 1, 1) := by decide +kernel
theorem dL_law_420 : decode cL_law 420 = .ok (.iadd, 1) := by decide +kernel
theorem dL_law_421 : decode cL_law 421 = .ok (.iaload, 1) := by decide +kernel
theorem dL_law_422 : decode cL_law 422 = .ok (.aload_n 0, 1) := by decide +kernel
theorem dL_law_423 : decode cL_law 423 = .ok (.iload_n 3, 1) := by decide +kernel
theorem dL_law_424 : decode cL_law 424 = .ok (.iconst 2, 1) := by decide +kernel
theorem dL_law_425 : decode cL_law 425 = .ok (.iadd, 1) := by decide +kernel
theorem dL_law_426 : decode cL_law 426 = .ok (.iaload, 1) := by decide +kernel
theorem dL_law_427 : decode cL_law 427 = .ok (.invokevirtual 59, 3) := by decide +kernel
theorem dL_law_430 : decode cL_law 430 = .ok (.if_icmp .eq 491, 3) := by decide +kernel
theorem dL_law_433 : decode cL_law 433 = .ok (.iconst 0, 1) := by decide +kernel
theorem dL_law_434 : decode cL_law 434 = .ok (.ireturn, 1) := by decide +kernel
theorem dL_law_435 : decode cL_law 435 = .ok (.aload_n 1, 1) := by decide +kernel
theorem dL_law_436 : decode cL_law 436 = .ok (.invokevirtual 60, 3) := by decide +kernel
theorem dL_law_439 : decode cL_law 439 = .ok (.aload_n 2, 1) := by decide +kernel
theorem dL_law_440 : decode cL_law 440 = .ok (.invokevirtual 63, 3) := by decide +kernel
theorem dL_law_443 : decode cL_law 443 = .ok (.if_icmp .eq 478, 3) := by decide +kernel
theorem dL_law_446 : decode cL_law 446 = .ok (.iconst 0, 1) := by decide +kernel
theorem dL_law_447 : decode cL_law 447 = .ok (.ireturn, 1) := by decide +kernel
theorem dL_law_448 : decode cL_law 448 = .ok (.aload_n 1, 1) := by decide +kernel
theorem dL_law_449 : decode cL_law 449 = .ok (.aload_n 0, 1) := by decide +kernel
theorem dL_law_450 : decode cL_law 450 = .ok (.iload_n 3, 1) := by decide +kernel
theorem dL_law_451 : decode cL_law 451 = .ok (.iconst 1, 1) := by decide +kernel
theorem dL_law_452 : decode cL_law 452 = .ok (.iadd, 1) := by decide +kernel
theorem dL_law_453 : decode cL_law 453 = .ok (.iaload, 1) := by decide +kernel
theorem dL_law_454 : decode cL_law 454 = .ok (.invokevirtual 64, 3) := by decide +kernel
theorem dL_law_457 : decode cL_law 457 = .ok (.aload_n 2, 1) := by decide +kernel
theorem dL_law_458 : decode cL_law 458 = .ok (.aload_n 0, 1) := by decide +kernel
theorem dL_law_459 : decode cL_law 459 = .ok (.iload_n 3, 1) := by decide +kernel
theorem dL_law_460 : decode cL_law 460 = .ok (.iconst 1, 1) := by decide +kernel
theorem dL_law_461 : decode cL_law 461 = .ok (.iadd, 1) := by decide +kernel
theorem dL_law_462 : decode cL_law 462 = .ok (.iaload, 1) := by decide +kernel
theorem dL_law_463 : decode cL_law 463 = .ok (.invokevirtual 67, 3) := by decide +kernel
theorem dL_law_466 : decode cL_law 466 = .ok (.if_icmp .eq 455, 3) := by decide +kernel
theorem dL_law_469 : decode cL_law 469 = .ok (.iconst 0, 1) := by decide +kernel
theorem dL_law_470 : decode cL_law 470 = .ok (.ireturn, 1) := by decide +kernel
theorem dL_law_471 : decode cL_law 471 = .ok (.aload_n 1, 1) := by decide +kernel
theorem dL_law_472 : decode cL_law 472 = .ok (.invokevirtual 68, 3) := by decide +kernel
theorem dL_law_475 : decode cL_law 475 = .ok (.aload_n 2, 1) := by decide +kernel
theorem dL_law_476 : decode cL_law 476 = .ok (.invokevirtual 71, 3) := by decide +kernel
theorem dL_law_479 : decode cL_law 479 = .ok (.if_icmp .eq 442, 3) := by decide +kernel
theorem dL_law_482 : decode cL_law 482 = .ok (.iconst 0, 1) := by decide +kernel
theorem dL_law_483 : decode cL_law 483 = .ok (.ireturn, 1) := by decide +kernel
theorem dL_law_484 : decode cL_law 484 = .ok (.aload_n 1, 1) := by decide +kernel
theorem dL_law_485 : decode cL_law 485 = .ok (.aload_n 0, 1) := by decide +kernel
theorem dL_law_486 : decode cL_law 486 = .ok (.iload_n 3, 1) := by decide +kernel
theorem dL_law_487 : decode cL_law 487 = .ok (.iconst 1, 1) := by decide +kernel
theorem dL_law_488 : decode cL_law 488 = .ok (.iadd, 1) := by decide +kernel
theorem dL_law_489 : decode cL_law 489 = .ok (.iaload, 1) := by decide +kernel
theorem dL_law_490 : decode cL_law 490 = .ok (.aload_n 0, 1) := by decide +kernel
theorem dL_law_491 : decode cL_law 491 = .ok (.iload_n 3, 1) := by decide +kernel
theorem dL_law_492 : decode cL_law 492 = .ok (.iconst 2, 1) := by decide +kernel
theorem dL_law_493 : decode cL_law 493 = .ok (.iadd, 1) := by decide +kernel
theorem dL_law_494 : decode cL_law 494 = .ok (.iaload, 1) := by decide +kernel
theorem dL_law_495 : decode cL_law 495 = .ok (.aload_n 0, 1) := by decide +kernel
theorem dL_law_496 : decode cL_law 496 = .ok (.iload_n 3, 1) := by decide +kernel
theorem dL_law_497 : decode cL_law 497 = .ok (.iconst 3, 1) := by decide +kernel
theorem dL_law_498 : decode cL_law 498 = .ok (.iadd, 1) := by decide +kernel
theorem dL_law_499 : decode cL_law 499 = .ok (.iaload, 1) := by decide +kernel
theorem dL_law_500 : decode cL_law 500 = .ok (.invokevirtual 72, 3) := by decide +kernel
theorem dL_law_503 : decode cL_law 503 = .ok (.aload_n 2, 1) := by decide +kernel
theorem dL_law_504 : decode cL_law 504 = .ok (.aload_n 0, 1) := by decide +kernel
theorem dL_law_505 : decode cL_law 505 = .ok (.iload_n 3, 1) := by decide +kernel
theorem dL_law_506 : decode cL_law 506 = .ok (.iconst 1, 1) := by decide +kernel
theorem dL_law_507 : decode cL_law 507 = .ok (.iadd, 1) := by decide +kernel
theorem dL_law_508 : decode cL_law 508 = .ok (.iaload, 1) := by decide +kernel
theorem dL_law_509 : decode cL_law 509 = .ok (.aload_n 0, 1) := by decide +kernel
theorem dL_law_510 : decode cL_law 510 = .ok (.iload_n 3, 1) := by decide +kernel
theorem dL_law_511 : decode cL_law 511 = .ok (.iconst 2, 1) := by decide +kernel
theorem dL_law_512 : decode cL_law 512 = .ok (.iadd, 1) := by decide +kernel
theorem dL_law_513 : decode cL_law 513 = .ok (.iaload, 1) := by decide +kernel
theorem dL_law_514 : decode cL_law 514 = .ok (.aload_n 0, 1) := by decide +kernel
theorem dL_law_515 : decode cL_law 515 = .ok (.iload_n 3, 1) := by decide +kernel
theorem dL_law_516 : decode cL_law 516 = .ok (.iconst 3, 1) := by decide +kernel
theorem dL_law_517 : decode cL_law 517 = .ok (.iadd, 1) := by decide +kernel
theorem dL_law_518 : decode cL_law 518 = .ok (.iaload, 1) := by decide +kernel
theorem dL_law_519 : decode cL_law 519 = .ok (.invokevirtual 76, 3) := by decide +kernel
theorem dL_law_522 : decode cL_law 522 = .ok (.if_icmp .eq 399, 3) := by decide +kernel
theorem dL_law_525 : decode cL_law 525 = .ok (.iconst 0, 1) := by decide +kernel
theorem dL_law_526 : decode cL_law 526 = .ok (.ireturn, 1) := by decide +kernel
theorem dL_law_527 : decode cL_law 527 = .ok (.aload_n 1, 1) := by decide +kernel
theorem dL_law_528 : decode cL_law 528 = .ok (.invokevirtual 77, 3) := by decide +kernel
theorem dL_law_531 : decode cL_law 531 = .ok (.aload_n 2, 1) := by decide +kernel
theorem dL_law_532 : decode cL_law 532 = .ok (.invokevirtual 80, 3) := by decide +kernel
theorem dL_law_535 : decode cL_law 535 = .ok (.if_icmp .eq 386, 3) := by decide +kernel
theorem dL_law_538 : decode cL_law 538 = .ok (.iconst 0, 1) := by decide +kernel
theorem dL_law_539 : decode cL_law 539 = .ok (.ireturn, 1) := by decide +kernel
theorem dL_law_540 : decode cL_law 540 = .ok (.aload_n 1, 1) := by decide +kernel
theorem dL_law_541 : decode cL_law 541 = .ok (.aload_n 0, 1) := by decide +kernel
theorem dL_law_542 : decode cL_law 542 = .ok (.iload_n 3, 1) := by decide +kernel
theorem dL_law_543 : decode cL_law 543 = .ok (.iconst 1, 1) := by decide +kernel
theorem dL_law_544 : decode cL_law 544 = .ok (.iadd, 1) := by decide +kernel
theorem dL_law_545 : decode cL_law 545 = .ok (.iaload, 1) := by decide +kernel
theorem dL_law_546 : decode cL_law 546 = .ok (.invokevirtual 81, 3) := by decide +kernel
theorem dL_law_549 : decode cL_law 549 = .ok (.aload_n 2, 1) := by decide +kernel
theorem dL_law_550 : decode cL_law 550 = .ok (.aload_n 0, 1) := by decide +kernel
theorem dL_law_551 : decode cL_law 551 = .ok (.iload_n 3, 1) := by decide +kernel
theorem dL_law_552 : decode cL_law 552 = .ok (.iconst 1, 1) := by decide +kernel
theorem dL_law_553 : decode cL_law 553 = .ok (.iadd, 1) := by decide +kernel
theorem dL_law_554 : decode cL_law 554 = .ok (.iaload, 1) := by decide +kernel
theorem dL_law_555 : decode cL_law 555 = .ok (.invokevirtual 84, 3) := by decide +kernel
theorem dL_law_558 : decode cL_law 558 = .ok (.if_icmp .eq 363, 3) := by decide +kernel
theorem dL_law_561 : decode cL_law 561 = .ok (.iconst 0, 1) := by decide +kernel
theorem dL_law_562 : decode cL_law 562 = .ok (.ireturn, 1) := by decide +kernel
theorem dL_law_563 : decode cL_law 563 = .ok (.aload_n 1, 1) := by decide +kernel
theorem dL_law_564 : decode cL_law 564 = .ok (.aload_n 0, 1) := by decide +kernel
theorem dL_law_565 : decode cL_law 565 = .ok (.iload_n 3, 1) := by decide +kernel
theorem dL_law_566 : decode cL_law 566 = .ok (.iconst 1, 1) := by decide +kernel
theorem dL_law_567 : decode cL_law 567 = .ok (.iadd, 1) := by decide +kernel
theorem dL_law_568 : decode cL_law 568 = .ok (.iaload, 1) := by decide +kernel
theorem dL_law_569 : decode cL_law 569 = .ok (.invokevirtual 85, 3) := by decide +kernel
theorem dL_law_572 : decode cL_law 572 = .ok (.aload_n 2, 1) := by decide +kernel
theorem dL_law_573 : decode cL_law 573 = .ok (.aload_n 0, 1) := by decide +kernel
theorem dL_law_574 : decode cL_law 574 = .ok (.iload_n 3, 1) := by decide +kernel
theorem dL_law_575 : decode cL_law 575 = .ok (.iconst 1, 1) := by decide +kernel
theorem dL_law_576 : decode cL_law 576 = .ok (.iadd, 1) := by decide +kernel
theorem dL_law_577 : decode cL_law 577 = .ok (.iaload, 1) := by decide +kernel
theorem dL_law_578 : decode cL_law 578 = .ok (.invokevirtual 88, 3) := by decide +kernel
theorem dL_law_581 : decode cL_law 581 = .ok (.if_icmp .eq 340, 3) := by decide +kernel
theorem dL_law_584 : decode cL_law 584 = .ok (.iconst 0, 1) := by decide +kernel
theorem dL_law_585 : decode cL_law 585 = .ok (.ireturn, 1) := by decide +kernel
theorem dL_law_586 : decode cL_law 586 = .ok (.aload_n 1, 1) := by decide +kernel
theorem dL_law_587 : decode cL_law 587 = .ok (.aload_n 0, 1) := by decide +kernel
theorem dL_law_588 : decode cL_law 588 = .ok (.iload_n 3, 1) := by decide +kernel
theorem dL_law_589 : decode cL_law 589 = .ok (.iconst 1, 1) := by decide +kernel
theorem dL_law_590 : decode cL_law 590 = .ok (.iadd, 1) := by decide +kernel
theorem dL_law_591 : decode cL_law 591 = .ok (.iaload, 1) := by decide +kernel
theorem dL_law_592 : decode cL_law 592 = .ok (.aload_n 0, 1) := by decide +kernel
theorem dL_law_593 : decode cL_law 593 = .ok (.iload_n 3, 1) := by decide +kernel
theorem dL_law_594 : decode cL_law 594 = .ok (.iconst 2, 1) := by decide +kernel
theorem dL_law_595 : decode cL_law 595 = .ok (.iadd, 1) := by decide +kernel
theorem dL_law_596 : decode cL_law 596 = .ok (.iaload, 1) := by decide +kernel
theorem dL_law_597 : decode cL_law 597 = .ok (.invokevirtual 89, 3) := by decide +kernel
theorem dL_law_600 : decode cL_law 600 = .ok (.aload_n 2, 1) := by decide +kernel
theorem dL_law_601 : decode cL_law 601 = .ok (.aload_n 0, 1) := by decide +kernel
theorem dL_law_602 : decode cL_law 602 = .ok (.iload_n 3, 1) := by decide +kernel
theorem dL_law_603 : decode cL_law 603 = .ok (.iconst 1, 1) := by decide +kernel
theorem dL_law_604 : decode cL_law 604 = .ok (.iadd, 1) := by decide +kernel
theorem dL_law_605 : decode cL_law 605 = .ok (.iaload, 1) := by decide +kernel
theorem dL_law_606 : decode cL_law 606 = .ok (.aload_n 0, 1) := by decide +kernel
theorem dL_law_607 : decode cL_law 607 = .ok (.iload_n 3, 1) := by decide +kernel
theorem dL_law_608 : decode cL_law 608 = .ok (.iconst 2, 1) := by decide +kernel
theorem dL_law_609 : decode cL_law 609 = .ok (.iadd, 1) := by decide +kernel
theorem dL_law_610 : decode cL_law 610 = .ok (.iaload, 1) := by decide +kernel
theorem dL_law_611 : decode cL_law 611 = .ok (.invokevirtual 92, 3) := by decide +kernel
theorem dL_law_614 : decode cL_law 614 = .ok (.if_icmp .eq 307, 3) := by decide +kernel
theorem dL_law_617 : decode cL_law 617 = .ok (.iconst 0, 1) := by decide +kernel
theorem dL_law_618 : decode cL_law 618 = .ok (.ireturn, 1) := by decide +kernel
theorem dL_law_619 : decode cL_law 619 = .ok (.aload_n 1, 1) := by decide +kernel
theorem dL_law_620 : decode cL_law 620 = .ok (.invokevirtual 93, 3) := by decide +kernel
theorem dL_law_623 : decode cL_law 623 = .ok (.aload_n 2, 1) := by decide +kernel
theorem dL_law_624 : decode cL_law 624 = .ok (.invokevirtual 96, 3) := by decide +kernel
theorem dL_law_627 : decode cL_law 627 = .ok (.if_icmp .eq 294, 3) := by decide +kernel
theorem dL_law_630 : decode cL_law 630 = .ok (.iconst 0, 1) := by decide +kernel
theorem dL_law_631 : decode cL_law 631 = .ok (.ireturn, 1) := by decide +kernel
theorem dL_law_632 : decode cL_law 632 = .ok (.aload_n 1, 1) := by decide +kernel
theorem dL_law_633 : decode cL_law 633 = .ok (.invokevirtual 97, 3) := by decide +kernel
theorem dL_law_636 : decode cL_law 636 = .ok (.aload_n 2, 1) := by decide +kernel
theorem dL_law_637 : decode cL_law 637 = .ok (.invokevirtual 100, 3) := by decide +kernel
theorem dL_law_640 : decode cL_law 640 = .ok (.if_icmp .eq 281, 3) := by decide +kernel
theorem dL_law_643 : decode cL_law 643 = .ok (.iconst 0, 1) := by decide +kernel
theorem dL_law_644 : decode cL_law 644 = .ok (.ireturn, 1) := by decide +kernel
theorem dL_law_645 : decode cL_law 645 = .ok (.aload_n 1, 1) := by decide +kernel
theorem dL_law_646 : decode cL_law 646 = .ok (.aload_n 0, 1) := by decide +kernel
theorem dL_law_647 : decode cL_law 647 = .ok (.iload_n 3, 1) := by decide +kernel
theorem dL_law_648 : decode cL_law 648 = .ok (.iconst 1, 1) := by decide +kernel
theorem dL_law_649 : decode cL_law 649 = .ok (.iadd, 1) := by decide +kernel
theorem dL_law_650 : decode cL_law 650 = .ok (.iaload, 1) := by decide +kernel
theorem dL_law_651 : decode cL_law 651 = .ok (.invokevirtual 101, 3) := by decide +kernel
theorem dL_law_654 : decode cL_law 654 = .ok (.aload_n 2, 1) := by decide +kernel
theorem dL_law_655 : decode cL_law 655 = .ok (.aload_n 0, 1) := by decide +kernel
theorem dL_law_656 : decode cL_law 656 = .ok (.iload_n 3, 1) := by decide +kernel
theorem dL_law_657 : decode cL_law 657 = .ok (.iconst 1, 1) := by decide +kernel
theorem dL_law_658 : decode cL_law 658 = .ok (.iadd, 1) := by decide +kernel
theorem dL_law_659 : decode cL_law 659 = .ok (.iaload, 1) := by decide +kernel
theorem dL_law_660 : decode cL_law 660 = .ok (.invokevirtual 104, 3) := by decide +kernel
theorem dL_law_663 : decode cL_law 663 = .ok (.if_icmp .eq 258, 3) := by decide +kernel
theorem dL_law_666 : decode cL_law 666 = .ok (.iconst 0, 1) := by decide +kernel
theorem dL_law_667 : decode cL_law 667 = .ok (.ireturn, 1) := by decide +kernel
theorem dL_law_668 : decode cL_law 668 = .ok (.aload_n 1, 1) := by decide +kernel
theorem dL_law_669 : decode cL_law 669 = .ok (.aload_n 0, 1) := by decide +kernel
theorem dL_law_670 : decode cL_law 670 = .ok (.iload_n 3, 1) := by decide +kernel
theorem dL_law_671 : decode cL_law 671 = .ok (.iconst 1, 1) := by decide +kernel
theorem dL_law_672 : decode cL_law 672 = .ok (.iadd, 1) := by decide +kernel
theorem dL_law_673 : decode cL_law 673 = .ok (.iaload, 1) := by decide +kernel
theorem dL_law_674 : decode cL_law 674 = .ok (.invokevirtual 105, 3) := by decide +kernel
theorem dL_law_677 : decode cL_law 677 = .ok (.aload_n 2, 1) := by decide +kernel
theorem dL_law_678 : decode cL_law 678 = .ok (.aload_n 0, 1) := by decide +kernel
theorem dL_law_679 : decode cL_law 679 = .ok (.iload_n 3, 1) := by decide +kernel
theorem dL_law_680 : decode cL_law 680 = .ok (.iconst 1, 1) := by decide +kernel
theorem dL_law_681 : decode cL_law 681 = .ok (.iadd, 1) := by decide +kernel
theorem dL_law_682 : decode cL_law 682 = .ok (.iaload, 1) := by decide +kernel
theorem dL_law_683 : decode cL_law 683 = .ok (.invokevirtual 108, 3) := by decide +kernel
theorem dL_law_686 : decode cL_law 686 = .ok (.if_icmp .eq 235, 3) := by decide +kernel
theorem dL_law_689 : decode cL_law 689 = .ok (.iconst 0, 1) := by decide +kernel
theorem dL_law_690 : decode cL_law 690 = .ok (.ireturn, 1) := by decide +kernel
theorem dL_law_691 : decode cL_law 691 = .ok (.aload_n 1, 1) := by decide +kernel
theorem dL_law_692 : decode cL_law 692 = .ok (.aload_n 0, 1) := by decide +kernel
theorem dL_law_693 : decode cL_law 693 = .ok (.iload_n 3, 1) := by decide +kernel
theorem dL_law_694 : decode cL_law 694 = .ok (.iconst 1, 1) := by decide +kernel
theorem dL_law_695 : decode cL_law 695 = .ok (.iadd, 1) := by decide +kernel
theorem dL_law_696 : decode cL_law 696 = .ok (.iaload, 1) := by decide +kernel
theorem dL_law_697 : decode cL_law 697 = .ok (.invokevirtual 109, 3) := by decide +kernel
theorem dL_law_700 : decode cL_law 700 = .ok (.aload_n 2, 1) := by decide +kernel
theorem dL_law_701 : decode cL_law 701 = .ok (.aload_n 0, 1) := by decide +kernel
theorem dL_law_702 : decode cL_law 702 = .ok (.iload_n 3, 1) := by decide +kernel
theorem dL_law_703 : decode cL_law 703 = .ok (.iconst 1, 1) := by decide +kernel
theorem dL_law_704 : decode cL_law 704 = .ok (.iadd, 1) := by decide +kernel
theorem dL_law_705 : decode cL_law 705 = .ok (.iaload, 1) := by decide +kernel
theorem dL_law_706 : decode cL_law 706 = .ok (.invokevirtual 112, 3) := by decide +kernel
theorem dL_law_709 : decode cL_law 709 = .ok (.if_icmp .eq 212, 3) := by decide +kernel
theorem dL_law_712 : decode cL_law 712 = .ok (.iconst 0, 1) := by decide +kernel
theorem dL_law_713 : decode cL_law 713 = .ok (.ireturn, 1) := by decide +kernel
theorem dL_law_714 : decode cL_law 714 = .ok (.aload_n 1, 1) := by decide +kernel
theorem dL_law_715 : decode cL_law 715 = .ok (.aload_n 0, 1) := by decide +kernel
theorem dL_law_716 : decode cL_law 716 = .ok (.iload_n 3, 1) := by decide +kernel
theorem dL_law_717 : decode cL_law 717 = .ok (.iconst 1, 1) := by decide +kernel
theorem dL_law_718 : decode cL_law 718 = .ok (.iadd, 1) := by decide +kernel
theorem dL_law_719 : decode cL_law 719 = .ok (.iaload, 1) := by decide +kernel
theorem dL_law_720 : decode cL_law 720 = .ok (.aload_n 0, 1) := by decide +kernel
theorem dL_law_721 : decode cL_law 721 = .ok (.iload_n 3, 1) := by decide +kernel
theorem dL_law_722 : decode cL_law 722 = .ok (.iconst 2, 1) := by decide +kernel
theorem dL_law_723 : decode cL_law 723 = .ok (.iadd, 1) := by decide +kernel
theorem dL_law_724 : decode cL_law 724 = .ok (.iaload, 1) := by decide +kernel
theorem dL_law_725 : decode cL_law 725 = .ok (.aload_n 0, 1) := by decide +kernel
theorem dL_law_726 : decode cL_law 726 = .ok (.iload_n 3, 1) := by decide +kernel
theorem dL_law_727 : decode cL_law 727 = .ok (.iconst 3, 1) := by decide +kernel
theorem dL_law_728 : decode cL_law 728 = .ok (.iadd, 1) := by decide +kernel
theorem dL_law_729 : decode cL_law 729 = .ok (.iaload, 1) := by decide +kernel
theorem dL_law_730 : decode cL_law 730 = .ok (.ifCond .eq 7, 3) := by decide +kernel
theorem dL_law_733 : decode cL_law 733 = .ok (.iconst 1, 1) := by decide +kernel
theorem dL_law_734 : decode cL_law 734 = .ok (.goto 4, 3) := by decide +kernel
theorem dL_law_737 : decode cL_law 737 = .ok (.iconst 0, 1) := by decide +kernel
theorem dL_law_738 : decode cL_law 738 = .ok (.invokevirtual 113, 3) := by decide +kernel
theorem dL_law_741 : decode cL_law 741 = .ok (.aload_n 2, 1) := by decide +kernel
theorem dL_law_742 : decode cL_law 742 = .ok (.aload_n 0, 1) := by decide +kernel
theorem dL_law_743 : decode cL_law 743 = .ok (.iload_n 3, 1) := by decide +kernel
theorem dL_law_744 : decode cL_law 744 = .ok (.iconst 1, 1) := by decide +kernel
theorem dL_law_745 : decode cL_law 745 = .ok (.iadd, 1) := by decide +kernel
theorem dL_law_746 : decode cL_law 746 = .ok (.iaload, 1) := by decide +kernel
theorem dL_law_747 : decode cL_law 747 = .ok (.aload_n 0, 1) := by decide +kernel
theorem dL_law_748 : decode cL_law 748 = .ok (.iload_n 3, 1) := by decide +kernel
theorem dL_law_749 : decode cL_law 749 = .ok (.iconst 2, 1) := by decide +kernel
theorem dL_law_750 : decode cL_law 750 = .ok (.iadd, 1) := by decide +kernel
theorem dL_law_751 : decode cL_law 751 = .ok (.iaload, 1) := by decide +kernel
theorem dL_law_752 : decode cL_law 752 = .ok (.aload_n 0, 1) := by decide +kernel
theorem dL_law_753 : decode cL_law 753 = .ok (.iload_n 3, 1) := by decide +kernel
theorem dL_law_754 : decode cL_law 754 = .ok (.iconst 3, 1) := by decide +kernel
theorem dL_law_755 : decode cL_law 755 = .ok (.iadd, 1) := by decide +kernel
theorem dL_law_756 : decode cL_law 756 = .ok (.iaload, 1) := by decide +kernel
theorem dL_law_757 : decode cL_law 757 = .ok (.ifCond .eq 7, 3) := by decide +kernel
theorem dL_law_760 : decode cL_law 760 = .ok (.iconst 1, 1) := by decide +kernel
theorem dL_law_761 : decode cL_law 761 = .ok (.goto 4, 3) := by decide +kernel
theorem dL_law_764 : decode cL_law 764 = .ok (.iconst 0, 1) := by decide +kernel
theorem dL_law_765 : decode cL_law 765 = .ok (.invokevirtual 117, 3) := by decide +kernel
theorem dL_law_768 : decode cL_law 768 = .ok (.if_icmp .eq 153, 3) := by decide +kernel
theorem dL_law_771 : decode cL_law 771 = .ok (.iconst 0, 1) := by decide +kernel
theorem dL_law_772 : decode cL_law 772 = .ok (.ireturn, 1) := by decide +kernel
theorem dL_law_773 : decode cL_law 773 = .ok (.aload_n 1, 1) := by decide +kernel
theorem dL_law_774 : decode cL_law 774 = .ok (.aload_n 0, 1) := by decide +kernel
theorem dL_law_775 : decode cL_law 775 = .ok (.iload_n 3, 1) := by decide +kernel
theorem dL_law_776 : decode cL_law 776 = .ok (.iconst 1, 1) := by decide +kernel
theorem dL_law_777 : decode cL_law 777 = .ok (.iadd, 1) := by decide +kernel
theorem dL_law_778 : decode cL_law 778 = .ok (.iaload, 1) := by decide +kernel
theorem dL_law_779 : decode cL_law 779 = .ok (.invokevirtual 118, 3) := by decide +kernel
theorem dL_law_782 : decode cL_law 782 = .ok (.aload_n 2, 1) := by decide +kernel
theorem dL_law_783 : decode cL_law 783 = .ok (.aload_n 0, 1) := by decide +kernel
theorem dL_law_784 : decode cL_law 784 = .ok (.iload_n 3, 1) := by decide +kernel
theorem dL_law_785 : decode cL_law 785 = .ok (.iconst 1, 1) := by decide +kernel
theorem dL_law_786 : decode cL_law 786 = .ok (.iadd, 1) := by decide +kernel
theorem dL_law_787 : decode cL_law 787 = .ok (.iaload, 1) := by decide +kernel
theorem dL_law_788 : decode cL_law 788 = .ok (.invokevirtual 121, 3) := by decide +kernel
theorem dL_law_791 : decode cL_law 791 = .ok (.if_icmp .eq 130, 3) := by decide +kernel
theorem dL_law_794 : decode cL_law 794 = .ok (.iconst 0, 1) := by decide +kernel
theorem dL_law_795 : decode cL_law 795 = .ok (.ireturn, 1) := by decide +kernel
theorem dL_law_796 : decode cL_law 796 = .ok (.aload_n 1, 1) := by decide +kernel
theorem dL_law_797 : decode cL_law 797 = .ok (.aload_n 0, 1) := by decide +kernel
theorem dL_law_798 : decode cL_law 798 = .ok (.iload_n 3, 1) := by decide +kernel
theorem dL_law_799 : decode cL_law 799 = .ok (.iconst 1, 1) := by decide +kernel
theorem dL_law_800 : decode cL_law 800 = .ok (.iadd, 1) := by decide +kernel
theorem dL_law_801 : decode cL_law 801 = .ok (.iaload, 1) := by decide +kernel
theorem dL_law_802 : decode cL_law 802 = .ok (.aload_n 0, 1) := by decide +kernel
theorem dL_law_803 : decode cL_law 803 = .ok (.iload_n 3, 1) := by decide +kernel
theorem dL_law_804 : decode cL_law 804 = .ok (.iconst 2, 1) := by decide +kernel
theorem dL_law_805 : decode cL_law 805 = .ok (.iadd, 1) := by decide +kernel
theorem dL_law_806 : decode cL_law 806 = .ok (.iaload, 1) := by decide +kernel
theorem dL_law_807 : decode cL_law 807 = .ok (.invokevirtual 122, 3) := by decide +kernel
theorem dL_law_810 : decode cL_law 810 = .ok (.aload_n 2, 1) := by decide +kernel
theorem dL_law_811 : decode cL_law 811 = .ok (.aload_n 0, 1) := by decide +kernel
theorem dL_law_812 : decode cL_law 812 = .ok (.iload_n 3, 1) := by decide +kernel
theorem dL_law_813 : decode cL_law 813 = .ok (.iconst 1, 1) := by decide +kernel
theorem dL_law_814 : decode cL_law 814 = .ok (.iadd, 1) := by decide +kernel
theorem dL_law_815 : decode cL_law 815 = .ok (.iaload, 1) := by decide +kernel
theorem dL_law_816 : decode cL_law 816 = .ok (.aload_n 0, 1) := by decide +kernel
theorem dL_law_817 : decode cL_law 817 = .ok (.iload_n 3, 1) := by decide +kernel
theorem dL_law_818 : decode cL_law 818 = .ok (.iconst 2, 1) := by decide +kernel
theorem dL_law_819 : decode cL_law 819 = .ok (.iadd, 1) := by decide +kernel
theorem dL_law_820 : decode cL_law 820 = .ok (.iaload, 1) := by decide +kernel
theorem dL_law_821 : decode cL_law 821 = .ok (.invokevirtual 125, 3) := by decide +kernel
theorem dL_law_824 : decode cL_law 824 = .ok (.if_icmp .eq 97, 3) := by decide +kernel
theorem dL_law_827 : decode cL_law 827 = .ok (.iconst 0, 1) := by decide +kernel
theorem dL_law_828 : decode cL_law 828 = .ok (.ireturn, 1) := by decide +kernel
theorem dL_law_829 : decode cL_law 829 = .ok (.aload_n 1, 1) := by decide +kernel
theorem dL_law_830 : decode cL_law 830 = .ok (.aload_n 0, 1) := by decide +kernel
theorem dL_law_831 : decode cL_law 831 = .ok (.iload_n 3, 1) := by decide +kernel
theorem dL_law_832 : decode cL_law 832 = .ok (.iconst 1, 1) := by decide +kernel
theorem dL_law_833 : decode cL_law 833 = .ok (.iadd, 1) := by decide +kernel
theorem dL_law_834 : decode cL_law 834 = .ok (.iaload, 1) := by decide +kernel
theorem dL_law_835 : decode cL_law 835 = .ok (.aload_n 0, 1) := by decide +kernel
theorem dL_law_836 : decode cL_law 836 = .ok (.iload_n 3, 1) := by decide +kernel
theorem dL_law_837 : decode cL_law 837 = .ok (.iconst 2, 1) := by decide +kernel
theorem dL_law_838 : decode cL_law 838 = .ok (.iadd, 1) := by decide +kernel
theorem dL_law_839 : decode cL_law 839 = .ok (.iaload, 1) := by decide +kernel
theorem dL_law_840 : decode cL_law 840 = .ok (.aload_n 0, 1) := by decide +kernel
theorem dL_law_841 : decode cL_law 841 = .ok (.iload_n 3, 1) := by decide +kernel
theorem dL_law_842 : decode cL_law 842 = .ok (.iconst 3, 1) := by decide +kernel
theorem dL_law_843 : decode cL_law 843 = .ok (.iadd, 1) := by decide +kernel
theorem dL_law_844 : decode cL_law 844 = .ok (.iaload, 1) := by decide +kernel
theorem dL_law_845 : decode cL_law 845 = .ok (.invokevirtual 126, 3) := by decide +kernel
theorem dL_law_848 : decode cL_law 848 = .ok (.aload_n 2, 1) := by decide +kernel
theorem dL_law_849 : decode cL_law 849 = .ok (.aload_n 0, 1) := by decide +kernel
theorem dL_law_850 : decode cL_law 850 = .ok (.iload_n 3, 1) := by decide +kernel
theorem dL_law_851 : decode cL_law 851 = .ok (.iconst 1, 1) := by decide +kernel
theorem dL_law_852 : decode cL_law 852 = .ok (.iadd, 1) := by decide +kernel
theorem dL_law_853 : decode cL_law 853 = .ok (.iaload, 1) := by decide +kernel
theorem dL_law_854 : decode cL_law 854 = .ok (.aload_n 0, 1) := by decide +kernel
theorem dL_law_855 : decode cL_law 855 = .ok (.iload_n 3, 1) := by decide +kernel
theorem dL_law_856 : decode cL_law 856 = .ok (.iconst 2, 1) := by decide +kernel
theorem dL_law_857 : decode cL_law 857 = .ok (.iadd, 1) := by decide +kernel
theorem dL_law_858 : decode cL_law 858 = .ok (.iaload, 1) := by decide +kernel
theorem dL_law_859 : decode cL_law 859 = .ok (.aload_n 0, 1) := by decide +kernel
theorem dL_law_860 : decode cL_law 860 = .ok (.iload_n 3, 1) := by decide +kernel
theorem dL_law_861 : decode cL_law 861 = .ok (.iconst 3, 1) := by decide +kernel
theorem dL_law_862 : decode cL_law 862 = .ok (.iadd, 1) := by decide +kernel
theorem dL_law_863 : decode cL_law 863 = .ok (.iaload, 1) := by decide +kernel
theorem dL_law_864 : decode cL_law 864 = .ok (.invokevirtual 129, 3) := by decide +kernel
theorem dL_law_867 : decode cL_law 867 = .ok (.if_icmp .eq 54, 3) := by decide +kernel
theorem dL_law_870 : decode cL_law 870 = .ok (.iconst 0, 1) := by decide +kernel
theorem dL_law_871 : decode cL_law 871 = .ok (.ireturn, 1) := by decide +kernel
theorem dL_law_872 : decode cL_law 872 = .ok (.aload_n 1, 1) := by decide +kernel
theorem dL_law_873 : decode cL_law 873 = .ok (.invokevirtual 130, 3) := by decide +kernel
theorem dL_law_876 : decode cL_law 876 = .ok (.aload_n 2, 1) := by decide +kernel
theorem dL_law_877 : decode cL_law 877 = .ok (.invokevirtual 133, 3) := by decide +kernel
theorem dL_law_880 : decode cL_law 880 = .ok (.if_icmp .eq 41, 3) := by decide +kernel
theorem dL_law_883 : decode cL_law 883 = .ok (.iconst 0, 1) := by decide +kernel
theorem dL_law_884 : decode cL_law 884 = .ok (.ireturn, 1) := by decide +kernel
theorem dL_law_885 : decode cL_law 885 = .ok (.aload_n 1, 1) := by decide +kernel
theorem dL_law_886 : decode cL_law 886 = .ok (.invokevirtual 134, 3) := by decide +kernel
theorem dL_law_889 : decode cL_law 889 = .ok (.aload_n 2, 1) := by decide +kernel
theorem dL_law_890 : decode cL_law 890 = .ok (.invokevirtual 137, 3) := by decide +kernel
theorem dL_law_893 : decode cL_law 893 = .ok (.if_icmp .eq 28, 3) := by decide +kernel
theorem dL_law_896 : decode cL_law 896 = .ok (.iconst 0, 1) := by decide +kernel
theorem dL_law_897 : decode cL_law 897 = .ok (.ireturn, 1) := by decide +kernel
theorem dL_law_898 : decode cL_law 898 = .ok (.aload_n 1, 1) := by decide +kernel
theorem dL_law_899 : decode cL_law 899 = .ok (.aload_n 0, 1) := by decide +kernel
theorem dL_law_900 : decode cL_law 900 = .ok (.iload_n 3, 1) := by decide +kernel
theorem dL_law_901 : decode cL_law 901 = .ok (.iconst 1, 1) := by decide +kernel
theorem dL_law_902 : decode cL_law 902 = .ok (.iadd, 1) := by decide +kernel
theorem dL_law_903 : decode cL_law 903 = .ok (.iaload, 1) := by decide +kernel
theorem dL_law_904 : decode cL_law 904 = .ok (.invokevirtual 138, 3) := by decide +kernel
theorem dL_law_907 : decode cL_law 907 = .ok (.aload_n 2, 1) := by decide +kernel
theorem dL_law_908 : decode cL_law 908 = .ok (.aload_n 0, 1) := by decide +kernel
theorem dL_law_909 : decode cL_law 909 = .ok (.iload_n 3, 1) := by decide +kernel
theorem dL_law_910 : decode cL_law 910 = .ok (.iconst 1, 1) := by decide +kernel
theorem dL_law_911 : decode cL_law 911 = .ok (.iadd, 1) := by decide +kernel
theorem dL_law_912 : decode cL_law 912 = .ok (.iaload, 1) := by decide +kernel
theorem dL_law_913 : decode cL_law 913 = .ok (.invokevirtual 141, 3) := by decide +kernel
theorem dL_law_916 : decode cL_law 916 = .ok (.if_icmp .eq 5, 3) := by decide +kernel
theorem dL_law_919 : decode cL_law 919 = .ok (.iconst 0, 1) := by decide +kernel
theorem dL_law_920 : decode cL_law 920 = .ok (.ireturn, 1) := by decide +kernel
theorem dL_law_921 : decode cL_law 921 = .ok (.iinc 3 4, 3) := by decide +kernel
theorem dL_law_924 : decode cL_law 924 = .ok (.goto (-906), 3) := by decide +kernel
theorem dL_law_927 : decode cL_law 927 = .ok (.iconst 1, 1) := by decide +kernel
theorem dL_law_928 : decode cL_law 928 = .ok (.ireturn, 1) := by decide +kernel
end
section

def tb : List Cond := lw_tbl.filter goodWord
theorem tb_in {w : Cond} (h : w ∈ lw_tbl) (g : goodWord w = true) : w ∈ tb := List.mem_filter.mpr ⟨h, g⟩
theorem tb_good : ∀ w ∈ tb, (w.onTables && w.keeps) = true ∨ ∃ ty, w = .arrayClass ty := fun w h => good_of_word (List.mem_filter.mp h).2
theorem tb_hts {args : Array Value} {s : State} (h : ∀ w ∈ lw_tbl, w.before args s = true) : ∀ w ∈ tb, w.before args s = true := fun w hw => h w (List.mem_filter.mp hw).1
def isN : Cond → Bool
  | .fieldLinkNest .. => true
  | .methodLinkNest .. => true
  | _ => false
def nw : List Cond := lw_tbl.filter isN
theorem nw_in {w : Cond} (h : w ∈ lw_tbl) (g : isN w = true) : w ∈ nw := List.mem_filter.mpr ⟨h, g⟩
theorem nw_tab {w : Cond} (h : w ∈ nw) : w.onTables = true := by
  have h2 := (List.mem_filter.mp h).2
  cases w <;> first | rfl | (simp [isN] at h2; done)
def f_NW (U : State) : Prop := ∀ w ∈ nw, va_Nw w U
theorem f_NW.warm {s U : State} (hW : s.WarmedH U.vm) (h : f_NW s) : f_NW U := fun w hw => by
  have h2 := (List.mem_filter.mp hw).2
  have h3 := h w hw
  cases w <;> first | (simp [isN] at h2; done) | exact va_Nw.warmF hW h3 | exact va_Nw.warmM hW h3
theorem f_NW.same {u U : State} (hv : u.vm = U.vm) (h : f_NW u) : f_NW U := fun w hw => va_Nw.same (nw_tab hw) hv (h w hw)
theorem f_NW.of {args : Array Value} {s : State} (h : ∀ w ∈ lw_tbl, w.before args s = true) : f_NW s := fun w hw => va_Nw.of (nw_tab hw) (h w (List.mem_filter.mp hw).1)
theorem f_NW.use {args : Array Value} {s : State} (h : f_NW s) : ∀ w ∈ nw, w.before args s = true := fun w hw => va_Nw.use (nw_tab hw) (h w hw)
abbrev f_Mem : Type := Nat → Nat → Int32
abbrev f_Shp : Type := (Nat × List (Option (Option Nat))) ⊕ (Nat ⊕ Nat)
abbrev f_L : Type := List (Option Value)
abbrev f_G : Type := Nat → f_L → List Value → f_Mem → Prop
abbrev f_Y : Type := MethodName × ByteArray × Nat × Option FieldType
abbrev f_E : Type := Launch × va_G × ClassId × ClassId × (Nat → Nat)
abbrev f_S : Type := Nat × (Nat → f_Shp)
def f_ad (E : f_E) : Nat → Nat := E.2.2.2.2
def f_fld (ad : Nat → Nat) (c : Nat → Int32) : Nat → List (Option (Option Nat)) → List Value
  | _, [] => []
  | j, none :: t => .int (c j) :: f_fld ad c (j + 1) t
  | j, some none :: t => .null :: f_fld ad c (j + 1) t
  | j, some (some r) :: t => .ref (ad r) :: f_fld ad c (j + 1) t
def f_cell (E : f_E) (S : f_S) (σ : f_Mem) (k : Nat) : va_E := match S.2 k with
  | .inl q => .inr (q.1, f_fld (f_ad E) (σ k) 0 q.2)
  | .inr (.inl n) => .inl (E.2.2.1, (n, .inl (σ k)))
  | .inr (.inr n) => .inl (E.2.2.2.1, (n, .inr (.inr (.inr (.inr (fun j => some (f_ad E (σ k j).toNatClampNeg)))))))
def f_wl (E : f_E) (S : f_S) (σ : f_Mem) : va_W := (List.range S.1).map (fun k => (f_ad E k, f_cell E S σ k))
def f_P (E : f_E) (S : f_S) (σ : f_Mem) (H : Heap) : Prop := va_P E.2.1 vwCl (f_wl E S σ) H
def f_tys (E : f_E) : List (ClassId × FieldType) := [(E.2.2.1, .int), (E.2.2.2.1, .object RX2)]
def f_K (E : f_E) (U : State) : Prop := va_K E.2.1 vwCl (f_tys E) U
def f_A (E : f_E) (S : f_S) (sz : Nat) : Nat → Prop := fun q => (∃ k, k < S.1 ∧ q = f_ad E k) ∨ sz ≤ q
def f_I (E : f_E) (S : f_S) : Prop := ∀ i j : Nat, i < S.1 → j < S.1 → f_ad E i = f_ad E j → i = j
def m_row (σ : f_Mem) (n : Nat) (f : Nat → Int32) : f_Mem := fun k => if k = n then f else σ k
def m_set (σ : f_Mem) (n j : Nat) (v : Int32) : f_Mem := m_row σ n (upd (σ n) j v)
theorem f_wl_at (E : f_E) (S : f_S) (σ : f_Mem) {n : Nat} (h : n < S.1) : (f_wl E S σ)[n]? = some (f_ad E n, f_cell E S σ n) := by
  unfold f_wl
  rw [List.getElem?_map, List.getElem?_range h]; rfl
theorem f_wl_of (E : f_E) (S : f_S) (σ : f_Mem) {k : Nat} {q : Nat × va_E} (h : (f_wl E S σ)[k]? = some q) : k < S.1 ∧ q = (f_ad E k, f_cell E S σ k) := by
  unfold f_wl at h
  have hl := (List.getElem?_eq_some_iff.mp h).1
  rw [List.length_map, List.length_range] at hl
  rw [List.getElem?_map, List.getElem?_range hl] at h
  exact ⟨hl, (Option.some.inj h).symm⟩
theorem f_D {E : f_E} {S : f_S} {A : Nat → Prop} (hI : f_I E S) (hA : ∀ k, k < S.1 → A (f_ad E k)) (σ : f_Mem) : va_D A (f_wl E S σ) := by
  refine ⟨fun i j p q hi hj hpq => ?_, fun k q hk => ?_⟩
  · obtain ⟨h1, rfl⟩ := f_wl_of E S σ hi
    obtain ⟨h2, rfl⟩ := f_wl_of E S σ hj
    exact hI i j h1 h2 hpq
  · obtain ⟨h1, rfl⟩ := f_wl_of E S σ hk
    exact hA k h1
theorem f_cell_row {E : f_E} {S : f_S} {σ : f_Mem} {n k : Nat} {f : Nat → Int32} (h : k ≠ n) : f_cell E S (m_row σ n f) k = f_cell E S σ k := by
  unfold f_cell m_row
  rw [if_neg h]
theorem f_wl_set {E : f_E} {S : f_S} {σ : f_Mem} {n : Nat} {f : Nat → Int32} {x : va_E} (hn : n < S.1) (hx : f_cell E S (m_row σ n f) n = x) : (f_wl E S σ).set n (f_ad E n, x) = f_wl E S (m_row σ n f) := by
  apply List.ext_getElem?
  intro k
  by_cases hk : k = n
  · subst hk
    rw [List.getElem?_set_self (by unfold f_wl; rw [List.length_map, List.length_range]; exact hn), f_wl_at E S _ hn, hx]
  · rw [List.getElem?_set_ne (Ne.symm hk)]
    unfold f_wl
    rw [List.getElem?_map, List.getElem?_map]
    cases h : (List.range S.1)[k]? with
    | none => rfl
    | some j =>
      have hj : j = k := by
        have hl := (List.getElem?_eq_some_iff.mp h).1
        rw [List.length_range] at hl
        rw [List.getElem?_range hl] at h
        exact (Option.some.inj h).symm
      subst hj
      show some (f_ad E j, f_cell E S σ j) = some (f_ad E j, f_cell E S (m_row σ n f) j)
      rw [f_cell_row hk]
theorem f_cell_o {E : f_E} {S : f_S} {σ : f_Mem} {n ci : Nat} {fs : List (Option (Option Nat))} (h : S.2 n = .inl (ci, fs)) : f_cell E S σ n = .inr (ci, f_fld (f_ad E) (σ n) 0 fs) := by
  unfold f_cell; rw [h]
theorem f_cell_i {E : f_E} {S : f_S} {σ : f_Mem} {n len : Nat} (h : S.2 n = .inr (.inl len)) : f_cell E S σ n = .inl (E.2.2.1, (len, .inl (σ n))) := by
  unfold f_cell; rw [h]
theorem f_cell_q {E : f_E} {S : f_S} {σ : f_Mem} {n len : Nat} (h : S.2 n = .inr (.inr len)) : f_cell E S σ n = .inl (E.2.2.2.1, (len, .inr (.inr (.inr (.inr (fun j => some (f_ad E (σ n j).toNatClampNeg))))))) := by
  unfold f_cell; rw [h]
theorem f_fld_get (ad : Nat → Nat) (c : Nat → Int32) : ∀ (fs : List (Option (Option Nat))) (j k : Nat), (f_fld ad c j fs)[k]? = (fs[k]?).map (fun x => match x with | none => Value.int (c (j + k)) | some none => .null | some (some r) => .ref (ad r))
  | [], j, k => by simp [f_fld]
  | none :: t, j, 0 => by simp [f_fld]
  | some none :: t, j, 0 => by simp [f_fld]
  | some (some r) :: t, j, 0 => by simp [f_fld]
  | none :: t, j, k + 1 => by simp only [f_fld, List.getElem?_cons_succ]; rw [f_fld_get ad c t (j + 1) k, Nat.add_assoc, Nat.add_comm 1 k]
  | some none :: t, j, k + 1 => by simp only [f_fld, List.getElem?_cons_succ]; rw [f_fld_get ad c t (j + 1) k, Nat.add_assoc, Nat.add_comm 1 k]
  | some (some r) :: t, j, k + 1 => by simp only [f_fld, List.getElem?_cons_succ]; rw [f_fld_get ad c t (j + 1) k, Nat.add_assoc, Nat.add_comm 1 k]
theorem f_fld_len (ad : Nat → Nat) (c : Nat → Int32) : ∀ (fs : List (Option (Option Nat))) (j : Nat), (f_fld ad c j fs).length = fs.length
  | [], j => rfl
  | none :: t, j => by simp [f_fld, f_fld_len ad c t]
  | some none :: t, j => by simp [f_fld, f_fld_len ad c t]
  | some (some r) :: t, j => by simp [f_fld, f_fld_len ad c t]
theorem f_fld_set (ad : Nat → Nat) (c : Nat → Int32) (fs : List (Option (Option Nat))) (k : Nat) (v : Int32) (h : fs[k]? = some none) : (f_fld ad c 0 fs).set k (.int v) = f_fld ad (upd c k v) 0 fs := by
  apply List.ext_getElem?
  intro i
  have hl : k < (f_fld ad c 0 fs).length := by rw [f_fld_len]; exact (List.getElem?_eq_some_iff.mp h).1
  by_cases hi : i = k
  · subst hi
    rw [List.getElem?_set_self hl, f_fld_get, h]
    simp [upd]
  · rw [List.getElem?_set_ne (Ne.symm hi), f_fld_get, f_fld_get]
    congr 1
    funext x
    match x with
    | none => simp [upd, hi]
    | some none => rfl
    | some (some r) => rfl
/-! locals -/
def f_lv : Nat → f_L → List (Nat × Value)
  | _, [] => []
  | i, none :: t => f_lv (i + 1) t
  | i, some v :: t => (i, v) :: f_lv (i + 1) t
theorem f_lv_mem : ∀ (L : f_L) (i : Nat) (q : Nat × Value), q ∈ f_lv i L ↔ ∃ j, q.1 = i + j ∧ L[j]? = some (some q.2)
  | [], i, q => by simp [f_lv]
  | none :: t, i, q => by
    simp only [f_lv]
    rw [f_lv_mem t (i + 1) q]
    constructor
    · rintro ⟨j, h1, h2⟩; exact ⟨j + 1, by omega, by simpa using h2⟩
    · rintro ⟨j, h1, h2⟩
      cases j with
      | zero => simp at h2
      | succ j => exact ⟨j, by omega, by simpa using h2⟩
  | some v :: t, i, q => by
    simp only [f_lv, List.mem_cons]
    rw [f_lv_mem t (i + 1) q]
    constructor
    · rintro (h | ⟨j, h1, h2⟩)
      · subst h; exact ⟨0, rfl, rfl⟩
      · exact ⟨j + 1, by omega, by simpa using h2⟩
    · rintro ⟨j, h1, h2⟩
      cases j with
      | zero =>
        left
        obtain ⟨a, b⟩ := q
        simp at h1 h2
        rw [h1, h2]
      | succ j => right; exact ⟨j, by omega, by simpa using h2⟩
def f_ls (ls : Array Slot) (nL : Nat) (L : f_L) : Prop := lv_has ls nL (f_lv 0 L) ∧ L.length = nL
theorem f_ls.at {ls : Array Slot} {nL : Nat} {L : f_L} (h : f_ls ls nL L) {i : Nat} {v : Value} (hi : L[i]? = some (some v)) : ls[i]? = some (.val v) := h.1.2.2 (i, v) ((f_lv_mem L 0 (i, v)).mpr ⟨i, by simp, hi⟩)
/-- the slot ahead holds no long's first half -/
def f_nl (L : f_L) : Nat → Bool
  | 0 => true
  | j + 1 => match L[j]? with
    | some (some v) => v.category == 1
    | _ => true
theorem f_ls_set {ls' : Array Slot} {nL : Nat} {L : f_L} {i : Nat} {v : Value} (hL : L.length = nL) (hp : f_nl L i = true) (h : lv_has ls' nL ((i, v) :: (f_lv 0 L).filter (fun q => !(q.1 == i) && !(q.1 + 1 == i && q.2.category == 2)))) : f_ls ls' nL (L.set i (some v)) := by
  refine ⟨⟨h.1, h.2.1, fun q hq => h.2.2 q ?_⟩, by rw [List.length_set]; exact hL⟩
  obtain ⟨j, h1, h2⟩ := (f_lv_mem _ 0 q).mp hq
  obtain ⟨a, b⟩ := q
  simp only [Nat.zero_add] at h1
  subst h1
  by_cases hj : a = i
  · subst hj
    have hl : a < L.length := by
      have := (List.getElem?_eq_some_iff.mp h2).1
      rwa [List.length_set] at this
    rw [List.getElem?_set_self hl] at h2
    cases h2
    exact List.mem_cons_self
  · rw [List.getElem?_set_ne (Ne.symm hj)] at h2
    refine List.mem_cons_of_mem _ (List.mem_filter.mpr ⟨(f_lv_mem _ 0 _).mpr ⟨a, by simp, h2⟩, ?_⟩)
    have h3 : (a == i) = false := by simpa using hj
    by_cases h4 : a + 1 = i
    · subst h4
      simp only [f_nl, h2] at hp
      have h5 : b.category = 1 := by simpa using hp
      simp [h3, h5]
    · simp [h3, h4]
theorem f_ls_set2 {ls' : Array Slot} {nL : Nat} {L : f_L} {i : Nat} {v : Value} (hL : L.length = nL) (hp : f_nl L i = true) (h : lv_has ls' nL ((i, v) :: (f_lv 0 L).filter (fun q => !(q.1 == i) && (!(q.1 == i + 1) && !(q.1 + 1 == i && q.2.category == 2))))) : f_ls ls' nL ((L.set i (some v)).set (i + 1) none) := by
  refine ⟨⟨h.1, h.2.1, fun q hq => h.2.2 q ?_⟩, by rw [List.length_set, List.length_set]; exact hL⟩
  obtain ⟨j, h1, h2⟩ := (f_lv_mem _ 0 q).mp hq
  obtain ⟨a, b⟩ := q
  simp only [Nat.zero_add] at h1
  subst h1
  have hl : a < L.length := by
    have := (List.getElem?_eq_some_iff.mp h2).1
    rwa [List.length_set, List.length_set] at this
  by_cases hj2 : a = i + 1
  · subst hj2
    rw [List.getElem?_set_self (by rw [List.length_set]; exact hl)] at h2
    cases h2
  rw [List.getElem?_set_ne (Ne.symm hj2)] at h2
  by_cases hj : a = i
  · subst hj
    rw [List.getElem?_set_self hl] at h2
    cases h2
    exact List.mem_cons_self
  · rw [List.getElem?_set_ne (Ne.symm hj)] at h2
    refine List.mem_cons_of_mem _ (List.mem_filter.mpr ⟨(f_lv_mem _ 0 _).mpr ⟨a, by simp, h2⟩, ?_⟩)
    have h3 : (a == i) = false := by simpa using hj
    have h3' : (a == i + 1) = false := by simpa using hj2
    by_cases h4 : a + 1 = i
    · subst h4
      simp only [f_nl, h2] at hp
      have h5 : b.category = 1 := by simpa using hp
      simp [h3, h3', h5]
    · simp [h3, h3', h4]
/-! contracts -/
def f_Q {ρ : Type} (E : f_E) (S : f_S) (enc : ρ → Option Value) (post : ρ → f_Mem → Prop) (A : Nat → Prop) : Array Value → State → Outcome → State → Prop := fun _ st o t => (∃ (r : ρ) (u : f_Mem), o = .returned (enc r) ∧ post r u ∧ f_P E S u t.heap ∧ f_K E t) ∧ va_F A st t
def f_Pc (E : f_E) (S : f_S) (av : List Value) (σ : f_Mem) (sz : Nat) : Array Value → State → Prop := va_Pc av (fun U => U.heap.size = sz ∧ f_P E S σ U.heap ∧ f_K E U ∧ f_NW U ∧ f_I E S)
def f_rm (d : Nat) : Room := { frames := d, cells := 0, slots := 0, locals := 60 * d }
def FM {ρ : Type} (E : f_E) (S : f_S) (Y : f_Y) (d : Nat) (av : List Value) (σ : f_Mem) (enc : ρ → Option Value) (post : ρ → f_Mem → Prop) : Prop :=
  ∀ sz : Nat, Met E.1 Y.1 (Cond.code Y.1 Y.2.1 Y.2.2.1 Y.2.2.2 :: tb) (f_rm d) (f_Pc E S av σ sz) (f_Q E S enc post (f_A E S sz)) 0 0 (f_A E S sz)
def eI : Int32 → Option Value := fun r => some (.int r)
def eV : Unit → Option Value := fun _ => none
def eL : Int64 → Option Value := fun r => some (.long r)
def eQ (E : f_E) : Option Nat → Option Value := fun r => some (va_rf (r.map (f_ad E)))
/-! what links a row to the tables -/
def f_FL (own : String) (index ci k : Nat) : Prop := ∃ (C : String) (T : u_T) (N : Nat), vwCl[ci]? = some (C, T, N) ∧ (∀ w ∈ u_ws C T N, w ∈ tb) ∧ k < N ∧ (Cond.fieldLink own index (T k).1 (T k).2.1 (T k).2.2.1 ∈ tb ∨ ∃ host, Cond.fieldLinkNest own index (T k).1 (T k).2.1 (T k).2.2.1 host ∈ nw)
def f_FP (own : String) (index ci k : Nat) : Prop := ∃ (C : String) (T : u_T) (N : Nat), vwCl[ci]? = some (C, T, N) ∧ (∀ w ∈ u_ws C T N, w ∈ tb) ∧ k < N ∧ (Cond.fieldLink own index (T k).1 (T k).2.1 (T k).2.2.1 ∈ tb ∨ ∃ host, Cond.fieldLinkNest own index (T k).1 (T k).2.1 (T k).2.2.1 host ∈ nw) ∧ (∃ ty0 : Nat → FieldType, ∀ k, k < N → parseFieldDescriptor (T k).2.2.1 = some (ty0 k)) ∧ (∀ a, a < N → ∀ b, b < N → a ≠ b → (T a).2.1 ≠ (T b).2.1) ∧ (T k).2.2.2 = false ∧ parseFieldDescriptor (T k).2.2.1 = some .int
def f_hd (Y : f_Y) (n : Nat) : Prop := (Y.1.cls ≠ "java/lang/invoke/MethodHandle" ∧ Y.1.cls ≠ "java/lang/invoke/VarHandle" ∧ (parseMethodDescriptor Y.1.desc).map (fun d => d.parameters.length) = some n) ∧ Y.2.2.1 ≤ 41
def f_LC (Y : f_Y) : Prop := Cond.code Y.1 Y.2.1 Y.2.2.1 Y.2.2.2 ∈ tb ∧ Cond.initialized Y.1.cls ∈ tb
def f_LV (own : String) (index : Nat) (Y : f_Y) (n : Nat) : Prop := f_LC Y ∧ Cond.instanceMethod Y.1 ∈ tb ∧ Cond.selects Y.1.cls Y.1 Y.1 ∈ tb ∧ (Cond.methodLink own index Y.1 ∈ tb ∨ ∃ host, Cond.methodLinkNest own index Y.1 host ∈ nw) ∧ f_hd Y n
def f_LS (own : String) (index : Nat) (Y : f_Y) (n : Nat) : Prop := f_LC Y ∧ Cond.static Y.1 ∈ tb ∧ (Cond.methodLink own index Y.1 ∈ tb ∨ ∃ host, Cond.methodLinkNest own index Y.1 host ∈ nw) ∧ f_hd Y n

def r_iadd {ρ0 : Type} (cc : ByteArray) (own : String) (ret : Option FieldType) (D : Nat) (E : f_E) (S : f_S) (encR : ρ0 → Option Value) (post : ρ0 → f_Mem → Prop) (G : f_G) : Prop := ∀ (pc : Nat) (L : f_L) (st : List Value) (σ : f_Mem) (x y : Int32), (decode cc pc = .ok (.iadd, 1)) → G (pc + 1) L (.int (x + y) :: st) σ → G pc L (.int y :: .int x :: st) σ
def r_isub {ρ0 : Type} (cc : ByteArray) (own : String) (ret : Option FieldType) (D : Nat) (E : f_E) (S : f_S) (encR : ρ0 → Option Value) (post : ρ0 → f_Mem → Prop) (G : f_G) : Prop := ∀ (pc : Nat) (L : f_L) (st : List Value) (σ : f_Mem) (x y : Int32), (decode cc pc = .ok (.isub, 1)) → G (pc + 1) L (.int (x - y) :: st) σ → G pc L (.int y :: .int x :: st) σ
def r_imul {ρ0 : Type} (cc : ByteArray) (own : String) (ret : Option FieldType) (D : Nat) (E : f_E) (S : f_S) (encR : ρ0 → Option Value) (post : ρ0 → f_Mem → Prop) (G : f_G) : Prop := ∀ (pc : Nat) (L : f_L) (st : List Value) (σ : f_Mem) (x y : Int32), (decode cc pc = .ok (.imul, 1)) → G (pc + 1) L (.int (x * y) :: st) σ → G pc L (.int y :: .int x :: st) σ
def r_idiv {ρ0 : Type} (cc : ByteArray) (own : String) (ret : Option FieldType) (D : Nat) (E : f_E) (S : f_S) (encR : ρ0 → Option Value) (post : ρ0 → f_Mem → Prop) (G : f_G) : Prop := ∀ (pc : Nat) (L : f_L) (st : List Value) (σ : f_Mem) (x y : Int32), (decode cc pc = .ok (.idiv, 1)) → (¬ y = 0) → G (pc + 1) L (.int (x / y) :: st) σ → G pc L (.int y :: .int x :: st) σ
def r_irem {ρ0 : Type} (cc : ByteArray) (own : String) (ret : Option FieldType) (D : Nat) (E : f_E) (S : f_S) (encR : ρ0 → Option Value) (post : ρ0 → f_Mem → Prop) (G : f_G) : Prop := ∀ (pc : Nat) (L : f_L) (st : List Value) (σ : f_Mem) (x y : Int32), (decode cc pc = .ok (.irem, 1)) → (¬ y = 0) → G (pc + 1) L (.int (x - x / y * y) :: st) σ → G pc L (.int y :: .int x :: st) σ
def r_iand {ρ0 : Type} (cc : ByteArray) (own : String) (ret : Option FieldType) (D : Nat) (E : f_E) (S : f_S) (encR : ρ0 → Option Value) (post : ρ0 → f_Mem → Prop) (G : f_G) : Prop := ∀ (pc : Nat) (L : f_L) (st : List Value) (σ : f_Mem) (x y : Int32), (decode cc pc = .ok (.iand, 1)) → G (pc + 1) L (.int (x &&& y) :: st) σ → G pc L (.int y :: .int x :: st) σ
def r_ior {ρ0 : Type} (cc : ByteArray) (own : String) (ret : Option FieldType) (D : Nat) (E : f_E) (S : f_S) (encR : ρ0 → Option Value) (post : ρ0 → f_Mem → Prop) (G : f_G) : Prop := ∀ (pc : Nat) (L : f_L) (st : List Value) (σ : f_Mem) (x y : Int32), (decode cc pc = .ok (.ior, 1)) → G (pc + 1) L (.int (x ||| y) :: st) σ → G pc L (.int y :: .int x :: st) σ
def r_ixor {ρ0 : Type} (cc : ByteArray) (own : String) (ret : Option FieldType) (D : Nat) (E : f_E) (S : f_S) (encR : ρ0 → Option Value) (post : ρ0 → f_Mem → Prop) (G : f_G) : Prop := ∀ (pc : Nat) (L : f_L) (st : List Value) (σ : f_Mem) (x y : Int32), (decode cc pc = .ok (.ixor, 1)) → G (pc + 1) L (.int (x ^^^ y) :: st) σ → G pc L (.int y :: .int x :: st) σ
def r_ishl {ρ0 : Type} (cc : ByteArray) (own : String) (ret : Option FieldType) (D : Nat) (E : f_E) (S : f_S) (encR : ρ0 → Option Value) (post : ρ0 → f_Mem → Prop) (G : f_G) : Prop := ∀ (pc : Nat) (L : f_L) (st : List Value) (σ : f_Mem) (x y : Int32), (decode cc pc = .ok (.ishl, 1)) → G (pc + 1) L (.int (x <<< (y &&& 31)) :: st) σ → G pc L (.int y :: .int x :: st) σ
def r_ishr {ρ0 : Type} (cc : ByteArray) (own : String) (ret : Option FieldType) (D : Nat) (E : f_E) (S : f_S) (encR : ρ0 → Option Value) (post : ρ0 → f_Mem → Prop) (G : f_G) : Prop := ∀ (pc : Nat) (L : f_L) (st : List Value) (σ : f_Mem) (x y : Int32), (decode cc pc = .ok (.ishr, 1)) → G (pc + 1) L (.int (x >>> (y &&& 31)) :: st) σ → G pc L (.int y :: .int x :: st) σ
def r_iushr {ρ0 : Type} (cc : ByteArray) (own : String) (ret : Option FieldType) (D : Nat) (E : f_E) (S : f_S) (encR : ρ0 → Option Value) (post : ρ0 → f_Mem → Prop) (G : f_G) : Prop := ∀ (pc : Nat) (L : f_L) (st : List Value) (σ : f_Mem) (x y v : Int32), (decode cc pc = .ok (.iushr, 1)) → ((x.toUInt32 >>> (y.toUInt32 &&& Int32.toUInt32 31)).toInt32 = v) → G (pc + 1) L (.int v :: st) σ → G pc L (.int y :: .int x :: st) σ
def r_ladd {ρ0 : Type} (cc : ByteArray) (own : String) (ret : Option FieldType) (D : Nat) (E : f_E) (S : f_S) (encR : ρ0 → Option Value) (post : ρ0 → f_Mem → Prop) (G : f_G) : Prop := ∀ (pc : Nat) (L : f_L) (st : List Value) (σ : f_Mem) (x y : Int64), (decode cc pc = .ok (.ladd, 1)) → G (pc + 1) L (.long (x + y) :: st) σ → G pc L (.long y :: .long x :: st) σ
def r_lmul {ρ0 : Type} (cc : ByteArray) (own : String) (ret : Option FieldType) (D : Nat) (E : f_E) (S : f_S) (encR : ρ0 → Option Value) (post : ρ0 → f_Mem → Prop) (G : f_G) : Prop := ∀ (pc : Nat) (L : f_L) (st : List Value) (σ : f_Mem) (x y : Int64), (decode cc pc = .ok (.lmul, 1)) → G (pc + 1) L (.long (x * y) :: st) σ → G pc L (.long y :: .long x :: st) σ
def r_ldiv {ρ0 : Type} (cc : ByteArray) (own : String) (ret : Option FieldType) (D : Nat) (E : f_E) (S : f_S) (encR : ρ0 → Option Value) (post : ρ0 → f_Mem → Prop) (G : f_G) : Prop := ∀ (pc : Nat) (L : f_L) (st : List Value) (σ : f_Mem) (x y : Int64), (decode cc pc = .ok (.ldiv, 1)) → (¬ y = 0) → G (pc + 1) L (.long (x / y) :: st) σ → G pc L (.long y :: .long x :: st) σ
def r_lrem {ρ0 : Type} (cc : ByteArray) (own : String) (ret : Option FieldType) (D : Nat) (E : f_E) (S : f_S) (encR : ρ0 → Option Value) (post : ρ0 → f_Mem → Prop) (G : f_G) : Prop := ∀ (pc : Nat) (L : f_L) (st : List Value) (σ : f_Mem) (x y : Int64), (decode cc pc = .ok (.lrem, 1)) → (¬ y = 0) → G (pc + 1) L (.long (x - x / y * y) :: st) σ → G pc L (.long y :: .long x :: st) σ
def r_i2l {ρ0 : Type} (cc : ByteArray) (own : String) (ret : Option FieldType) (D : Nat) (E : f_E) (S : f_S) (encR : ρ0 → Option Value) (post : ρ0 → f_Mem → Prop) (G : f_G) : Prop := ∀ (pc : Nat) (L : f_L) (st : List Value) (σ : f_Mem) (x : Int32), (decode cc pc = .ok (.i2l, 1)) → G (pc + 1) L (.long x.toInt64 :: st) σ → G pc L (.int x :: st) σ
def r_l2i {ρ0 : Type} (cc : ByteArray) (own : String) (ret : Option FieldType) (D : Nat) (E : f_E) (S : f_S) (encR : ρ0 → Option Value) (post : ρ0 → f_Mem → Prop) (G : f_G) : Prop := ∀ (pc : Nat) (L : f_L) (st : List Value) (σ : f_Mem) (x : Int64), (decode cc pc = .ok (.l2i, 1)) → G (pc + 1) L (.int x.toInt32 :: st) σ → G pc L (.long x :: st) σ
def r_lcmp {ρ0 : Type} (cc : ByteArray) (own : String) (ret : Option FieldType) (D : Nat) (E : f_E) (S : f_S) (encR : ρ0 → Option Value) (post : ρ0 → f_Mem → Prop) (G : f_G) : Prop := ∀ (pc : Nat) (L : f_L) (st : List Value) (σ : f_Mem) (x y : Int64), (decode cc pc = .ok (.lcmp, 1)) → G (pc + 1) L (.int (lg_cmp x y) :: st) σ → G pc L (.long y :: .long x :: st) σ
def r_iconst {ρ0 : Type} (cc : ByteArray) (own : String) (ret : Option FieldType) (D : Nat) (E : f_E) (S : f_S) (encR : ρ0 → Option Value) (post : ρ0 → f_Mem → Prop) (G : f_G) : Prop := ∀ (pc : Nat) (L : f_L) (st : List Value) (σ : f_Mem) (n : Int) (v : Int32), (decode cc pc = .ok ((.iconst n), 1)) → (Int32.ofInt n = v) → G (pc + 1) L (.int v :: st) σ → G pc L (st) σ
def r_bipush {ρ0 : Type} (cc : ByteArray) (own : String) (ret : Option FieldType) (D : Nat) (E : f_E) (S : f_S) (encR : ρ0 → Option Value) (post : ρ0 → f_Mem → Prop) (G : f_G) : Prop := ∀ (pc : Nat) (L : f_L) (st : List Value) (σ : f_Mem) (n : Int) (v : Int32), (decode cc pc = .ok ((.bipush n), 2)) → ((Int8.ofInt n).toInt32 = v) → G (pc + 2) L (.int v :: st) σ → G pc L (st) σ
def r_sipush {ρ0 : Type} (cc : ByteArray) (own : String) (ret : Option FieldType) (D : Nat) (E : f_E) (S : f_S) (encR : ρ0 → Option Value) (post : ρ0 → f_Mem → Prop) (G : f_G) : Prop := ∀ (pc : Nat) (L : f_L) (st : List Value) (σ : f_Mem) (n : Int) (v : Int32), (decode cc pc = .ok ((.sipush n), 3)) → ((Int16.ofInt n).toInt32 = v) → G (pc + 3) L (.int v :: st) σ → G pc L (st) σ
def r_lconst {ρ0 : Type} (cc : ByteArray) (own : String) (ret : Option FieldType) (D : Nat) (E : f_E) (S : f_S) (encR : ρ0 → Option Value) (post : ρ0 → f_Mem → Prop) (G : f_G) : Prop := ∀ (pc : Nat) (L : f_L) (st : List Value) (σ : f_Mem) (n : Fin 2) (v : Int64), (decode cc pc = .ok ((.lconst n), 1)) → (Int64.ofNat (n : Nat) = v) → G (pc + 1) L (.long v :: st) σ → G pc L (st) σ
def r_ldc {ρ0 : Type} (cc : ByteArray) (own : String) (ret : Option FieldType) (D : Nat) (E : f_E) (S : f_S) (encR : ρ0 → Option Value) (post : ρ0 → f_Mem → Prop) (G : f_G) : Prop := ∀ (pc : Nat) (L : f_L) (st : List Value) (σ : f_Mem) (i : Nat) (v : Int32), (decode cc pc = .ok ((.ldc i), 2)) → (Cond.constant own i v ∈ tb) → G (pc + 2) L (.int v :: st) σ → G pc L (st) σ
def r_ldcw {ρ0 : Type} (cc : ByteArray) (own : String) (ret : Option FieldType) (D : Nat) (E : f_E) (S : f_S) (encR : ρ0 → Option Value) (post : ρ0 → f_Mem → Prop) (G : f_G) : Prop := ∀ (pc : Nat) (L : f_L) (st : List Value) (σ : f_Mem) (i : Nat) (v : Int32), (decode cc pc = .ok ((.ldc_w i), 3)) → (Cond.constant own i v ∈ tb) → G (pc + 3) L (.int v :: st) σ → G pc L (st) σ
def r_ldc2 {ρ0 : Type} (cc : ByteArray) (own : String) (ret : Option FieldType) (D : Nat) (E : f_E) (S : f_S) (encR : ρ0 → Option Value) (post : ρ0 → f_Mem → Prop) (G : f_G) : Prop := ∀ (pc : Nat) (L : f_L) (st : List Value) (σ : f_Mem) (i : Nat) (v : Int64), (decode cc pc = .ok ((.ldc2_w i), 3)) → (Cond.constantLong own i v ∈ tb) → G (pc + 3) L (.long v :: st) σ → G pc L (st) σ
def r_null {ρ0 : Type} (cc : ByteArray) (own : String) (ret : Option FieldType) (D : Nat) (E : f_E) (S : f_S) (encR : ρ0 → Option Value) (post : ρ0 → f_Mem → Prop) (G : f_G) : Prop := ∀ (pc : Nat) (L : f_L) (st : List Value) (σ : f_Mem), (decode cc pc = .ok (.aconst_null, 1)) → G (pc + 1) L (.null :: st) σ → G pc L (st) σ
def r_dup {ρ0 : Type} (cc : ByteArray) (own : String) (ret : Option FieldType) (D : Nat) (E : f_E) (S : f_S) (encR : ρ0 → Option Value) (post : ρ0 → f_Mem → Prop) (G : f_G) : Prop := ∀ (pc : Nat) (L : f_L) (st : List Value) (σ : f_Mem) (v : Value), (decode cc pc = .ok (.dup, 1)) → (v.category = 1) → G (pc + 1) L (v :: v :: st) σ → G pc L (v :: st) σ
def r_dup2 {ρ0 : Type} (cc : ByteArray) (own : String) (ret : Option FieldType) (D : Nat) (E : f_E) (S : f_S) (encR : ρ0 → Option Value) (post : ρ0 → f_Mem → Prop) (G : f_G) : Prop := ∀ (pc : Nat) (L : f_L) (st : List Value) (σ : f_Mem) (v w : Value), (decode cc pc = .ok (.dup2, 1)) → (v.category = 1) → (w.category = 1) → G (pc + 1) L (v :: w :: v :: w :: st) σ → G pc L (v :: w :: st) σ
def r_pop {ρ0 : Type} (cc : ByteArray) (own : String) (ret : Option FieldType) (D : Nat) (E : f_E) (S : f_S) (encR : ρ0 → Option Value) (post : ρ0 → f_Mem → Prop) (G : f_G) : Prop := ∀ (pc : Nat) (L : f_L) (st : List Value) (σ : f_Mem) (v : Value), (decode cc pc = .ok (.pop, 1)) → (v.category = 1) → G (pc + 1) L (st) σ → G pc L (v :: st) σ
def r_icmp_eq {ρ0 : Type} (cc : ByteArray) (own : String) (ret : Option FieldType) (D : Nat) (E : f_E) (S : f_S) (encR : ρ0 → Option Value) (post : ρ0 → f_Mem → Prop) (G : f_G) : Prop := ∀ (pc : Nat) (L : f_L) (st : List Value) (σ : f_Mem) (off : Int) (tgt : Nat) (x y : Int32), (decode cc pc = .ok (.if_icmp .eq off, 3)) → ((pc : Int) + off = (tgt : Int)) → (x = y → G tgt L st σ) → (¬ x = y → G (pc + 3) L st σ) → G pc L (.int y :: .int x :: st) σ
def r_icmp_ne {ρ0 : Type} (cc : ByteArray) (own : String) (ret : Option FieldType) (D : Nat) (E : f_E) (S : f_S) (encR : ρ0 → Option Value) (post : ρ0 → f_Mem → Prop) (G : f_G) : Prop := ∀ (pc : Nat) (L : f_L) (st : List Value) (σ : f_Mem) (off : Int) (tgt : Nat) (x y : Int32), (decode cc pc = .ok (.if_icmp .ne off, 3)) → ((pc : Int) + off = (tgt : Int)) → (x ≠ y → G tgt L st σ) → (x = y → G (pc + 3) L st σ) → G pc L (.int y :: .int x :: st) σ
def r_icmp_lt {ρ0 : Type} (cc : ByteArray) (own : String) (ret : Option FieldType) (D : Nat) (E : f_E) (S : f_S) (encR : ρ0 → Option Value) (post : ρ0 → f_Mem → Prop) (G : f_G) : Prop := ∀ (pc : Nat) (L : f_L) (st : List Value) (σ : f_Mem) (off : Int) (tgt : Nat) (x y : Int32), (decode cc pc = .ok (.if_icmp .lt off, 3)) → ((pc : Int) + off = (tgt : Int)) → (x < y → G tgt L st σ) → (¬ x < y → G (pc + 3) L st σ) → G pc L (.int y :: .int x :: st) σ
def r_icmp_ge {ρ0 : Type} (cc : ByteArray) (own : String) (ret : Option FieldType) (D : Nat) (E : f_E) (S : f_S) (encR : ρ0 → Option Value) (post : ρ0 → f_Mem → Prop) (G : f_G) : Prop := ∀ (pc : Nat) (L : f_L) (st : List Value) (σ : f_Mem) (off : Int) (tgt : Nat) (x y : Int32), (decode cc pc = .ok (.if_icmp .ge off, 3)) → ((pc : Int) + off = (tgt : Int)) → (y ≤ x → G tgt L st σ) → (¬ y ≤ x → G (pc + 3) L st σ) → G pc L (.int y :: .int x :: st) σ
def r_icmp_gt {ρ0 : Type} (cc : ByteArray) (own : String) (ret : Option FieldType) (D : Nat) (E : f_E) (S : f_S) (encR : ρ0 → Option Value) (post : ρ0 → f_Mem → Prop) (G : f_G) : Prop := ∀ (pc : Nat) (L : f_L) (st : List Value) (σ : f_Mem) (off : Int) (tgt : Nat) (x y : Int32), (decode cc pc = .ok (.if_icmp .gt off, 3)) → ((pc : Int) + off = (tgt : Int)) → (y < x → G tgt L st σ) → (¬ y < x → G (pc + 3) L st σ) → G pc L (.int y :: .int x :: st) σ
def r_icmp_le {ρ0 : Type} (cc : ByteArray) (own : String) (ret : Option FieldType) (D : Nat) (E : f_E) (S : f_S) (encR : ρ0 → Option Value) (post : ρ0 → f_Mem → Prop) (G : f_G) : Prop := ∀ (pc : Nat) (L : f_L) (st : List Value) (σ : f_Mem) (off : Int) (tgt : Nat) (x y : Int32), (decode cc pc = .ok (.if_icmp .le off, 3)) → ((pc : Int) + off = (tgt : Int)) → (x ≤ y → G tgt L st σ) → (¬ x ≤ y → G (pc + 3) L st σ) → G pc L (.int y :: .int x :: st) σ
def r_if_eq {ρ0 : Type} (cc : ByteArray) (own : String) (ret : Option FieldType) (D : Nat) (E : f_E) (S : f_S) (encR : ρ0 → Option Value) (post : ρ0 → f_Mem → Prop) (G : f_G) : Prop := ∀ (pc : Nat) (L : f_L) (st : List Value) (σ : f_Mem) (off : Int) (tgt : Nat) (x : Int32), (decode cc pc = .ok (.ifCond .eq off, 3)) → ((pc : Int) + off = (tgt : Int)) → (x = 0 → G tgt L st σ) → (¬ x = 0 → G (pc + 3) L st σ) → G pc L (.int x :: st) σ
def r_if_ne {ρ0 : Type} (cc : ByteArray) (own : String) (ret : Option FieldType) (D : Nat) (E : f_E) (S : f_S) (encR : ρ0 → Option Value) (post : ρ0 → f_Mem → Prop) (G : f_G) : Prop := ∀ (pc : Nat) (L : f_L) (st : List Value) (σ : f_Mem) (off : Int) (tgt : Nat) (x : Int32), (decode cc pc = .ok (.ifCond .ne off, 3)) → ((pc : Int) + off = (tgt : Int)) → (x ≠ 0 → G tgt L st σ) → (x = 0 → G (pc + 3) L st σ) → G pc L (.int x :: st) σ
def r_if_lt {ρ0 : Type} (cc : ByteArray) (own : String) (ret : Option FieldType) (D : Nat) (E : f_E) (S : f_S) (encR : ρ0 → Option Value) (post : ρ0 → f_Mem → Prop) (G : f_G) : Prop := ∀ (pc : Nat) (L : f_L) (st : List Value) (σ : f_Mem) (off : Int) (tgt : Nat) (x : Int32), (decode cc pc = .ok (.ifCond .lt off, 3)) → ((pc : Int) + off = (tgt : Int)) → (x < 0 → G tgt L st σ) → (¬ x < 0 → G (pc + 3) L st σ) → G pc L (.int x :: st) σ
def r_if_ge {ρ0 : Type} (cc : ByteArray) (own : String) (ret : Option FieldType) (D : Nat) (E : f_E) (S : f_S) (encR : ρ0 → Option Value) (post : ρ0 → f_Mem → Prop) (G : f_G) : Prop := ∀ (pc : Nat) (L : f_L) (st : List Value) (σ : f_Mem) (off : Int) (tgt : Nat) (x : Int32), (decode cc pc = .ok (.ifCond .ge off, 3)) → ((pc : Int) + off = (tgt : Int)) → (0 ≤ x → G tgt L st σ) → (¬ 0 ≤ x → G (pc + 3) L st σ) → G pc L (.int x :: st) σ
def r_if_gt {ρ0 : Type} (cc : ByteArray) (own : String) (ret : Option FieldType) (D : Nat) (E : f_E) (S : f_S) (encR : ρ0 → Option Value) (post : ρ0 → f_Mem → Prop) (G : f_G) : Prop := ∀ (pc : Nat) (L : f_L) (st : List Value) (σ : f_Mem) (off : Int) (tgt : Nat) (x : Int32), (decode cc pc = .ok (.ifCond .gt off, 3)) → ((pc : Int) + off = (tgt : Int)) → (0 < x → G tgt L st σ) → (¬ 0 < x → G (pc + 3) L st σ) → G pc L (.int x :: st) σ
def r_if_le {ρ0 : Type} (cc : ByteArray) (own : String) (ret : Option FieldType) (D : Nat) (E : f_E) (S : f_S) (encR : ρ0 → Option Value) (post : ρ0 → f_Mem → Prop) (G : f_G) : Prop := ∀ (pc : Nat) (L : f_L) (st : List Value) (σ : f_Mem) (off : Int) (tgt : Nat) (x : Int32), (decode cc pc = .ok (.ifCond .le off, 3)) → ((pc : Int) + off = (tgt : Int)) → (x ≤ 0 → G tgt L st σ) → (¬ x ≤ 0 → G (pc + 3) L st σ) → G pc L (.int x :: st) σ
def r_goto {ρ0 : Type} (cc : ByteArray) (own : String) (ret : Option FieldType) (D : Nat) (E : f_E) (S : f_S) (encR : ρ0 → Option Value) (post : ρ0 → f_Mem → Prop) (G : f_G) : Prop := ∀ (pc : Nat) (L : f_L) (st : List Value) (σ : f_Mem) (off : Int) (tgt : Nat), (decode cc pc = .ok (.goto off, 3)) → ((pc : Int) + off = (tgt : Int)) → G tgt L st σ → G pc L st σ
def r_ifnull {ρ0 : Type} (cc : ByteArray) (own : String) (ret : Option FieldType) (D : Nat) (E : f_E) (S : f_S) (encR : ρ0 → Option Value) (post : ρ0 → f_Mem → Prop) (G : f_G) : Prop := ∀ (pc : Nat) (L : f_L) (st : List Value) (σ : f_Mem) (off : Int) (x : Nat), (decode cc pc = .ok (.ifnull off, 3)) → G (pc + 3) L st σ → G pc L (.ref x :: st) σ
def r_ifnullN {ρ0 : Type} (cc : ByteArray) (own : String) (ret : Option FieldType) (D : Nat) (E : f_E) (S : f_S) (encR : ρ0 → Option Value) (post : ρ0 → f_Mem → Prop) (G : f_G) : Prop := ∀ (pc : Nat) (L : f_L) (st : List Value) (σ : f_Mem) (off : Int) (tgt : Nat), (decode cc pc = .ok (.ifnull off, 3)) → ((pc : Int) + off = (tgt : Int)) → G tgt L st σ → G pc L (.null :: st) σ
def r_ifnonnull {ρ0 : Type} (cc : ByteArray) (own : String) (ret : Option FieldType) (D : Nat) (E : f_E) (S : f_S) (encR : ρ0 → Option Value) (post : ρ0 → f_Mem → Prop) (G : f_G) : Prop := ∀ (pc : Nat) (L : f_L) (st : List Value) (σ : f_Mem) (off : Int) (tgt : Nat) (x : Nat), (decode cc pc = .ok (.ifnonnull off, 3)) → ((pc : Int) + off = (tgt : Int)) → G tgt L st σ → G pc L (.ref x :: st) σ
def r_ifnonnullN {ρ0 : Type} (cc : ByteArray) (own : String) (ret : Option FieldType) (D : Nat) (E : f_E) (S : f_S) (encR : ρ0 → Option Value) (post : ρ0 → f_Mem → Prop) (G : f_G) : Prop := ∀ (pc : Nat) (L : f_L) (st : List Value) (σ : f_Mem) (off : Int), (decode cc pc = .ok (.ifnonnull off, 3)) → G (pc + 3) L st σ → G pc L (.null :: st) σ
def r_tblIn {ρ0 : Type} (cc : ByteArray) (own : String) (ret : Option FieldType) (D : Nat) (E : f_E) (S : f_S) (encR : ρ0 → Option Value) (post : ρ0 → f_Mem → Prop) (G : f_G) : Prop := ∀ (pc : Nat) (L : f_L) (st : List Value) (σ : f_Mem) (dflt lo hi : Int) (offs : Array Int) (len : Nat) (x : Int32) (off : Int) (tgt : Nat), (decode cc pc = .ok (.tableswitch dflt lo hi offs, len)) → (¬ x.toInt < lo) → (¬ hi < x.toInt) → (offs[(x.toInt - lo).toNat]? = some off) → ((pc : Int) + off = (tgt : Int)) → G tgt L st σ → G pc L (.int x :: st) σ
def r_tblOut {ρ0 : Type} (cc : ByteArray) (own : String) (ret : Option FieldType) (D : Nat) (E : f_E) (S : f_S) (encR : ρ0 → Option Value) (post : ρ0 → f_Mem → Prop) (G : f_G) : Prop := ∀ (pc : Nat) (L : f_L) (st : List Value) (σ : f_Mem) (dflt lo hi : Int) (offs : Array Int) (len : Nat) (x : Int32) (tgt : Nat), (decode cc pc = .ok (.tableswitch dflt lo hi offs, len)) → (x.toInt < lo ∨ hi < x.toInt) → ((pc : Int) + dflt = (tgt : Int)) → G tgt L st σ → G pc L (.int x :: st) σ
def r_iload_n {ρ0 : Type} (cc : ByteArray) (own : String) (ret : Option FieldType) (D : Nat) (E : f_E) (S : f_S) (encR : ρ0 → Option Value) (post : ρ0 → f_Mem → Prop) (G : f_G) : Prop := ∀ (pc : Nat) (L : f_L) (st : List Value) (σ : f_Mem) (k : Fin 4) (x : Int32), (decode cc pc = .ok (.iload_n k, 1)) → (L[(k : Nat)]? = some (some (.int x))) → G (pc + 1) L (.int x :: st) σ → G pc L st σ
def r_iload {ρ0 : Type} (cc : ByteArray) (own : String) (ret : Option FieldType) (D : Nat) (E : f_E) (S : f_S) (encR : ρ0 → Option Value) (post : ρ0 → f_Mem → Prop) (G : f_G) : Prop := ∀ (pc : Nat) (L : f_L) (st : List Value) (σ : f_Mem) (k : Nat) (x : Int32), (decode cc pc = .ok (.iload k, 2)) → (L[k]? = some (some (.int x))) → G (pc + 2) L (.int x :: st) σ → G pc L st σ
def r_aload_n {ρ0 : Type} (cc : ByteArray) (own : String) (ret : Option FieldType) (D : Nat) (E : f_E) (S : f_S) (encR : ρ0 → Option Value) (post : ρ0 → f_Mem → Prop) (G : f_G) : Prop := ∀ (pc : Nat) (L : f_L) (st : List Value) (σ : f_Mem) (k : Fin 4) (x : Nat), (decode cc pc = .ok (.aload_n k, 1)) → (L[(k : Nat)]? = some (some (.ref x))) → G (pc + 1) L (.ref x :: st) σ → G pc L st σ
def r_aload {ρ0 : Type} (cc : ByteArray) (own : String) (ret : Option FieldType) (D : Nat) (E : f_E) (S : f_S) (encR : ρ0 → Option Value) (post : ρ0 → f_Mem → Prop) (G : f_G) : Prop := ∀ (pc : Nat) (L : f_L) (st : List Value) (σ : f_Mem) (k : Nat) (x : Nat), (decode cc pc = .ok (.aload k, 2)) → (L[k]? = some (some (.ref x))) → G (pc + 2) L (.ref x :: st) σ → G pc L st σ
def r_aloadN_n {ρ0 : Type} (cc : ByteArray) (own : String) (ret : Option FieldType) (D : Nat) (E : f_E) (S : f_S) (encR : ρ0 → Option Value) (post : ρ0 → f_Mem → Prop) (G : f_G) : Prop := ∀ (pc : Nat) (L : f_L) (st : List Value) (σ : f_Mem) (k : Fin 4), (decode cc pc = .ok (.aload_n k, 1)) → (L[(k : Nat)]? = some (some (.null))) → G (pc + 1) L (.null :: st) σ → G pc L st σ
def r_aloadN {ρ0 : Type} (cc : ByteArray) (own : String) (ret : Option FieldType) (D : Nat) (E : f_E) (S : f_S) (encR : ρ0 → Option Value) (post : ρ0 → f_Mem → Prop) (G : f_G) : Prop := ∀ (pc : Nat) (L : f_L) (st : List Value) (σ : f_Mem) (k : Nat), (decode cc pc = .ok (.aload k, 2)) → (L[k]? = some (some (.null))) → G (pc + 2) L (.null :: st) σ → G pc L st σ
def r_lload_n {ρ0 : Type} (cc : ByteArray) (own : String) (ret : Option FieldType) (D : Nat) (E : f_E) (S : f_S) (encR : ρ0 → Option Value) (post : ρ0 → f_Mem → Prop) (G : f_G) : Prop := ∀ (pc : Nat) (L : f_L) (st : List Value) (σ : f_Mem) (k : Fin 4) (x : Int64), (decode cc pc = .ok (.lload_n k, 1)) → (L[(k : Nat)]? = some (some (.long x))) → G (pc + 1) L (.long x :: st) σ → G pc L st σ
def r_lload {ρ0 : Type} (cc : ByteArray) (own : String) (ret : Option FieldType) (D : Nat) (E : f_E) (S : f_S) (encR : ρ0 → Option Value) (post : ρ0 → f_Mem → Prop) (G : f_G) : Prop := ∀ (pc : Nat) (L : f_L) (st : List Value) (σ : f_Mem) (k : Nat) (x : Int64), (decode cc pc = .ok (.lload k, 2)) → (L[k]? = some (some (.long x))) → G (pc + 2) L (.long x :: st) σ → G pc L st σ
def r_istore_n {ρ0 : Type} (cc : ByteArray) (own : String) (ret : Option FieldType) (D : Nat) (E : f_E) (S : f_S) (encR : ρ0 → Option Value) (post : ρ0 → f_Mem → Prop) (G : f_G) : Prop := ∀ (pc : Nat) (L : f_L) (st : List Value) (σ : f_Mem) (k : Fin 4) (x : Int32), (decode cc pc = .ok (.istore_n k, 1)) → ((k : Nat) < L.length) → (f_nl L k = true) → G (pc + 1) (L.set k (some (.int x))) st σ → G pc L (.int x :: st) σ
def r_istore {ρ0 : Type} (cc : ByteArray) (own : String) (ret : Option FieldType) (D : Nat) (E : f_E) (S : f_S) (encR : ρ0 → Option Value) (post : ρ0 → f_Mem → Prop) (G : f_G) : Prop := ∀ (pc : Nat) (L : f_L) (st : List Value) (σ : f_Mem) (k : Nat) (x : Int32), (decode cc pc = .ok (.istore k, 2)) → (k < L.length) → (f_nl L k = true) → G (pc + 2) (L.set k (some (.int x))) st σ → G pc L (.int x :: st) σ
def r_astore_n {ρ0 : Type} (cc : ByteArray) (own : String) (ret : Option FieldType) (D : Nat) (E : f_E) (S : f_S) (encR : ρ0 → Option Value) (post : ρ0 → f_Mem → Prop) (G : f_G) : Prop := ∀ (pc : Nat) (L : f_L) (st : List Value) (σ : f_Mem) (k : Fin 4) (x : Nat), (decode cc pc = .ok (.astore_n k, 1)) → ((k : Nat) < L.length) → (f_nl L k = true) → G (pc + 1) (L.set k (some (.ref x))) st σ → G pc L (.ref x :: st) σ
def r_astore {ρ0 : Type} (cc : ByteArray) (own : String) (ret : Option FieldType) (D : Nat) (E : f_E) (S : f_S) (encR : ρ0 → Option Value) (post : ρ0 → f_Mem → Prop) (G : f_G) : Prop := ∀ (pc : Nat) (L : f_L) (st : List Value) (σ : f_Mem) (k : Nat) (x : Nat), (decode cc pc = .ok (.astore k, 2)) → (k < L.length) → (f_nl L k = true) → G (pc + 2) (L.set k (some (.ref x))) st σ → G pc L (.ref x :: st) σ
def r_astoreN_n {ρ0 : Type} (cc : ByteArray) (own : String) (ret : Option FieldType) (D : Nat) (E : f_E) (S : f_S) (encR : ρ0 → Option Value) (post : ρ0 → f_Mem → Prop) (G : f_G) : Prop := ∀ (pc : Nat) (L : f_L) (st : List Value) (σ : f_Mem) (k : Fin 4), (decode cc pc = .ok (.astore_n k, 1)) → ((k : Nat) < L.length) → (f_nl L k = true) → G (pc + 1) (L.set k (some (.null))) st σ → G pc L (.null :: st) σ
def r_astoreN {ρ0 : Type} (cc : ByteArray) (own : String) (ret : Option FieldType) (D : Nat) (E : f_E) (S : f_S) (encR : ρ0 → Option Value) (post : ρ0 → f_Mem → Prop) (G : f_G) : Prop := ∀ (pc : Nat) (L : f_L) (st : List Value) (σ : f_Mem) (k : Nat), (decode cc pc = .ok (.astore k, 2)) → (k < L.length) → (f_nl L k = true) → G (pc + 2) (L.set k (some (.null))) st σ → G pc L (.null :: st) σ
def r_lstore_n {ρ0 : Type} (cc : ByteArray) (own : String) (ret : Option FieldType) (D : Nat) (E : f_E) (S : f_S) (encR : ρ0 → Option Value) (post : ρ0 → f_Mem → Prop) (G : f_G) : Prop := ∀ (pc : Nat) (L : f_L) (st : List Value) (σ : f_Mem) (k : Fin 4) (x : Int64), (decode cc pc = .ok (.lstore_n k, 1)) → ((k : Nat) + 1 < L.length) → (f_nl L k = true) → G (pc + 1) ((L.set k (some (.long x))).set (k + 1) none) st σ → G pc L (.long x :: st) σ
def r_lstore {ρ0 : Type} (cc : ByteArray) (own : String) (ret : Option FieldType) (D : Nat) (E : f_E) (S : f_S) (encR : ρ0 → Option Value) (post : ρ0 → f_Mem → Prop) (G : f_G) : Prop := ∀ (pc : Nat) (L : f_L) (st : List Value) (σ : f_Mem) (k : Nat) (x : Int64), (decode cc pc = .ok (.lstore k, 2)) → (k + 1 < L.length) → (f_nl L k = true) → G (pc + 2) ((L.set k (some (.long x))).set (k + 1) none) st σ → G pc L (.long x :: st) σ
def r_iinc {ρ0 : Type} (cc : ByteArray) (own : String) (ret : Option FieldType) (D : Nat) (E : f_E) (S : f_S) (encR : ρ0 → Option Value) (post : ρ0 → f_Mem → Prop) (G : f_G) : Prop := ∀ (pc : Nat) (L : f_L) (st : List Value) (σ : f_Mem) (k : Nat) (n : Int) (x v : Int32), (decode cc pc = .ok (.iinc k n, 3)) → (L[k]? = some (some (.int x))) → (x + Int32.ofInt n = v) → (f_nl L k = true) → G (pc + 3) (L.set k (some (.int v))) st σ → G pc L st σ
def r_getI {ρ0 : Type} (cc : ByteArray) (own : String) (ret : Option FieldType) (D : Nat) (E : f_E) (S : f_S) (encR : ρ0 → Option Value) (post : ρ0 → f_Mem → Prop) (G : f_G) : Prop := ∀ (pc : Nat) (L : f_L) (st : List Value) (σ : f_Mem) (i ci k n : Nat) (fs : List (Option (Option Nat))), (decode cc pc = .ok (.getfield i, 3)) → (f_FL own i ci k) → (n < S.1) → (S.2 n = .inl (ci, fs)) → (fs[k]? = some none) → G (pc + 3) L (.int (σ n k) :: st) σ → G pc L (.ref (f_ad E n) :: st) σ
def r_getR {ρ0 : Type} (cc : ByteArray) (own : String) (ret : Option FieldType) (D : Nat) (E : f_E) (S : f_S) (encR : ρ0 → Option Value) (post : ρ0 → f_Mem → Prop) (G : f_G) : Prop := ∀ (pc : Nat) (L : f_L) (st : List Value) (σ : f_Mem) (i ci k n r : Nat) (fs : List (Option (Option Nat))), (decode cc pc = .ok (.getfield i, 3)) → (f_FL own i ci k) → (n < S.1) → (S.2 n = .inl (ci, fs)) → (fs[k]? = some (some (some r))) → G (pc + 3) L (.ref (f_ad E r) :: st) σ → G pc L (.ref (f_ad E n) :: st) σ
def r_getN {ρ0 : Type} (cc : ByteArray) (own : String) (ret : Option FieldType) (D : Nat) (E : f_E) (S : f_S) (encR : ρ0 → Option Value) (post : ρ0 → f_Mem → Prop) (G : f_G) : Prop := ∀ (pc : Nat) (L : f_L) (st : List Value) (σ : f_Mem) (i ci k n : Nat) (fs : List (Option (Option Nat))), (decode cc pc = .ok (.getfield i, 3)) → (f_FL own i ci k) → (n < S.1) → (S.2 n = .inl (ci, fs)) → (fs[k]? = some (some none)) → G (pc + 3) L (.null :: st) σ → G pc L (.ref (f_ad E n) :: st) σ
def r_put {ρ0 : Type} (cc : ByteArray) (own : String) (ret : Option FieldType) (D : Nat) (E : f_E) (S : f_S) (encR : ρ0 → Option Value) (post : ρ0 → f_Mem → Prop) (G : f_G) : Prop := ∀ (pc : Nat) (L : f_L) (st : List Value) (σ : f_Mem) (i ci k n : Nat) (fs : List (Option (Option Nat))) (v : Int32), (decode cc pc = .ok (.putfield i, 3)) → (f_FP own i ci k) → (n < S.1) → (S.2 n = .inl (ci, fs)) → (fs[k]? = some none) → G (pc + 3) L st (m_set σ n k v) → G pc L (.int v :: .ref (f_ad E n) :: st) σ
def r_ald {ρ0 : Type} (cc : ByteArray) (own : String) (ret : Option FieldType) (D : Nat) (E : f_E) (S : f_S) (encR : ρ0 → Option Value) (post : ρ0 → f_Mem → Prop) (G : f_G) : Prop := ∀ (pc : Nat) (L : f_L) (st : List Value) (σ : f_Mem) (n len : Nat) (i : Int32), (decode cc pc = .ok (.iaload, 1)) → (n < S.1) → (S.2 n = .inr (.inl len)) → (vp_in i len) → G (pc + 1) L (.int (σ n i.toNatClampNeg) :: st) σ → G pc L (.int i :: .ref (f_ad E n) :: st) σ
def r_ast {ρ0 : Type} (cc : ByteArray) (own : String) (ret : Option FieldType) (D : Nat) (E : f_E) (S : f_S) (encR : ρ0 → Option Value) (post : ρ0 → f_Mem → Prop) (G : f_G) : Prop := ∀ (pc : Nat) (L : f_L) (st : List Value) (σ : f_Mem) (n len : Nat) (i v : Int32), (decode cc pc = .ok (.iastore, 1)) → (n < S.1) → (S.2 n = .inr (.inl len)) → (vp_in i len) → G (pc + 1) L st (m_set σ n i.toNatClampNeg v) → G pc L (.int v :: .int i :: .ref (f_ad E n) :: st) σ
def r_alenI {ρ0 : Type} (cc : ByteArray) (own : String) (ret : Option FieldType) (D : Nat) (E : f_E) (S : f_S) (encR : ρ0 → Option Value) (post : ρ0 → f_Mem → Prop) (G : f_G) : Prop := ∀ (pc : Nat) (L : f_L) (st : List Value) (σ : f_Mem) (n len : Nat), (decode cc pc = .ok (.arraylength, 1)) → (n < S.1) → (S.2 n = .inr (.inl len)) → G (pc + 1) L (.int (Int32.ofNat len) :: st) σ → G pc L (.ref (f_ad E n) :: st) σ
def r_alenQ {ρ0 : Type} (cc : ByteArray) (own : String) (ret : Option FieldType) (D : Nat) (E : f_E) (S : f_S) (encR : ρ0 → Option Value) (post : ρ0 → f_Mem → Prop) (G : f_G) : Prop := ∀ (pc : Nat) (L : f_L) (st : List Value) (σ : f_Mem) (n len : Nat), (decode cc pc = .ok (.arraylength, 1)) → (n < S.1) → (S.2 n = .inr (.inr len)) → G (pc + 1) L (.int (Int32.ofNat len) :: st) σ → G pc L (.ref (f_ad E n) :: st) σ
def r_aldQ {ρ0 : Type} (cc : ByteArray) (own : String) (ret : Option FieldType) (D : Nat) (E : f_E) (S : f_S) (encR : ρ0 → Option Value) (post : ρ0 → f_Mem → Prop) (G : f_G) : Prop := ∀ (pc : Nat) (L : f_L) (st : List Value) (σ : f_Mem) (n len : Nat) (i : Int32), (decode cc pc = .ok (.aaload, 1)) → (n < S.1) → (S.2 n = .inr (.inr len)) → (vp_in i len) → G (pc + 1) L (.ref (f_ad E (σ n i.toNatClampNeg).toNatClampNeg) :: st) σ → G pc L (.int i :: .ref (f_ad E n) :: st) σ
def r_astQ {ρ0 : Type} (cc : ByteArray) (own : String) (ret : Option FieldType) (D : Nat) (E : f_E) (S : f_S) (encR : ρ0 → Option Value) (post : ρ0 → f_Mem → Prop) (G : f_G) : Prop := ∀ (pc : Nat) (L : f_L) (st : List Value) (σ : f_Mem) (n len r : Nat) (fs : List (Option (Option Nat))) (i : Int32), (decode cc pc = .ok (.aastore, 1)) → (n < S.1) → (S.2 n = .inr (.inr len)) → (vp_in i len) → (r < S.1) → (S.2 r = .inl (2, fs)) → (r < 2147483648) → G (pc + 1) L st (m_set σ n i.toNatClampNeg (Int32.ofNat r)) → G pc L (.ref (f_ad E r) :: .int i :: .ref (f_ad E n) :: st) σ
def r_max {ρ0 : Type} (cc : ByteArray) (own : String) (ret : Option FieldType) (D : Nat) (E : f_E) (S : f_S) (encR : ρ0 → Option Value) (post : ρ0 → f_Mem → Prop) (G : f_G) : Prop := ∀ (pc : Nat) (L : f_L) (st : List Value) (σ : f_Mem) (i : Nat) (x y : Int32), (decode cc pc = .ok (.invokestatic i, 3)) → (Cond.methodLink own i Lib.Math.max.name ∈ tb) → (1 ≤ D) → ((st.map fun v => v.category).sum ≤ 8) → G (pc + 3) L (.int (if x < y then y else x) :: st) σ → G pc L (.int y :: .int x :: st) σ
def r_min {ρ0 : Type} (cc : ByteArray) (own : String) (ret : Option FieldType) (D : Nat) (E : f_E) (S : f_S) (encR : ρ0 → Option Value) (post : ρ0 → f_Mem → Prop) (G : f_G) : Prop := ∀ (pc : Nat) (L : f_L) (st : List Value) (σ : f_Mem) (i : Nat) (x y : Int32), (decode cc pc = .ok (.invokestatic i, 3)) → (Cond.methodLink own i Lib.Math.min.name ∈ tb) → (1 ≤ D) → ((st.map fun v => v.category).sum ≤ 8) → G (pc + 3) L (.int (if y < x then y else x) :: st) σ → G pc L (.int y :: .int x :: st) σ
def r_copy {ρ0 : Type} (cc : ByteArray) (own : String) (ret : Option FieldType) (D : Nat) (E : f_E) (S : f_S) (encR : ρ0 → Option Value) (post : ρ0 → f_Mem → Prop) (G : f_G) : Prop := ∀ (pc : Nat) (L : f_L) (st : List Value) (σ : f_Mem) (i n0 n1 l0 l1 : Nat) (sp dp n : Int32), (decode cc pc = .ok (.invokestatic i, 3)) → (Cond.methodLink own i arraycopyName ∈ tb) → (1 ≤ D) → ((st.map fun v => v.category).sum ≤ 8) → (n0 < S.1) → (n1 < S.1) → (S.2 n0 = .inr (.inl l0)) → (S.2 n1 = .inr (.inl l1)) → (¬ sp < 0) → (¬ dp < 0) → (¬ n < 0) → (sp.toNatClampNeg + n.toNatClampNeg ≤ l0) → (dp.toNatClampNeg + n.toNatClampNeg ≤ l1) → G (pc + 3) L st (m_row σ n1 (va_cpy (σ n0) (σ n1) sp.toNatClampNeg dp.toNatClampNeg n.toNatClampNeg)) → G pc L (.int n :: .int dp :: .ref (f_ad E n1) :: .int sp :: .ref (f_ad E n0) :: st) σ
def r_callV {ρ0 : Type} (cc : ByteArray) (own : String) (ret : Option FieldType) (D : Nat) (E : f_E) (S : f_S) (encR : ρ0 → Option Value) (post : ρ0 → f_Mem → Prop) (G : f_G) : Prop := ∀ (ρ : Type) (pc : Nat) (L : f_L) (rest As : List Value) (σ : f_Mem) (i ci n d : Nat) (fs : List (Option (Option Nat))) (Y : f_Y) (enc : ρ → Option Value) (post2 : ρ → f_Mem → Prop), (decode cc pc = .ok (.invokevirtual i, 3)) → (f_LV own i Y As.length) → (n < S.1) → (S.2 n = .inl (ci, fs)) → ((vwCl[ci]?).map (fun q => q.1) = some Y.1.cls) → (FM E S Y d (.ref (f_ad E n) :: As) σ enc post2) → (d + 1 ≤ D) → ((rest.map fun v => v.category).sum ≤ 8) → (∀ (r : ρ) (u : f_Mem), post2 r u → G (pc + 3) L ((enc r).toList ++ rest) u) → G pc L (As.reverse ++ .ref (f_ad E n) :: rest) σ
def r_callS {ρ0 : Type} (cc : ByteArray) (own : String) (ret : Option FieldType) (D : Nat) (E : f_E) (S : f_S) (encR : ρ0 → Option Value) (post : ρ0 → f_Mem → Prop) (G : f_G) : Prop := ∀ (ρ : Type) (pc : Nat) (L : f_L) (rest As : List Value) (σ : f_Mem) (i d : Nat) (Y : f_Y) (enc : ρ → Option Value) (post2 : ρ → f_Mem → Prop), (decode cc pc = .ok (.invokestatic i, 3)) → (f_LS own i Y As.length) → (FM E S Y d As σ enc post2) → (d + 1 ≤ D) → ((rest.map fun v => v.category).sum ≤ 8) → (∀ (r : ρ) (u : f_Mem), post2 r u → G (pc + 3) L ((enc r).toList ++ rest) u) → G pc L (As.reverse ++ rest) σ
def r_iret {ρ0 : Type} (cc : ByteArray) (own : String) (ret : Option FieldType) (D : Nat) (E : f_E) (S : f_S) (encR : ρ0 → Option Value) (post : ρ0 → f_Mem → Prop) (G : f_G) : Prop := ∀ (pc : Nat) (L : f_L) (σ : f_Mem) (v : Int32) (ty : FieldType), (decode cc pc = .ok (.ireturn, 1)) → (ret = some ty) → (narrow ty (.int v) = .int v) → (∃ r, encR r = some (.int v) ∧ post r σ) → G pc L [.int v] σ
def r_vret {ρ0 : Type} (cc : ByteArray) (own : String) (ret : Option FieldType) (D : Nat) (E : f_E) (S : f_S) (encR : ρ0 → Option Value) (post : ρ0 → f_Mem → Prop) (G : f_G) : Prop := ∀ (pc : Nat) (L : f_L) (σ : f_Mem), (decode cc pc = .ok (.return_, 1)) → (ret = none) → (∃ r, encR r = none ∧ post r σ) → G pc L [] σ
def r_lret {ρ0 : Type} (cc : ByteArray) (own : String) (ret : Option FieldType) (D : Nat) (E : f_E) (S : f_S) (encR : ρ0 → Option Value) (post : ρ0 → f_Mem → Prop) (G : f_G) : Prop := ∀ (pc : Nat) (L : f_L) (σ : f_Mem) (v : Int64), (decode cc pc = .ok (.lreturn, 1)) → (ret = some .long) → (∃ r, encR r = some (.long v) ∧ post r σ) → G pc L [.long v] σ
def r_aret {ρ0 : Type} (cc : ByteArray) (own : String) (ret : Option FieldType) (D : Nat) (E : f_E) (S : f_S) (encR : ρ0 → Option Value) (post : ρ0 → f_Mem → Prop) (G : f_G) : Prop := ∀ (pc : Nat) (L : f_L) (σ : f_Mem) (v : Value) (cn : String), (decode cc pc = .ok (.areturn, 1)) → (ret = some (.object cn)) → (v = .null ∨ ∃ a, v = .ref a) → (∃ r, encR r = some v ∧ post r σ) → G pc L [v] σ
def Rul {ρ0 : Type} (cc : ByteArray) (own : String) (ret : Option FieldType) (D : Nat) (E : f_E) (S : f_S) (encR : ρ0 → Option Value) (post : ρ0 → f_Mem → Prop) (G : f_G) : Prop := r_iadd cc own ret D E S encR post G ∧ r_isub cc own ret D E S encR post G ∧ r_imul cc own ret D E S encR post G ∧ r_idiv cc own ret D E S encR post G ∧ r_irem cc own ret D E S encR post G ∧ r_iand cc own ret D E S encR post G ∧ r_ior cc own ret D E S encR post G ∧ r_ixor cc own ret D E S encR post G ∧ r_ishl cc own ret D E S encR post G ∧ r_ishr cc own ret D E S encR post G ∧ r_iushr cc own ret D E S encR post G ∧ r_ladd cc own ret D E S encR post G ∧ r_lmul cc own ret D E S encR post G ∧ r_ldiv cc own ret D E S encR post G ∧ r_lrem cc own ret D E S encR post G ∧ r_i2l cc own ret D E S encR post G ∧ r_l2i cc own ret D E S encR post G ∧ r_lcmp cc own ret D E S encR post G ∧ r_iconst cc own ret D E S encR post G ∧ r_bipush cc own ret D E S encR post G ∧ r_sipush cc own ret D E S encR post G ∧ r_lconst cc own ret D E S encR post G ∧ r_ldc cc own ret D E S encR post G ∧ r_ldcw cc own ret D E S encR post G ∧ r_ldc2 cc own ret D E S encR post G ∧ r_null cc own ret D E S encR post G ∧ r_dup cc own ret D E S encR post G ∧ r_dup2 cc own ret D E S encR post G ∧ r_pop cc own ret D E S encR post G ∧ r_icmp_eq cc own ret D E S encR post G ∧ r_icmp_ne cc own ret D E S encR post G ∧ r_icmp_lt cc own ret D E S encR post G ∧ r_icmp_ge cc own ret D E S encR post G ∧ r_icmp_gt cc own ret D E S encR post G ∧ r_icmp_le cc own ret D E S encR post G ∧ r_if_eq cc own ret D E S encR post G ∧ r_if_ne cc own ret D E S encR post G ∧ r_if_lt cc own ret D E S encR post G ∧ r_if_ge cc own ret D E S encR post G ∧ r_if_gt cc own ret D E S encR post G ∧ r_if_le cc own ret D E S encR post G ∧ r_goto cc own ret D E S encR post G ∧ r_ifnull cc own ret D E S encR post G ∧ r_ifnullN cc own ret D E S encR post G ∧ r_ifnonnull cc own ret D E S encR post G ∧ r_ifnonnullN cc own ret D E S encR post G ∧ r_tblIn cc own ret D E S encR post G ∧ r_tblOut cc own ret D E S encR post G ∧ r_iload_n cc own ret D E S encR post G ∧ r_iload cc own ret D E S encR post G ∧ r_aload_n cc own ret D E S encR post G ∧ r_aload cc own ret D E S encR post G ∧ r_aloadN_n cc own ret D E S encR post G ∧ r_aloadN cc own ret D E S encR post G ∧ r_lload_n cc own ret D E S encR post G ∧ r_lload cc own ret D E S encR post G ∧ r_istore_n cc own ret D E S encR post G ∧ r_istore cc own ret D E S encR post G ∧ r_astore_n cc own ret D E S encR post G ∧ r_astore cc own ret D E S encR post G ∧ r_astoreN_n cc own ret D E S encR post G ∧ r_astoreN cc own ret D E S encR post G ∧ r_lstore_n cc own ret D E S encR post G ∧ r_lstore cc own ret D E S encR post G ∧ r_iinc cc own ret D E S encR post G ∧ r_getI cc own ret D E S encR post G ∧ r_getR cc own ret D E S encR post G ∧ r_getN cc own ret D E S encR post G ∧ r_put cc own ret D E S encR post G ∧ r_ald cc own ret D E S encR post G ∧ r_ast cc own ret D E S encR post G ∧ r_alenI cc own ret D E S encR post G ∧ r_alenQ cc own ret D E S encR post G ∧ r_aldQ cc own ret D E S encR post G ∧ r_astQ cc own ret D E S encR post G ∧ r_max cc own ret D E S encR post G ∧ r_min cc own ret D E S encR post G ∧ r_copy cc own ret D E S encR post G ∧ r_callV cc own ret D E S encR post G ∧ r_callS cc own ret D E S encR post G ∧ r_iret cc own ret D E S encR post G ∧ r_vret cc own ret D E S encR post G ∧ r_lret cc own ret D E S encR post G ∧ r_aret cc own ret D E S encR post G
theorem k_iadd {ρ0 : Type} {cc : ByteArray} {own : String} {ret : Option FieldType} {D : Nat} {E : f_E} {S : f_S} {encR : ρ0 → Option Value} {post : ρ0 → f_Mem → Prop} {G : f_G} (hR : Rul cc own ret D E S encR post G) : r_iadd cc own ret D E S encR post G := hR.1
theorem k_isub {ρ0 : Type} {cc : ByteArray} {own : String} {ret : Option FieldType} {D : Nat} {E : f_E} {S : f_S} {encR : ρ0 → Option Value} {post : ρ0 → f_Mem → Prop} {G : f_G} (hR : Rul cc own ret D E S encR post G) : r_isub cc own ret D E S encR post G := hR.2.1
theorem k_imul {ρ0 : Type} {cc : ByteArray} {own : String} {ret : Option FieldType} {D : Nat} {E : f_E} {S : f_S} {encR : ρ0 → Option Value} {post : ρ0 → f_Mem → Prop} {G : f_G} (hR : Rul cc own ret D E S encR post G) : r_imul cc own ret D E S encR post G := hR.2.2.1
theorem k_idiv {ρ0 : Type} {cc : ByteArray} {own : String} {ret : Option FieldType} {D : Nat} {E : f_E} {S : f_S} {encR : ρ0 → Option Value} {post : ρ0 → f_Mem → Prop} {G : f_G} (hR : Rul cc own ret D E S encR post G) : r_idiv cc own ret D E S encR post G := hR.2.2.2.1
theorem k_irem {ρ0 : Type} {cc : ByteArray} {own : String} {ret : Option FieldType} {D : Nat} {E : f_E} {S : f_S} {encR : ρ0 → Option Value} {post : ρ0 → f_Mem → Prop} {G : f_G} (hR : Rul cc own ret D E S encR post G) : r_irem cc own ret D E S encR post G := hR.2.2.2.2.1
theorem k_iand {ρ0 : Type} {cc : ByteArray} {own : String} {ret : Option FieldType} {D : Nat} {E : f_E} {S : f_S} {encR : ρ0 → Option Value} {post : ρ0 → f_Mem → Prop} {G : f_G} (hR : Rul cc own ret D E S encR post G) : r_iand cc own ret D E S encR post G := hR.2.2.2.2.2.1
theorem k_ior {ρ0 : Type} {cc : ByteArray} {own : String} {ret : Option FieldType} {D : Nat} {E : f_E} {S : f_S} {encR : ρ0 → Option Value} {post : ρ0 → f_Mem → Prop} {G : f_G} (hR : Rul cc own ret D E S encR post G) : r_ior cc own ret D E S encR post G := hR.2.2.2.2.2.2.1
theorem k_ixor {ρ0 : Type} {cc : ByteArray} {own : String} {ret : Option FieldType} {D : Nat} {E : f_E} {S : f_S} {encR : ρ0 → Option Value} {post : ρ0 → f_Mem → Prop} {G : f_G} (hR : Rul cc own ret D E S encR post G) : r_ixor cc own ret D E S encR post G := hR.2.2.2.2.2.2.2.1
theorem k_ishl {ρ0 : Type} {cc : ByteArray} {own : String} {ret : Option FieldType} {D : Nat} {E : f_E} {S : f_S} {encR : ρ0 → Option Value} {post : ρ0 → f_Mem → Prop} {G : f_G} (hR : Rul cc own ret D E S encR post G) : r_ishl cc own ret D E S encR post G := hR.2.2.2.2.2.2.2.2.1
theorem k_ishr {ρ0 : Type} {cc : ByteArray} {own : String} {ret : Option FieldType} {D : Nat} {E : f_E} {S : f_S} {encR : ρ0 → Option Value} {post : ρ0 → f_Mem → Prop} {G : f_G} (hR : Rul cc own ret D E S encR post G) : r_ishr cc own ret D E S encR post G := hR.2.2.2.2.2.2.2.2.2.1
theorem k_iushr {ρ0 : Type} {cc : ByteArray} {own : String} {ret : Option FieldType} {D : Nat} {E : f_E} {S : f_S} {encR : ρ0 → Option Value} {post : ρ0 → f_Mem → Prop} {G : f_G} (hR : Rul cc own ret D E S encR post G) : r_iushr cc own ret D E S encR post G := hR.2.2.2.2.2.2.2.2.2.2.1
theorem k_ladd {ρ0 : Type} {cc : ByteArray} {own : String} {ret : Option FieldType} {D : Nat} {E : f_E} {S : f_S} {encR : ρ0 → Option Value} {post : ρ0 → f_Mem → Prop} {G : f_G} (hR : Rul cc own ret D E S encR post G) : r_ladd cc own ret D E S encR post G := hR.2.2.2.2.2.2.2.2.2.2.2.1
theorem k_lmul {ρ0 : Type} {cc : ByteArray} {own : String} {ret : Option FieldType} {D : Nat} {E : f_E} {S : f_S} {encR : ρ0 → Option Value} {post : ρ0 → f_Mem → Prop} {G : f_G} (hR : Rul cc own ret D E S encR post G) : r_lmul cc own ret D E S encR post G := hR.2.2.2.2.2.2.2.2.2.2.2.2.1
theorem k_ldiv {ρ0 : Type} {cc : ByteArray} {own : String} {ret : Option FieldType} {D : Nat} {E : f_E} {S : f_S} {encR : ρ0 → Option Value} {post : ρ0 → f_Mem → Prop} {G : f_G} (hR : Rul cc own ret D E S encR post G) : r_ldiv cc own ret D E S encR post G := hR.2.2.2.2.2.2.2.2.2.2.2.2.2.1
theorem k_lrem {ρ0 : Type} {cc : ByteArray} {own : String} {ret : Option FieldType} {D : Nat} {E : f_E} {S : f_S} {encR : ρ0 → Option Value} {post : ρ0 → f_Mem → Prop} {G : f_G} (hR : Rul cc own ret D E S encR post G) : r_lrem cc own ret D E S encR post G := hR.2.2.2.2.2.2.2.2.2.2.2.2.2.2.1
theorem k_i2l {ρ0 : Type} {cc : ByteArray} {own : String} {ret : Option FieldType} {D : Nat} {E : f_E} {S : f_S} {encR : ρ0 → Option Value} {post : ρ0 → f_Mem → Prop} {G : f_G} (hR : Rul cc own ret D E S encR post G) : r_i2l cc own ret D E S encR post G := hR.2.2.2.2.2.2.2.2.2.2.2.2.2.2.2.1
theorem k_l2i {ρ0 : Type} {cc : ByteArray} {own : String} {ret : Option FieldType} {D : Nat} {E : f_E} {S : f_S} {encR : ρ0 → Option Value} {post : ρ0 → f_Mem → Prop} {G : f_G} (hR : Rul cc own ret D E S encR post G) : r_l2i cc own ret D E S encR post G := hR.2.2.2.2.2.2.2.2.2.2.2.2.2.2.2.2.1
theorem k_lcmp {ρ0 : Type} {cc : ByteArray} {own : String} {ret : Option FieldType} {D : Nat} {E : f_E} {S : f_S} {encR : ρ0 → Option Value} {post : ρ0 → f_Mem → Prop} {G : f_G} (hR : Rul cc own ret D E S encR post G) : r_lcmp cc own ret D E S encR post G := hR.2.2.2.2.2.2.2.2.2.2.2.2.2.2.2.2.2.1
theorem k_iconst {ρ0 : Type} {cc : ByteArray} {own : String} {ret : Option FieldType} {D : Nat} {E : f_E} {S : f_S} {encR : ρ0 → Option Value} {post : ρ0 → f_Mem → Prop} {G : f_G} (hR : Rul cc own ret D E S encR post G) : r_iconst cc own ret D E S encR post G := hR.2.2.2.2.2.2.2.2.2.2.2.2.2.2.2.2.2.2.1
theorem k_bipush {ρ0 : Type} {cc : ByteArray} {own : String} {ret : Option FieldType} {D : Nat} {E : f_E} {S : f_S} {encR : ρ0 → Option Value} {post : ρ0 → f_Mem → Prop} {G : f_G} (hR : Rul cc own ret D E S encR post G) : r_bipush cc own ret D E S encR post G := hR.2.2.2.2.2.2.2.2.2.2.2.2.2.2.2.2.2.2.2.1
theorem k_sipush {ρ0 : Type} {cc : ByteArray} {own : String} {ret : Option FieldType} {D : Nat} {E : f_E} {S : f_S} {encR : ρ0 → Option Value} {post : ρ0 → f_Mem → Prop} {G : f_G} (hR : Rul cc own ret D E S encR post G) : r_sipush cc own ret D E S encR post G := hR.2.2.2.2.2.2.2.2.2.2.2.2.2.2.2.2.2.2.2.2.1
theorem k_lconst {ρ0 : Type} {cc : ByteArray} {own : String} {ret : Option FieldType} {D : Nat} {E : f_E} {S : f_S} {encR : ρ0 → Option Value} {post : ρ0 → f_Mem → Prop} {G : f_G} (hR : Rul cc own ret D E S encR post G) : r_lconst cc own ret D E S encR post G := hR.2.2.2.2.2.2.2.2.2.2.2.2.2.2.2.2.2.2.2.2.2.1
theorem k_ldc {ρ0 : Type} {cc : ByteArray} {own : String} {ret : Option FieldType} {D : Nat} {E : f_E} {S : f_S} {encR : ρ0 → Option Value} {post : ρ0 → f_Mem → Prop} {G : f_G} (hR : Rul cc own ret D E S encR post G) : r_ldc cc own ret D E S encR post G := hR.2.2.2.2.2.2.2.2.2.2.2.2.2.2.2.2.2.2.2.2.2.2.1
theorem k_ldcw {ρ0 : Type} {cc : ByteArray} {own : String} {ret : Option FieldType} {D : Nat} {E : f_E} {S : f_S} {encR : ρ0 → Option Value} {post : ρ0 → f_Mem → Prop} {G : f_G} (hR : Rul cc own ret D E S encR post G) : r_ldcw cc own ret D E S encR post G := hR.2.2.2.2.2.2.2.2.2.2.2.2.2.2.2.2.2.2.2.2.2.2.2.1
theorem k_ldc2 {ρ0 : Type} {cc : ByteArray} {own : String} {ret : Option FieldType} {D : Nat} {E : f_E} {S : f_S} {encR : ρ0 → Option Value} {post : ρ0 → f_Mem → Prop} {G : f_G} (hR : Rul cc own ret D E S encR post G) : r_ldc2 cc own ret D E S encR post G := hR.2.2.2.2.2.2.2.2.2.2.2.2.2.2.2.2.2.2.2.2.2.2.2.2.1
theorem k_null {ρ0 : Type} {cc : ByteArray} {own : String} {ret : Option FieldType} {D : Nat} {E : f_E} {S : f_S} {encR : ρ0 → Option Value} {post : ρ0 → f_Mem → Prop} {G : f_G} (hR : Rul cc own ret D E S encR post G) : r_null cc own ret D E S encR post G := hR.2.2.2.2.2.2.2.2.2.2.2.2.2.2.2.2.2.2.2.2.2.2.2.2.2.1
theorem k_dup {ρ0 : Type} {cc : ByteArray} {own : String} {ret : Option FieldType} {D : Nat} {E : f_E} {S : f_S} {encR : ρ0 → Option Value} {post : ρ0 → f_Mem → Prop} {G : f_G} (hR : Rul cc own ret D E S encR post G) : r_dup cc own ret D E S encR post G := hR.2.2.2.2.2.2.2.2.2.2.2.2.2.2.2.2.2.2.2.2.2.2.2.2.2.2.1
theorem k_dup2 {ρ0 : Type} {cc : ByteArray} {own : String} {ret : Option FieldType} {D : Nat} {E : f_E} {S : f_S} {encR : ρ0 → Option Value} {post : ρ0 → f_Mem → Prop} {G : f_G} (hR : Rul cc own ret D E S encR post G) : r_dup2 cc own ret D E S encR post G := hR.2.2.2.2.2.2.2.2.2.2.2.2.2.2.2.2.2.2.2.2.2.2.2.2.2.2.2.1
theorem k_pop {ρ0 : Type} {cc : ByteArray} {own : String} {ret : Option FieldType} {D : Nat} {E : f_E} {S : f_S} {encR : ρ0 → Option Value} {post : ρ0 → f_Mem → Prop} {G : f_G} (hR : Rul cc own ret D E S encR post G) : r_pop cc own ret D E S encR post G := hR.2.2.2.2.2.2.2.2.2.2.2.2.2.2.2.2.2.2.2.2.2.2.2.2.2.2.2.2.1
theorem k_icmp_eq {ρ0 : Type} {cc : ByteArray} {own : String} {ret : Option FieldType} {D : Nat} {E : f_E} {S : f_S} {encR : ρ0 → Option Value} {post : ρ0 → f_Mem → Prop} {G : f_G} (hR : Rul cc own ret D E S encR post G) : r_icmp_eq cc own ret D E S encR post G := hR.2.2.2.2.2.2.2.2.2.2.2.2.2.2.2.2.2.2.2.2.2.2.2.2.2.2.2.2.2.1
theorem k_icmp_ne {ρ0 : Type} {cc : ByteArray} {own : String} {ret : Option FieldType} {D : Nat} {E : f_E} {S : f_S} {encR : ρ0 → Option Value} {post : ρ0 → f_Mem → Prop} {G : f_G} (hR : Rul cc own ret D E S encR post G) : r_icmp_ne cc own ret D E S encR post G := hR.2.2.2.2.2.2.2.2.2.2.2.2.2.2.2.2.2.2.2.2.2.2.2.2.2.2.2.2.2.2.1
theorem k_icmp_lt {ρ0 : Type} {cc : ByteArray} {own : String} {ret : Option FieldType} {D : Nat} {E : f_E} {S : f_S} {encR : ρ0 → Option Value} {post : ρ0 → f_Mem → Prop} {G : f_G} (hR : Rul cc own ret D E S encR post G) : r_icmp_lt cc own ret D E S encR post G := hR.2.2.2.2.2.2.2.2.2.2.2.2.2.2.2.2.2.2.2.2.2.2.2.2.2.2.2.2.2.2.2.1
theorem k_icmp_ge {ρ0 : Type} {cc : ByteArray} {own : String} {ret : Option FieldType} {D : Nat} {E : f_E} {S : f_S} {encR : ρ0 → Option Value} {post : ρ0 → f_Mem → Prop} {G : f_G} (hR : Rul cc own ret D E S encR post G) : r_icmp_ge cc own ret D E S encR post G := hR.2.2.2.2.2.2.2.2.2.2.2.2.2.2.2.2.2.2.2.2.2.2.2.2.2.2.2.2.2.2.2.2.1
theorem k_icmp_gt {ρ0 : Type} {cc : ByteArray} {own : String} {ret : Option FieldType} {D : Nat} {E : f_E} {S : f_S} {encR : ρ0 → Option Value} {post : ρ0 → f_Mem → Prop} {G : f_G} (hR : Rul cc own ret D E S encR post G) : r_icmp_gt cc own ret D E S encR post G := hR.2.2.2.2.2.2.2.2.2.2.2.2.2.2.2.2.2.2.2.2.2.2.2.2.2.2.2.2.2.2.2.2.2.1
theorem k_icmp_le {ρ0 : Type} {cc : ByteArray} {own : String} {ret : Option FieldType} {D : Nat} {E : f_E} {S : f_S} {encR : ρ0 → Option Value} {post : ρ0 → f_Mem → Prop} {G : f_G} (hR : Rul cc own ret D E S encR post G) : r_icmp_le cc own ret D E S encR post G := hR.2.2.2.2.2.2.2.2.2.2.2.2.2.2.2.2.2.2.2.2.2.2.2.2.2.2.2.2.2.2.2.2.2.2.1
theorem k_if_eq {ρ0 : Type} {cc : ByteArray} {own : String} {ret : Option FieldType} {D : Nat} {E : f_E} {S : f_S} {encR : ρ0 → Option Value} {post : ρ0 → f_Mem → Prop} {G : f_G} (hR : Rul cc own ret D E S encR post G) : r_if_eq cc own ret D E S encR post G := hR.2.2.2.2.2.2.2.2.2.2.2.2.2.2.2.2.2.2.2.2.2.2.2.2.2.2.2.2.2.2.2.2.2.2.2.1
theorem k_if_ne {ρ0 : Type} {cc : ByteArray} {own : String} {ret : Option FieldType} {D : Nat} {E : f_E} {S : f_S} {encR : ρ0 → Option Value} {post : ρ0 → f_Mem → Prop} {G : f_G} (hR : Rul cc own ret D E S encR post G) : r_if_ne cc own ret D E S encR post G := hR.2.2.2.2.2.2.2.2.2.2.2.2.2.2.2.2.2.2.2.2.2.2.2.2.2.2.2.2.2.2.2.2.2.2.2.2.1
theorem k_if_lt {ρ0 : Type} {cc : ByteArray} {own : String} {ret : Option FieldType} {D : Nat} {E : f_E} {S : f_S} {encR : ρ0 → Option Value} {post : ρ0 → f_Mem → Prop} {G : f_G} (hR : Rul cc own ret D E S encR post G) : r_if_lt cc own ret D E S encR post G := hR.2.2.2.2.2.2.2.2.2.2.2.2.2.2.2.2.2.2.2.2.2.2.2.2.2.2.2.2.2.2.2.2.2.2.2.2.2.1
theorem k_if_ge {ρ0 : Type} {cc : ByteArray} {own : String} {ret : Option FieldType} {D : Nat} {E : f_E} {S : f_S} {encR : ρ0 → Option Value} {post : ρ0 → f_Mem → Prop} {G : f_G} (hR : Rul cc own ret D E S encR post G) : r_if_ge cc own ret D E S encR post G := hR.2.2.2.2.2.2.2.2.2.2.2.2.2.2.2.2.2.2.2.2.2.2.2.2.2.2.2.2.2.2.2.2.2.2.2.2.2.2.1
theorem k_if_gt {ρ0 : Type} {cc : ByteArray} {own : String} {ret : Option FieldType} {D : Nat} {E : f_E} {S : f_S} {encR : ρ0 → Option Value} {post : ρ0 → f_Mem → Prop} {G : f_G} (hR : Rul cc own ret D E S encR post G) : r_if_gt cc own ret D E S encR post G := hR.2.2.2.2.2.2.2.2.2.2.2.2.2.2.2.2.2.2.2.2.2.2.2.2.2.2.2.2.2.2.2.2.2.2.2.2.2.2.2.1
theorem k_if_le {ρ0 : Type} {cc : ByteArray} {own : String} {ret : Option FieldType} {D : Nat} {E : f_E} {S : f_S} {encR : ρ0 → Option Value} {post : ρ0 → f_Mem → Prop} {G : f_G} (hR : Rul cc own ret D E S encR post G) : r_if_le cc own ret D E S encR post G := hR.2.2.2.2.2.2.2.2.2.2.2.2.2.2.2.2.2.2.2.2.2.2.2.2.2.2.2.2.2.2.2.2.2.2.2.2.2.2.2.2.1
theorem k_goto {ρ0 : Type} {cc : ByteArray} {own : String} {ret : Option FieldType} {D : Nat} {E : f_E} {S : f_S} {encR : ρ0 → Option Value} {post : ρ0 → f_Mem → Prop} {G : f_G} (hR : Rul cc own ret D E S encR post G) : r_goto cc own ret D E S encR post G := hR.2.2.2.2.2.2.2.2.2.2.2.2.2.2.2.2.2.2.2.2.2.2.2.2.2.2.2.2.2.2.2.2.2.2.2.2.2.2.2.2.2.1
theorem k_ifnull {ρ0 : Type} {cc : ByteArray} {own : String} {ret : Option FieldType} {D : Nat} {E : f_E} {S : f_S} {encR : ρ0 → Option Value} {post : ρ0 → f_Mem → Prop} {G : f_G} (hR : Rul cc own ret D E S encR post G) : r_ifnull cc own ret D E S encR post G := hR.2.2.2.2.2.2.2.2.2.2.2.2.2.2.2.2.2.2.2.2.2.2.2.2.2.2.2.2.2.2.2.2.2.2.2.2.2.2.2.2.2.2.1
theorem k_ifnullN {ρ0 : Type} {cc : ByteArray} {own : String} {ret : Option FieldType} {D : Nat} {E : f_E} {S : f_S} {encR : ρ0 → Option Value} {post : ρ0 → f_Mem → Prop} {G : f_G} (hR : Rul cc own ret D E S encR post G) : r_ifnullN cc own ret D E S encR post G := hR.2.2.2.2.2.2.2.2.2.2.2.2.2.2.2.2.2.2.2.2.2.2.2.2.2.2.2.2.2.2.2.2.2.2.2.2.2.2.2.2.2.2.2.1
theorem k_ifnonnull {ρ0 : Type} {cc : ByteArray} {own : String} {ret : Option FieldType} {D : Nat} {E : f_E} {S : f_S} {encR : ρ0 → Option Value} {post : ρ0 → f_Mem → Prop} {G : f_G} (hR : Rul cc own ret D E S encR post G) : r_ifnonnull cc own ret D E S encR post G := hR.2.2.2.2.2.2.2.2.2.2.2.2.2.2.2.2.2.2.2.2.2.2.2.2.2.2.2.2.2.2.2.2.2.2.2.2.2.2.2.2.2.2.2.2.1
theorem k_ifnonnullN {ρ0 : Type} {cc : ByteArray} {own : String} {ret : Option FieldType} {D : Nat} {E : f_E} {S : f_S} {encR : ρ0 → Option Value} {post : ρ0 → f_Mem → Prop} {G : f_G} (hR : Rul cc own ret D E S encR post G) : r_ifnonnullN cc own ret D E S encR post G := hR.2.2.2.2.2.2.2.2.2.2.2.2.2.2.2.2.2.2.2.2.2.2.2.2.2.2.2.2.2.2.2.2.2.2.2.2.2.2.2.2.2.2.2.2.2.1
theorem k_tblIn {ρ0 : Type} {cc : ByteArray} {own : String} {ret : Option FieldType} {D : Nat} {E : f_E} {S : f_S} {encR : ρ0 → Option Value} {post : ρ0 → f_Mem → Prop} {G : f_G} (hR : Rul cc own ret D E S encR post G) : r_tblIn cc own ret D E S encR post G := hR.2.2.2.2.2.2.2.2.2.2.2.2.2.2.2.2.2.2.2.2.2.2.2.2.2.2.2.2.2.2.2.2.2.2.2.2.2.2.2.2.2.2.2.2.2.2.1
theorem k_tblOut {ρ0 : Type} {cc : ByteArray} {own : String} {ret : Option FieldType} {D : Nat} {E : f_E} {S : f_S} {encR : ρ0 → Option Value} {post : ρ0 → f_Mem → Prop} {G : f_G} (hR : Rul cc own ret D E S encR post G) : r_tblOut cc own ret D E S encR post G := hR.2.2.2.2.2.2.2.2.2.2.2.2.2.2.2.2.2.2.2.2.2.2.2.2.2.2.2.2.2.2.2.2.2.2.2.2.2.2.2.2.2.2.2.2.2.2.2.1
theorem k_iload_n {ρ0 : Type} {cc : ByteArray} {own : String} {ret : Option FieldType} {D : Nat} {E : f_E} {S : f_S} {encR : ρ0 → Option Value} {post : ρ0 → f_Mem → Prop} {G : f_G} (hR : Rul cc own ret D E S encR post G) : r_iload_n cc own ret D E S encR post G := hR.2.2.2.2.2.2.2.2.2.2.2.2.2.2.2.2.2.2.2.2.2.2.2.2.2.2.2.2.2.2.2.2.2.2.2.2.2.2.2.2.2.2.2.2.2.2.2.2.1
theorem k_iload {ρ0 : Type} {cc : ByteArray} {own : String} {ret : Option FieldType} {D : Nat} {E : f_E} {S : f_S} {encR : ρ0 → Option Value} {post : ρ0 → f_Mem → Prop} {G : f_G} (hR : Rul cc own ret D E S encR post G) : r_iload cc own ret D E S encR post G := hR.2.2.2.2.2.2.2.2.2.2.2.2.2.2.2.2.2.2.2.2.2.2.2.2.2.2.2.2.2.2.2.2.2.2.2.2.2.2.2.2.2.2.2.2.2.2.2.2.2.1
theorem k_aload_n {ρ0 : Type} {cc : ByteArray} {own : String} {ret : Option FieldType} {D : Nat} {E : f_E} {S : f_S} {encR : ρ0 → Option Value} {post : ρ0 → f_Mem → Prop} {G : f_G} (hR : Rul cc own ret D E S encR post G) : r_aload_n cc own ret D E S encR post G := hR.2.2.2.2.2.2.2.2.2.2.2.2.2.2.2.2.2.2.2.2.2.2.2.2.2.2.2.2.2.2.2.2.2.2.2.2.2.2.2.2.2.2.2.2.2.2.2.2.2.2.1
theorem k_aload {ρ0 : Type} {cc : ByteArray} {own : String} {ret : Option FieldType} {D : Nat} {E : f_E} {S : f_S} {encR : ρ0 → Option Value} {post : ρ0 → f_Mem → Prop} {G : f_G} (hR : Rul cc own ret D E S encR post G) : r_aload cc own ret D E S encR post G := hR.2.2.2.2.2.2.2.2.2.2.2.2.2.2.2.2.2.2.2.2.2.2.2.2.2.2.2.2.2.2.2.2.2.2.2.2.2.2.2.2.2.2.2.2.2.2.2.2.2.2.2.1
theorem k_aloadN_n {ρ0 : Type} {cc : ByteArray} {own : String} {ret : Option FieldType} {D : Nat} {E : f_E} {S : f_S} {encR : ρ0 → Option Value} {post : ρ0 → f_Mem → Prop} {G : f_G} (hR : Rul cc own ret D E S encR post G) : r_aloadN_n cc own ret D E S encR post G := hR.2.2.2.2.2.2.2.2.2.2.2.2.2.2.2.2.2.2.2.2.2.2.2.2.2.2.2.2.2.2.2.2.2.2.2.2.2.2.2.2.2.2.2.2.2.2.2.2.2.2.2.2.1
theorem k_aloadN {ρ0 : Type} {cc : ByteArray} {own : String} {ret : Option FieldType} {D : Nat} {E : f_E} {S : f_S} {encR : ρ0 → Option Value} {post : ρ0 → f_Mem → Prop} {G : f_G} (hR : Rul cc own ret D E S encR post G) : r_aloadN cc own ret D E S encR post G := hR.2.2.2.2.2.2.2.2.2.2.2.2.2.2.2.2.2.2.2.2.2.2.2.2.2.2.2.2.2.2.2.2.2.2.2.2.2.2.2.2.2.2.2.2.2.2.2.2.2.2.2.2.2.1
theorem k_lload_n {ρ0 : Type} {cc : ByteArray} {own : String} {ret : Option FieldType} {D : Nat} {E : f_E} {S : f_S} {encR : ρ0 → Option Value} {post : ρ0 → f_Mem → Prop} {G : f_G} (hR : Rul cc own ret D E S encR post G) : r_lload_n cc own ret D E S encR post G := hR.2.2.2.2.2.2.2.2.2.2.2.2.2.2.2.2.2.2.2.2.2.2.2.2.2.2.2.2.2.2.2.2.2.2.2.2.2.2.2.2.2.2.2.2.2.2.2.2.2.2.2.2.2.2.1
theorem k_lload {ρ0 : Type} {cc : ByteArray} {own : String} {ret : Option FieldType} {D : Nat} {E : f_E} {S : f_S} {encR : ρ0 → Option Value} {post : ρ0 → f_Mem → Prop} {G : f_G} (hR : Rul cc own ret D E S encR post G) : r_lload cc own ret D E S encR post G := hR.2.2.2.2.2.2.2.2.2.2.2.2.2.2.2.2.2.2.2.2.2.2.2.2.2.2.2.2.2.2.2.2.2.2.2.2.2.2.2.2.2.2.2.2.2.2.2.2.2.2.2.2.2.2.2.1
theorem k_istore_n {ρ0 : Type} {cc : ByteArray} {own : String} {ret : Option FieldType} {D : Nat} {E : f_E} {S : f_S} {encR : ρ0 → Option Value} {post : ρ0 → f_Mem → Prop} {G : f_G} (hR : Rul cc own ret D E S encR post G) : r_istore_n cc own ret D E S encR post G := hR.2.2.2.2.2.2.2.2.2.2.2.2.2.2.2.2.2.2.2.2.2.2.2.2.2.2.2.2.2.2.2.2.2.2.2.2.2.2.2.2.2.2.2.2.2.2.2.2.2.2.2.2.2.2.2.2.1
theorem k_istore {ρ0 : Type} {cc : ByteArray} {own : String} {ret : Option FieldType} {D : Nat} {E : f_E} {S : f_S} {encR : ρ0 → Option Value} {post : ρ0 → f_Mem → Prop} {G : f_G} (hR : Rul cc own ret D E S encR post G) : r_istore cc own ret D E S encR post G := hR.2.2.2.2.2.2.2.2.2.2.2.2.2.2.2.2.2.2.2.2.2.2.2.2.2.2.2.2.2.2.2.2.2.2.2.2.2.2.2.2.2.2.2.2.2.2.2.2.2.2.2.2.2.2.2.2.2.1
theorem k_astore_n {ρ0 : Type} {cc : ByteArray} {own : String} {ret : Option FieldType} {D : Nat} {E : f_E} {S : f_S} {encR : ρ0 → Option Value} {post : ρ0 → f_Mem → Prop} {G : f_G} (hR : Rul cc own ret D E S encR post G) : r_astore_n cc own ret D E S encR post G := hR.2.2.2.2.2.2.2.2.2.2.2.2.2.2.2.2.2.2.2.2.2.2.2.2.2.2.2.2.2.2.2.2.2.2.2.2.2.2.2.2.2.2.2.2.2.2.2.2.2.2.2.2.2.2.2.2.2.2.1
theorem k_astore {ρ0 : Type} {cc : ByteArray} {own : String} {ret : Option FieldType} {D : Nat} {E : f_E} {S : f_S} {encR : ρ0 → Option Value} {post : ρ0 → f_Mem → Prop} {G : f_G} (hR : Rul cc own ret D E S encR post G) : r_astore cc own ret D E S encR post G := hR.2.2.2.2.2.2.2.2.2.2.2.2.2.2.2.2.2.2.2.2.2.2.2.2.2.2.2.2.2.2.2.2.2.2.2.2.2.2.2.2.2.2.2.2.2.2.2.2.2.2.2.2.2.2.2.2.2.2.2.1
theorem k_astoreN_n {ρ0 : Type} {cc : ByteArray} {own : String} {ret : Option FieldType} {D : Nat} {E : f_E} {S : f_S} {encR : ρ0 → Option Value} {post : ρ0 → f_Mem → Prop} {G : f_G} (hR : Rul cc own ret D E S encR post G) : r_astoreN_n cc own ret D E S encR post G := hR.2.2.2.2.2.2.2.2.2.2.2.2.2.2.2.2.2.2.2.2.2.2.2.2.2.2.2.2.2.2.2.2.2.2.2.2.2.2.2.2.2.2.2.2.2.2.2.2.2.2.2.2.2.2.2.2.2.2.2.2.1
theorem k_astoreN {ρ0 : Type} {cc : ByteArray} {own : String} {ret : Option FieldType} {D : Nat} {E : f_E} {S : f_S} {encR : ρ0 → Option Value} {post : ρ0 → f_Mem → Prop} {G : f_G} (hR : Rul cc own ret D E S encR post G) : r_astoreN cc own ret D E S encR post G := hR.2.2.2.2.2.2.2.2.2.2.2.2.2.2.2.2.2.2.2.2.2.2.2.2.2.2.2.2.2.2.2.2.2.2.2.2.2.2.2.2.2.2.2.2.2.2.2.2.2.2.2.2.2.2.2.2.2.2.2.2.2.1
theorem k_lstore_n {ρ0 : Type} {cc : ByteArray} {own : String} {ret : Option FieldType} {D : Nat} {E : f_E} {S : f_S} {encR : ρ0 → Option Value} {post : ρ0 → f_Mem → Prop} {G : f_G} (hR : Rul cc own ret D E S encR post G) : r_lstore_n cc own ret D E S encR post G := hR.2.2.2.2.2.2.2.2.2.2.2.2.2.2.2.2.2.2.2.2.2.2.2.2.2.2.2.2.2.2.2.2.2.2.2.2.2.2.2.2.2.2.2.2.2.2.2.2.2.2.2.2.2.2.2.2.2.2.2.2.2.2.1
theorem k_lstore {ρ0 : Type} {cc : ByteArray} {own : String} {ret : Option FieldType} {D : Nat} {E : f_E} {S : f_S} {encR : ρ0 → Option Value} {post : ρ0 → f_Mem → Prop} {G : f_G} (hR : Rul cc own ret D E S encR post G) : r_lstore cc own ret D E S encR post G := hR.2.2.2.2.2.2.2.2.2.2.2.2.2.2.2.2.2.2.2.2.2.2.2.2.2.2.2.2.2.2.2.2.2.2.2.2.2.2.2.2.2.2.2.2.2.2.2.2.2.2.2.2.2.2.2.2.2.2.2.2.2.2.2.1
theorem k_iinc {ρ0 : Type} {cc : ByteArray} {own : String} {ret : Option FieldType} {D : Nat} {E : f_E} {S : f_S} {encR : ρ0 → Option Value} {post : ρ0 → f_Mem → Prop} {G : f_G} (hR : Rul cc own ret D E S encR post G) : r_iinc cc own ret D E S encR post G := hR.2.2.2.2.2.2.2.2.2.2.2.2.2.2.2.2.2.2.2.2.2.2.2.2.2.2.2.2.2.2.2.2.2.2.2.2.2.2.2.2.2.2.2.2.2.2.2.2.2.2.2.2.2.2.2.2.2.2.2.2.2.2.2.2.1
theorem k_getI {ρ0 : Type} {cc : ByteArray} {own : String} {ret : Option FieldType} {D : Nat} {E : f_E} {S : f_S} {encR : ρ0 → Option Value} {post : ρ0 → f_Mem → Prop} {G : f_G} (hR : Rul cc own ret D E S encR post G) : r_getI cc own ret D E S encR post G := hR.2.2.2.2.2.2.2.2.2.2.2.2.2.2.2.2.2.2.2.2.2.2.2.2.2.2.2.2.2.2.2.2.2.2.2.2.2.2.2.2.2.2.2.2.2.2.2.2.2.2.2.2.2.2.2.2.2.2.2.2.2.2.2.2.2.1
theorem k_getR {ρ0 : Type} {cc : ByteArray} {own : String} {ret : Option FieldType} {D : Nat} {E : f_E} {S : f_S} {encR : ρ0 → Option Value} {post : ρ0 → f_Mem → Prop} {G : f_G} (hR : Rul cc own ret D E S encR post G) : r_getR cc own ret D E S encR post G := hR.2.2.2.2.2.2.2.2.2.2.2.2.2.2.2.2.2.2.2.2.2.2.2.2.2.2.2.2.2.2.2.2.2.2.2.2.2.2.2.2.2.2.2.2.2.2.2.2.2.2.2.2.2.2.2.2.2.2.2.2.2.2.2.2.2.2.1
theorem k_getN {ρ0 : Type} {cc : ByteArray} {own : String} {ret : Option FieldType} {D : Nat} {E : f_E} {S : f_S} {encR : ρ0 → Option Value} {post : ρ0 → f_Mem → Prop} {G : f_G} (hR : Rul cc own ret D E S encR post G) : r_getN cc own ret D E S encR post G := hR.2.2.2.2.2.2.2.2.2.2.2.2.2.2.2.2.2.2.2.2.2.2.2.2.2.2.2.2.2.2.2.2.2.2.2.2.2.2.2.2.2.2.2.2.2.2.2.2.2.2.2.2.2.2.2.2.2.2.2.2.2.2.2.2.2.2.2.1
theorem k_put {ρ0 : Type} {cc : ByteArray} {own : String} {ret : Option FieldType} {D : Nat} {E : f_E} {S : f_S} {encR : ρ0 → Option Value} {post : ρ0 → f_Mem → Prop} {G : f_G} (hR : Rul cc own ret D E S encR post G) : r_put cc own ret D E S encR post G := hR.2.2.2.2.2.2.2.2.2.2.2.2.2.2.2.2.2.2.2.2.2.2.2.2.2.2.2.2.2.2.2.2.2.2.2.2.2.2.2.2.2.2.2.2.2.2.2.2.2.2.2.2.2.2.2.2.2.2.2.2.2.2.2.2.2.2.2.2.1
theorem k_ald {ρ0 : Type} {cc : ByteArray} {own : String} {ret : Option FieldType} {D : Nat} {E : f_E} {S : f_S} {encR : ρ0 → Option Value} {post : ρ0 → f_Mem → Prop} {G : f_G} (hR : Rul cc own ret D E S encR post G) : r_ald cc own ret D E S encR post G := hR.2.2.2.2.2.2.2.2.2.2.2.2.2.2.2.2.2.2.2.2.2.2.2.2.2.2.2.2.2.2.2.2.2.2.2.2.2.2.2.2.2.2.2.2.2.2.2.2.2.2.2.2.2.2.2.2.2.2.2.2.2.2.2.2.2.2.2.2.2.1
theorem k_ast {ρ0 : Type} {cc : ByteArray} {own : String} {ret : Option FieldType} {D : Nat} {E : f_E} {S : f_S} {encR : ρ0 → Option Value} {post : ρ0 → f_Mem → Prop} {G : f_G} (hR : Rul cc own ret D E S encR post G) : r_ast cc own ret D E S encR post G := hR.2.2.2.2.2.2.2.2.2.2.2.2.2.2.2.2.2.2.2.2.2.2.2.2.2.2.2.2.2.2.2.2.2.2.2.2.2.2.2.2.2.2.2.2.2.2.2.2.2.2.2.2.2.2.2.2.2.2.2.2.2.2.2.2.2.2.2.2.2.2.1
theorem k_alenI {ρ0 : Type} {cc : ByteArray} {own : String} {ret : Option FieldType} {D : Nat} {E : f_E} {S : f_S} {encR : ρ0 → Option Value} {post : ρ0 → f_Mem → Prop} {G : f_G} (hR : Rul cc own ret D E S encR post G) : r_alenI cc own ret D E S encR post G := hR.2.2.2.2.2.2.2.2.2.2.2.2.2.2.2.2.2.2.2.2.2.2.2.2.2.2.2.2.2.2.2.2.2.2.2.2.2.2.2.2.2.2.2.2.2.2.2.2.2.2.2.2.2.2.2.2.2.2.2.2.2.2.2.2.2.2.2.2.2.2.2.1
theorem k_alenQ {ρ0 : Type} {cc : ByteArray} {own : String} {ret : Option FieldType} {D : Nat} {E : f_E} {S : f_S} {encR : ρ0 → Option Value} {post : ρ0 → f_Mem → Prop} {G : f_G} (hR : Rul cc own ret D E S encR post G) : r_alenQ cc own ret D E S encR post G := hR.2.2.2.2.2.2.2.2.2.2.2.2.2.2.2.2.2.2.2.2.2.2.2.2.2.2.2.2.2.2.2.2.2.2.2.2.2.2.2.2.2.2.2.2.2.2.2.2.2.2.2.2.2.2.2.2.2.2.2.2.2.2.2.2.2.2.2.2.2.2.2.2.1
theorem k_aldQ {ρ0 : Type} {cc : ByteArray} {own : String} {ret : Option FieldType} {D : Nat} {E : f_E} {S : f_S} {encR : ρ0 → Option Value} {post : ρ0 → f_Mem → Prop} {G : f_G} (hR : Rul cc own ret D E S encR post G) : r_aldQ cc own ret D E S encR post G := hR.2.2.2.2.2.2.2.2.2.2.2.2.2.2.2.2.2.2.2.2.2.2.2.2.2.2.2.2.2.2.2.2.2.2.2.2.2.2.2.2.2.2.2.2.2.2.2.2.2.2.2.2.2.2.2.2.2.2.2.2.2.2.2.2.2.2.2.2.2.2.2.2.2.1
theorem k_astQ {ρ0 : Type} {cc : ByteArray} {own : String} {ret : Option FieldType} {D : Nat} {E : f_E} {S : f_S} {encR : ρ0 → Option Value} {post : ρ0 → f_Mem → Prop} {G : f_G} (hR : Rul cc own ret D E S encR post G) : r_astQ cc own ret D E S encR post G := hR.2.2.2.2.2.2.2.2.2.2.2.2.2.2.2.2.2.2.2.2.2.2.2.2.2.2.2.2.2.2.2.2.2.2.2.2.2.2.2.2.2.2.2.2.2.2.2.2.2.2.2.2.2.2.2.2.2.2.2.2.2.2.2.2.2.2.2.2.2.2.2.2.2.2.1
theorem k_max {ρ0 : Type} {cc : ByteArray} {own : String} {ret : Option FieldType} {D : Nat} {E : f_E} {S : f_S} {encR : ρ0 → Option Value} {post : ρ0 → f_Mem → Prop} {G : f_G} (hR : Rul cc own ret D E S encR post G) : r_max cc own ret D E S encR post G := hR.2.2.2.2.2.2.2.2.2.2.2.2.2.2.2.2.2.2.2.2.2.2.2.2.2.2.2.2.2.2.2.2.2.2.2.2.2.2.2.2.2.2.2.2.2.2.2.2.2.2.2.2.2.2.2.2.2.2.2.2.2.2.2.2.2.2.2.2.2.2.2.2.2.2.2.1
theorem k_min {ρ0 : Type} {cc : ByteArray} {own : String} {ret : Option FieldType} {D : Nat} {E : f_E} {S : f_S} {encR : ρ0 → Option Value} {post : ρ0 → f_Mem → Prop} {G : f_G} (hR : Rul cc own ret D E S encR post G) : r_min cc own ret D E S encR post G := hR.2.2.2.2.2.2.2.2.2.2.2.2.2.2.2.2.2.2.2.2.2.2.2.2.2.2.2.2.2.2.2.2.2.2.2.2.2.2.2.2.2.2.2.2.2.2.2.2.2.2.2.2.2.2.2.2.2.2.2.2.2.2.2.2.2.2.2.2.2.2.2.2.2.2.2.2.1
theorem k_copy {ρ0 : Type} {cc : ByteArray} {own : String} {ret : Option FieldType} {D : Nat} {E : f_E} {S : f_S} {encR : ρ0 → Option Value} {post : ρ0 → f_Mem → Prop} {G : f_G} (hR : Rul cc own ret D E S encR post G) : r_copy cc own ret D E S encR post G := hR.2.2.2.2.2.2.2.2.2.2.2.2.2.2.2.2.2.2.2.2.2.2.2.2.2.2.2.2.2.2.2.2.2.2.2.2.2.2.2.2.2.2.2.2.2.2.2.2.2.2.2.2.2.2.2.2.2.2.2.2.2.2.2.2.2.2.2.2.2.2.2.2.2.2.2.2.2.1
theorem k_callV {ρ0 : Type} {cc : ByteArray} {own : String} {ret : Option FieldType} {D : Nat} {E : f_E} {S : f_S} {encR : ρ0 → Option Value} {post : ρ0 → f_Mem → Prop} {G : f_G} (hR : Rul cc own ret D E S encR post G) : r_callV cc own ret D E S encR post G := hR.2.2.2.2.2.2.2.2.2.2.2.2.2.2.2.2.2.2.2.2.2.2.2.2.2.2.2.2.2.2.2.2.2.2.2.2.2.2.2.2.2.2.2.2.2.2.2.2.2.2.2.2.2.2.2.2.2.2.2.2.2.2.2.2.2.2.2.2.2.2.2.2.2.2.2.2.2.2.1
theorem k_callS {ρ0 : Type} {cc : ByteArray} {own : String} {ret : Option FieldType} {D : Nat} {E : f_E} {S : f_S} {encR : ρ0 → Option Value} {post : ρ0 → f_Mem → Prop} {G : f_G} (hR : Rul cc own ret D E S encR post G) : r_callS cc own ret D E S encR post G := hR.2.2.2.2.2.2.2.2.2.2.2.2.2.2.2.2.2.2.2.2.2.2.2.2.2.2.2.2.2.2.2.2.2.2.2.2.2.2.2.2.2.2.2.2.2.2.2.2.2.2.2.2.2.2.2.2.2.2.2.2.2.2.2.2.2.2.2.2.2.2.2.2.2.2.2.2.2.2.2.1
theorem k_iret {ρ0 : Type} {cc : ByteArray} {own : String} {ret : Option FieldType} {D : Nat} {E : f_E} {S : f_S} {encR : ρ0 → Option Value} {post : ρ0 → f_Mem → Prop} {G : f_G} (hR : Rul cc own ret D E S encR post G) : r_iret cc own ret D E S encR post G := hR.2.2.2.2.2.2.2.2.2.2.2.2.2.2.2.2.2.2.2.2.2.2.2.2.2.2.2.2.2.2.2.2.2.2.2.2.2.2.2.2.2.2.2.2.2.2.2.2.2.2.2.2.2.2.2.2.2.2.2.2.2.2.2.2.2.2.2.2.2.2.2.2.2.2.2.2.2.2.2.2.1
theorem k_vret {ρ0 : Type} {cc : ByteArray} {own : String} {ret : Option FieldType} {D : Nat} {E : f_E} {S : f_S} {encR : ρ0 → Option Value} {post : ρ0 → f_Mem → Prop} {G : f_G} (hR : Rul cc own ret D E S encR post G) : r_vret cc own ret D E S encR post G := hR.2.2.2.2.2.2.2.2.2.2.2.2.2.2.2.2.2.2.2.2.2.2.2.2.2.2.2.2.2.2.2.2.2.2.2.2.2.2.2.2.2.2.2.2.2.2.2.2.2.2.2.2.2.2.2.2.2.2.2.2.2.2.2.2.2.2.2.2.2.2.2.2.2.2.2.2.2.2.2.2.2.1
theorem k_lret {ρ0 : Type} {cc : ByteArray} {own : String} {ret : Option FieldType} {D : Nat} {E : f_E} {S : f_S} {encR : ρ0 → Option Value} {post : ρ0 → f_Mem → Prop} {G : f_G} (hR : Rul cc own ret D E S encR post G) : r_lret cc own ret D E S encR post G := hR.2.2.2.2.2.2.2.2.2.2.2.2.2.2.2.2.2.2.2.2.2.2.2.2.2.2.2.2.2.2.2.2.2.2.2.2.2.2.2.2.2.2.2.2.2.2.2.2.2.2.2.2.2.2.2.2.2.2.2.2.2.2.2.2.2.2.2.2.2.2.2.2.2.2.2.2.2.2.2.2.2.2.1
theorem k_aret {ρ0 : Type} {cc : ByteArray} {own : String} {ret : Option FieldType} {D : Nat} {E : f_E} {S : f_S} {encR : ρ0 → Option Value} {post : ρ0 → f_Mem → Prop} {G : f_G} (hR : Rul cc own ret D E S encR post G) : r_aret cc own ret D E S encR post G := hR.2.2.2.2.2.2.2.2.2.2.2.2.2.2.2.2.2.2.2.2.2.2.2.2.2.2.2.2.2.2.2.2.2.2.2.2.2.2.2.2.2.2.2.2.2.2.2.2.2.2.2.2.2.2.2.2.2.2.2.2.2.2.2.2.2.2.2.2.2.2.2.2.2.2.2.2.2.2.2.2.2.2.2

theorem tb_max1 : Cond.static Lib.Math.max.name ∈ tb := tb_in (List.mem_of_getElem? (i := 78) (by decide +kernel)) (by decide +kernel)
theorem tb_max2 : Cond.code Lib.Math.max.name Lib.Math.max.code 2 (some .int) ∈ tb := tb_in (List.mem_of_getElem? (i := 79) (by decide +kernel)) (by decide +kernel)
theorem tb_min1 : Cond.static Lib.Math.min.name ∈ tb := tb_in (List.mem_of_getElem? (i := 402) (by decide +kernel)) (by decide +kernel)
theorem tb_min2 : Cond.code Lib.Math.min.name Lib.Math.min.code 2 (some .int) ∈ tb := tb_in (List.mem_of_getElem? (i := 403) (by decide +kernel)) (by decide +kernel)
theorem tb_math : Cond.initialized "java/lang/Math" ∈ tb := tb_in (List.mem_of_getElem? (i := 49) (by decide +kernel)) (by decide +kernel)
theorem tb_copy1 : Cond.native arraycopyName ∈ tb := tb_in (List.mem_of_getElem? (i := 406) (by decide +kernel)) (by decide +kernel)
theorem tb_copy2 : Cond.static arraycopyName ∈ tb := tb_in (List.mem_of_getElem? (i := 405) (by decide +kernel)) (by decide +kernel)
theorem tb_sys : Cond.initialized "java/lang/System" ∈ tb := tb_in (List.mem_of_getElem? (i := 60) (by decide +kernel)) (by decide +kernel)
section FLAT
variable {p : Program} {l : Launch} {e : Env} {s : State} {m : MethodId} {args : Array Value} {below : List Frame} {meth : Method} {c : Code} {Q : State → Prop} {A : Nat → Prop} {E : f_E} {S : f_S} {nL : Nat} {cc : ByteArray} {own : String} {D : Nat}
def f_GG (p : Program) (e : Env) (D : Nat) (s : State) (m : MethodId) (args : Array Value) (below : List Frame) (meth : Method) (c : Code) (Q : State → Prop) (A : Nat → Prop) (E : f_E) (S : f_S) (nL : Nat) : f_G := fun pc L st σ => ∀ (H : Heap) (locs : List Loc) (ls : Array Slot), f_P E S σ H → va_S A s.heap H locs → f_ls ls nL L → W p E.1 e (f_rm D) s m args below meth c H locs 0 0 Q (F0 m pc ls st)
/-- behind a call: whatever it answers -/
theorem f_call {ρ : Type} {R : Room} {H : Heap} {locs : List Loc} {H0 : Heap} {pc : Nat} {ls : Array Slot} {rest st0 : List Value} {a : Array Value} {A0 A1 : Nat → Prop} {free : Addr → Prop} {enc : ρ → Option Value} {post : ρ → f_Mem → Prop} (hr : va_Run p l e R s m args below meth c H locs 0 0 0 0 (F0 m pc ls st0) rest (f_Q E S enc post A1 a) free) (hS : va_S A0 H0 H locs) (hA : ∀ q, q < H.size → A1 q → A0 q) (hf : ∀ q, free q → A0 q)
    (kk : ∀ (r : ρ) (u : f_Mem) (H1 : Heap) (locs1 : List Loc), post r u → f_P E S u H1 → va_S A0 H0 H1 locs1 → W p l e R s m args below meth c H1 locs1 0 0 Q (F0 m (pc + 3) ls ((enc r).toList ++ rest))) : W p l e R s m args below meth c H locs 0 0 Q (F0 m pc ls st0) := by
  intro T hT X
  obtain ⟨v, st₀, t, T', L, h0, X', hL, e1, e2, ⟨⟨r, u, hv, hp, hb, hk9⟩, hz, hk⟩, st⟩ := hr T hT X
  cases hv
  rw [h0] at hz hk
  obtain ⟨t2, a1, b1⟩ := kk r u T'.heap (locs ++ L) hp (by rw [e1]; exact hb)
    ⟨Nat.le_trans hS.1 (by rw [e1]; exact hz), fun q h1 h2 => by rw [e1, hk q (Nat.lt_of_lt_of_le h1 hS.1) (fun z => h2 (hA q (Nat.lt_of_lt_of_le h1 hS.1) z))]; exact hS.2.1 q h1 h2, fun q hq => by
      rcases List.mem_append.mp hq with h | h
      · exact hS.2.2 q h
      · exact hf _ (hL q h)⟩ T' rfl X'
  exact ⟨t2, st t2 a1, b1⟩

theorem f_FB {E : f_E} {S : f_S} {av : List Value} {σ : f_Mem} {sz : Nat} : FrameBlind (f_Pc E S av σ sz) := fun a U g mk q => by obtain ⟨q0, q1, q2, q3, q5, q4⟩ := q; exact ⟨q0, q1, q2, va_K.moved (u := U) (U := U.calling g mk a) (Vm.Alike.refl U.vm) q3, f_NW.same (u := U) (U := U.calling g mk a) rfl q5, q4⟩
theorem f_pay {own : String} {index : Nat} {Y : f_Y} {n d : Nat} (hts : ∀ w ∈ tb, w.before args s = true) (hc : f_LC Y) (hh : f_hd Y n) (hd : d + 1 ≤ D) (hl : (Cond.methodLink own index Y.1).before args s = true) : CallB (f_rm D) s args own index Y.1 Y.2.1 Y.2.2.1 Y.2.2.2 (Cond.code Y.1 Y.2.1 Y.2.2.1 Y.2.2.2 :: tb) (f_rm d) 0 0 n := by
  refine callB_of (Ts := tb) n hts (fun w hw => ?_) rfl rfl rfl (hts _ hc.2) hl hh.1 ⟨hd, ?_⟩
  · rcases List.mem_cons.mp hw with h | h
    · subst h; exact ⟨hc.1, tb_good _ hc.1⟩
    · exact ⟨h, tb_good _ h⟩
  · have := hh.2
    show 8 + (Y.2.2.1 + 11) + 60 * d ≤ 60 * D
    omega
theorem f_payN {own host : String} {index : Nat} {Y : f_Y} {n d : Nat} (hts : ∀ w ∈ tb, w.before args s = true) (hc : f_LC Y) (hh : f_hd Y n) (hd : d + 1 ≤ D) (hl : va_Nw (.methodLinkNest own index Y.1 host) s) : va_CN (f_rm D) s args own index Y.1 host Y.2.1 Y.2.2.1 Y.2.2.2 (Cond.code Y.1 Y.2.1 Y.2.2.1 Y.2.2.2 :: tb) (f_rm d) 0 0 n := by
  refine va_cnB (Ts := tb) n hts (fun w hw => ?_) rfl rfl rfl hl (hts _ hc.2) hh.1 ⟨hd, ?_⟩
  · rcases List.mem_cons.mp hw with h | h
    · subst h; exact ⟨hc.1, tb_good _ hc.1⟩
    · exact ⟨h, tb_good _ h⟩
  · have := hh.2
    show 8 + (Y.2.2.1 + 11) + 60 * d ≤ 60 * D
    omega
theorem s_iadd {ρ0 : Type} {ret : Option FieldType} {encR : ρ0 → Option Value} {post : ρ0 → f_Mem → Prop} (hx : p.tables.exec = Jvm.exec) (hb : c.code = cc) (hml : c.maxLocals = nL) (hown : s.vm.findClass own = some m.cls) (hts : ∀ w ∈ tb, w.before args s = true) (hN : f_NW s) (hK : f_K E s) (hI : f_I E S) (hA : ∀ k, k < S.1 → A (f_ad E k)) (hA2 : ∀ q, s.heap.size ≤ q → A q) : r_iadd cc own ret D E S encR post (f_GG p e D s m args below meth c Q A E S nL) := by
  intro pc L st σ x y hd k H locs ls hP hS hl
  exact lv_iadd hx hb hd (k H locs ls hP hS hl)
theorem s_isub {ρ0 : Type} {ret : Option FieldType} {encR : ρ0 → Option Value} {post : ρ0 → f_Mem → Prop} (hx : p.tables.exec = Jvm.exec) (hb : c.code = cc) (hml : c.maxLocals = nL) (hown : s.vm.findClass own = some m.cls) (hts : ∀ w ∈ tb, w.before args s = true) (hN : f_NW s) (hK : f_K E s) (hI : f_I E S) (hA : ∀ k, k < S.1 → A (f_ad E k)) (hA2 : ∀ q, s.heap.size ≤ q → A q) : r_isub cc own ret D E S encR post (f_GG p e D s m args below meth c Q A E S nL) := by
  intro pc L st σ x y hd k H locs ls hP hS hl
  exact lv_isub hx hb hd (k H locs ls hP hS hl)
theorem s_imul {ρ0 : Type} {ret : Option FieldType} {encR : ρ0 → Option Value} {post : ρ0 → f_Mem → Prop} (hx : p.tables.exec = Jvm.exec) (hb : c.code = cc) (hml : c.maxLocals = nL) (hown : s.vm.findClass own = some m.cls) (hts : ∀ w ∈ tb, w.before args s = true) (hN : f_NW s) (hK : f_K E s) (hI : f_I E S) (hA : ∀ k, k < S.1 → A (f_ad E k)) (hA2 : ∀ q, s.heap.size ≤ q → A q) : r_imul cc own ret D E S encR post (f_GG p e D s m args below meth c Q A E S nL) := by
  intro pc L st σ x y hd k H locs ls hP hS hl
  exact lv_imul hx hb hd (k H locs ls hP hS hl)
theorem s_idiv {ρ0 : Type} {ret : Option FieldType} {encR : ρ0 → Option Value} {post : ρ0 → f_Mem → Prop} (hx : p.tables.exec = Jvm.exec) (hb : c.code = cc) (hml : c.maxLocals = nL) (hown : s.vm.findClass own = some m.cls) (hts : ∀ w ∈ tb, w.before args s = true) (hN : f_NW s) (hK : f_K E s) (hI : f_I E S) (hA : ∀ k, k < S.1 → A (f_ad E k)) (hA2 : ∀ q, s.heap.size ≤ q → A q) : r_idiv cc own ret D E S encR post (f_GG p e D s m args below meth c Q A E S nL) := by
  intro pc L st σ x y hd h0 k H locs ls hP hS hl
  exact lv_idiv hx hb hd h0 (k H locs ls hP hS hl)
theorem s_irem {ρ0 : Type} {ret : Option FieldType} {encR : ρ0 → Option Value} {post : ρ0 → f_Mem → Prop} (hx : p.tables.exec = Jvm.exec) (hb : c.code = cc) (hml : c.maxLocals = nL) (hown : s.vm.findClass own = some m.cls) (hts : ∀ w ∈ tb, w.before args s = true) (hN : f_NW s) (hK : f_K E s) (hI : f_I E S) (hA : ∀ k, k < S.1 → A (f_ad E k)) (hA2 : ∀ q, s.heap.size ≤ q → A q) : r_irem cc own ret D E S encR post (f_GG p e D s m args below meth c Q A E S nL) := by
  intro pc L st σ x y hd h0 k H locs ls hP hS hl
  exact lv_irem hx hb hd h0 (k H locs ls hP hS hl)
theorem s_iand {ρ0 : Type} {ret : Option FieldType} {encR : ρ0 → Option Value} {post : ρ0 → f_Mem → Prop} (hx : p.tables.exec = Jvm.exec) (hb : c.code = cc) (hml : c.maxLocals = nL) (hown : s.vm.findClass own = some m.cls) (hts : ∀ w ∈ tb, w.before args s = true) (hN : f_NW s) (hK : f_K E s) (hI : f_I E S) (hA : ∀ k, k < S.1 → A (f_ad E k)) (hA2 : ∀ q, s.heap.size ≤ q → A q) : r_iand cc own ret D E S encR post (f_GG p e D s m args below meth c Q A E S nL) := by
  intro pc L st σ x y hd k H locs ls hP hS hl
  exact lv_iand hx hb hd (k H locs ls hP hS hl)
theorem s_ior {ρ0 : Type} {ret : Option FieldType} {encR : ρ0 → Option Value} {post : ρ0 → f_Mem → Prop} (hx : p.tables.exec = Jvm.exec) (hb : c.code = cc) (hml : c.maxLocals = nL) (hown : s.vm.findClass own = some m.cls) (hts : ∀ w ∈ tb, w.before args s = true) (hN : f_NW s) (hK : f_K E s) (hI : f_I E S) (hA : ∀ k, k < S.1 → A (f_ad E k)) (hA2 : ∀ q, s.heap.size ≤ q → A q) : r_ior cc own ret D E S encR post (f_GG p e D s m args below meth c Q A E S nL) := by
  intro pc L st σ x y hd k H locs ls hP hS hl
  exact lv_ior hx hb hd (k H locs ls hP hS hl)
theorem s_ixor {ρ0 : Type} {ret : Option FieldType} {encR : ρ0 → Option Value} {post : ρ0 → f_Mem → Prop} (hx : p.tables.exec = Jvm.exec) (hb : c.code = cc) (hml : c.maxLocals = nL) (hown : s.vm.findClass own = some m.cls) (hts : ∀ w ∈ tb, w.before args s = true) (hN : f_NW s) (hK : f_K E s) (hI : f_I E S) (hA : ∀ k, k < S.1 → A (f_ad E k)) (hA2 : ∀ q, s.heap.size ≤ q → A q) : r_ixor cc own ret D E S encR post (f_GG p e D s m args below meth c Q A E S nL) := by
  intro pc L st σ x y hd k H locs ls hP hS hl
  exact lv_ixor hx hb hd (k H locs ls hP hS hl)
theorem s_ishl {ρ0 : Type} {ret : Option FieldType} {encR : ρ0 → Option Value} {post : ρ0 → f_Mem → Prop} (hx : p.tables.exec = Jvm.exec) (hb : c.code = cc) (hml : c.maxLocals = nL) (hown : s.vm.findClass own = some m.cls) (hts : ∀ w ∈ tb, w.before args s = true) (hN : f_NW s) (hK : f_K E s) (hI : f_I E S) (hA : ∀ k, k < S.1 → A (f_ad E k)) (hA2 : ∀ q, s.heap.size ≤ q → A q) : r_ishl cc own ret D E S encR post (f_GG p e D s m args below meth c Q A E S nL) := by
  intro pc L st σ x y hd k H locs ls hP hS hl
  exact lv_ishl hx hb hd (k H locs ls hP hS hl)
theorem s_ishr {ρ0 : Type} {ret : Option FieldType} {encR : ρ0 → Option Value} {post : ρ0 → f_Mem → Prop} (hx : p.tables.exec = Jvm.exec) (hb : c.code = cc) (hml : c.maxLocals = nL) (hown : s.vm.findClass own = some m.cls) (hts : ∀ w ∈ tb, w.before args s = true) (hN : f_NW s) (hK : f_K E s) (hI : f_I E S) (hA : ∀ k, k < S.1 → A (f_ad E k)) (hA2 : ∀ q, s.heap.size ≤ q → A q) : r_ishr cc own ret D E S encR post (f_GG p e D s m args below meth c Q A E S nL) := by
  intro pc L st σ x y hd k H locs ls hP hS hl
  exact lv_ishr hx hb hd (k H locs ls hP hS hl)
theorem s_iushr {ρ0 : Type} {ret : Option FieldType} {encR : ρ0 → Option Value} {post : ρ0 → f_Mem → Prop} (hx : p.tables.exec = Jvm.exec) (hb : c.code = cc) (hml : c.maxLocals = nL) (hown : s.vm.findClass own = some m.cls) (hts : ∀ w ∈ tb, w.before args s = true) (hN : f_NW s) (hK : f_K E s) (hI : f_I E S) (hA : ∀ k, k < S.1 → A (f_ad E k)) (hA2 : ∀ q, s.heap.size ≤ q → A q) : r_iushr cc own ret D E S encR post (f_GG p e D s m args below meth c Q A E S nL) := by
  intro pc L st σ x y v hd h0 k H locs ls hP hS hl
  exact lv_iushr hx hb hd h0 (k H locs ls hP hS hl)
theorem s_ladd {ρ0 : Type} {ret : Option FieldType} {encR : ρ0 → Option Value} {post : ρ0 → f_Mem → Prop} (hx : p.tables.exec = Jvm.exec) (hb : c.code = cc) (hml : c.maxLocals = nL) (hown : s.vm.findClass own = some m.cls) (hts : ∀ w ∈ tb, w.before args s = true) (hN : f_NW s) (hK : f_K E s) (hI : f_I E S) (hA : ∀ k, k < S.1 → A (f_ad E k)) (hA2 : ∀ q, s.heap.size ≤ q → A q) : r_ladd cc own ret D E S encR post (f_GG p e D s m args below meth c Q A E S nL) := by
  intro pc L st σ x y hd k H locs ls hP hS hl
  exact lv_ladd hx hb hd (k H locs ls hP hS hl)
theorem s_lmul {ρ0 : Type} {ret : Option FieldType} {encR : ρ0 → Option Value} {post : ρ0 → f_Mem → Prop} (hx : p.tables.exec = Jvm.exec) (hb : c.code = cc) (hml : c.maxLocals = nL) (hown : s.vm.findClass own = some m.cls) (hts : ∀ w ∈ tb, w.before args s = true) (hN : f_NW s) (hK : f_K E s) (hI : f_I E S) (hA : ∀ k, k < S.1 → A (f_ad E k)) (hA2 : ∀ q, s.heap.size ≤ q → A q) : r_lmul cc own ret D E S encR post (f_GG p e D s m args below meth c Q A E S nL) := by
  intro pc L st σ x y hd k H locs ls hP hS hl
  exact lv_lmul hx hb hd (k H locs ls hP hS hl)
theorem s_ldiv {ρ0 : Type} {ret : Option FieldType} {encR : ρ0 → Option Value} {post : ρ0 → f_Mem → Prop} (hx : p.tables.exec = Jvm.exec) (hb : c.code = cc) (hml : c.maxLocals = nL) (hown : s.vm.findClass own = some m.cls) (hts : ∀ w ∈ tb, w.before args s = true) (hN : f_NW s) (hK : f_K E s) (hI : f_I E S) (hA : ∀ k, k < S.1 → A (f_ad E k)) (hA2 : ∀ q, s.heap.size ≤ q → A q) : r_ldiv cc own ret D E S encR post (f_GG p e D s m args below meth c Q A E S nL) := by
  intro pc L st σ x y hd h0 k H locs ls hP hS hl
  exact lv_ldiv hx hb hd h0 (k H locs ls hP hS hl)
theorem s_lrem {ρ0 : Type} {ret : Option FieldType} {encR : ρ0 → Option Value} {post : ρ0 → f_Mem → Prop} (hx : p.tables.exec = Jvm.exec) (hb : c.code = cc) (hml : c.maxLocals = nL) (hown : s.vm.findClass own = some m.cls) (hts : ∀ w ∈ tb, w.before args s = true) (hN : f_NW s) (hK : f_K E s) (hI : f_I E S) (hA : ∀ k, k < S.1 → A (f_ad E k)) (hA2 : ∀ q, s.heap.size ≤ q → A q) : r_lrem cc own ret D E S encR post (f_GG p e D s m args below meth c Q A E S nL) := by
  intro pc L st σ x y hd h0 k H locs ls hP hS hl
  exact lv_lrem hx hb hd h0 (k H locs ls hP hS hl)
theorem s_i2l {ρ0 : Type} {ret : Option FieldType} {encR : ρ0 → Option Value} {post : ρ0 → f_Mem → Prop} (hx : p.tables.exec = Jvm.exec) (hb : c.code = cc) (hml : c.maxLocals = nL) (hown : s.vm.findClass own = some m.cls) (hts : ∀ w ∈ tb, w.before args s = true) (hN : f_NW s) (hK : f_K E s) (hI : f_I E S) (hA : ∀ k, k < S.1 → A (f_ad E k)) (hA2 : ∀ q, s.heap.size ≤ q → A q) : r_i2l cc own ret D E S encR post (f_GG p e D s m args below meth c Q A E S nL) := by
  intro pc L st σ x hd k H locs ls hP hS hl
  exact lv_i2l hx hb hd rfl (k H locs ls hP hS hl)
theorem s_l2i {ρ0 : Type} {ret : Option FieldType} {encR : ρ0 → Option Value} {post : ρ0 → f_Mem → Prop} (hx : p.tables.exec = Jvm.exec) (hb : c.code = cc) (hml : c.maxLocals = nL) (hown : s.vm.findClass own = some m.cls) (hts : ∀ w ∈ tb, w.before args s = true) (hN : f_NW s) (hK : f_K E s) (hI : f_I E S) (hA : ∀ k, k < S.1 → A (f_ad E k)) (hA2 : ∀ q, s.heap.size ≤ q → A q) : r_l2i cc own ret D E S encR post (f_GG p e D s m args below meth c Q A E S nL) := by
  intro pc L st σ x hd k H locs ls hP hS hl
  exact lv_l2i hx hb hd rfl (k H locs ls hP hS hl)
theorem s_lcmp {ρ0 : Type} {ret : Option FieldType} {encR : ρ0 → Option Value} {post : ρ0 → f_Mem → Prop} (hx : p.tables.exec = Jvm.exec) (hb : c.code = cc) (hml : c.maxLocals = nL) (hown : s.vm.findClass own = some m.cls) (hts : ∀ w ∈ tb, w.before args s = true) (hN : f_NW s) (hK : f_K E s) (hI : f_I E S) (hA : ∀ k, k < S.1 → A (f_ad E k)) (hA2 : ∀ q, s.heap.size ≤ q → A q) : r_lcmp cc own ret D E S encR post (f_GG p e D s m args below meth c Q A E S nL) := by
  intro pc L st σ x y hd k H locs ls hP hS hl
  exact W.lcmp hx hb hd (k H locs ls hP hS hl)
theorem s_iconst {ρ0 : Type} {ret : Option FieldType} {encR : ρ0 → Option Value} {post : ρ0 → f_Mem → Prop} (hx : p.tables.exec = Jvm.exec) (hb : c.code = cc) (hml : c.maxLocals = nL) (hown : s.vm.findClass own = some m.cls) (hts : ∀ w ∈ tb, w.before args s = true) (hN : f_NW s) (hK : f_K E s) (hI : f_I E S) (hA : ∀ k, k < S.1 → A (f_ad E k)) (hA2 : ∀ q, s.heap.size ≤ q → A q) : r_iconst cc own ret D E S encR post (f_GG p e D s m args below meth c Q A E S nL) := by
  intro pc L st σ n v hd h0 k H locs ls hP hS hl
  exact lv_iconst hx hb hd h0 (k H locs ls hP hS hl)
theorem s_bipush {ρ0 : Type} {ret : Option FieldType} {encR : ρ0 → Option Value} {post : ρ0 → f_Mem → Prop} (hx : p.tables.exec = Jvm.exec) (hb : c.code = cc) (hml : c.maxLocals = nL) (hown : s.vm.findClass own = some m.cls) (hts : ∀ w ∈ tb, w.before args s = true) (hN : f_NW s) (hK : f_K E s) (hI : f_I E S) (hA : ∀ k, k < S.1 → A (f_ad E k)) (hA2 : ∀ q, s.heap.size ≤ q → A q) : r_bipush cc own ret D E S encR post (f_GG p e D s m args below meth c Q A E S nL) := by
  intro pc L st σ n v hd h0 k H locs ls hP hS hl
  exact lv_bipush hx hb hd h0 (k H locs ls hP hS hl)
theorem s_sipush {ρ0 : Type} {ret : Option FieldType} {encR : ρ0 → Option Value} {post : ρ0 → f_Mem → Prop} (hx : p.tables.exec = Jvm.exec) (hb : c.code = cc) (hml : c.maxLocals = nL) (hown : s.vm.findClass own = some m.cls) (hts : ∀ w ∈ tb, w.before args s = true) (hN : f_NW s) (hK : f_K E s) (hI : f_I E S) (hA : ∀ k, k < S.1 → A (f_ad E k)) (hA2 : ∀ q, s.heap.size ≤ q → A q) : r_sipush cc own ret D E S encR post (f_GG p e D s m args below meth c Q A E S nL) := by
  intro pc L st σ n v hd h0 k H locs ls hP hS hl
  exact lv_sipush hx hb hd h0 (k H locs ls hP hS hl)
theorem s_lconst {ρ0 : Type} {ret : Option FieldType} {encR : ρ0 → Option Value} {post : ρ0 → f_Mem → Prop} (hx : p.tables.exec = Jvm.exec) (hb : c.code = cc) (hml : c.maxLocals = nL) (hown : s.vm.findClass own = some m.cls) (hts : ∀ w ∈ tb, w.before args s = true) (hN : f_NW s) (hK : f_K E s) (hI : f_I E S) (hA : ∀ k, k < S.1 → A (f_ad E k)) (hA2 : ∀ q, s.heap.size ≤ q → A q) : r_lconst cc own ret D E S encR post (f_GG p e D s m args below meth c Q A E S nL) := by
  intro pc L st σ n v hd h0 k H locs ls hP hS hl
  exact lv_lconst hx hb hd h0 (k H locs ls hP hS hl)
theorem s_ldc {ρ0 : Type} {ret : Option FieldType} {encR : ρ0 → Option Value} {post : ρ0 → f_Mem → Prop} (hx : p.tables.exec = Jvm.exec) (hb : c.code = cc) (hml : c.maxLocals = nL) (hown : s.vm.findClass own = some m.cls) (hts : ∀ w ∈ tb, w.before args s = true) (hN : f_NW s) (hK : f_K E s) (hI : f_I E S) (hA : ∀ k, k < S.1 → A (f_ad E k)) (hA2 : ∀ q, s.heap.size ≤ q → A q) : r_ldc cc own ret D E S encR post (f_GG p e D s m args below meth c Q A E S nL) := by
  intro pc L st σ i v hd h0 k H locs ls hP hS hl
  exact lv_ldc hx hb hown (hts _ h0) hd (k H locs ls hP hS hl)
theorem s_ldcw {ρ0 : Type} {ret : Option FieldType} {encR : ρ0 → Option Value} {post : ρ0 → f_Mem → Prop} (hx : p.tables.exec = Jvm.exec) (hb : c.code = cc) (hml : c.maxLocals = nL) (hown : s.vm.findClass own = some m.cls) (hts : ∀ w ∈ tb, w.before args s = true) (hN : f_NW s) (hK : f_K E s) (hI : f_I E S) (hA : ∀ k, k < S.1 → A (f_ad E k)) (hA2 : ∀ q, s.heap.size ≤ q → A q) : r_ldcw cc own ret D E S encR post (f_GG p e D s m args below meth c Q A E S nL) := by
  intro pc L st σ i v hd h0 k H locs ls hP hS hl
  exact lv_ldcw hx hb hown (hts _ h0) hd (k H locs ls hP hS hl)
theorem s_ldc2 {ρ0 : Type} {ret : Option FieldType} {encR : ρ0 → Option Value} {post : ρ0 → f_Mem → Prop} (hx : p.tables.exec = Jvm.exec) (hb : c.code = cc) (hml : c.maxLocals = nL) (hown : s.vm.findClass own = some m.cls) (hts : ∀ w ∈ tb, w.before args s = true) (hN : f_NW s) (hK : f_K E s) (hI : f_I E S) (hA : ∀ k, k < S.1 → A (f_ad E k)) (hA2 : ∀ q, s.heap.size ≤ q → A q) : r_ldc2 cc own ret D E S encR post (f_GG p e D s m args below meth c Q A E S nL) := by
  intro pc L st σ i v hd h0 k H locs ls hP hS hl
  exact lv_ldc2 hx hb hown (hts _ h0) hd (k H locs ls hP hS hl)
theorem s_null {ρ0 : Type} {ret : Option FieldType} {encR : ρ0 → Option Value} {post : ρ0 → f_Mem → Prop} (hx : p.tables.exec = Jvm.exec) (hb : c.code = cc) (hml : c.maxLocals = nL) (hown : s.vm.findClass own = some m.cls) (hts : ∀ w ∈ tb, w.before args s = true) (hN : f_NW s) (hK : f_K E s) (hI : f_I E S) (hA : ∀ k, k < S.1 → A (f_ad E k)) (hA2 : ∀ q, s.heap.size ≤ q → A q) : r_null cc own ret D E S encR post (f_GG p e D s m args below meth c Q A E S nL) := by
  intro pc L st σ hd k H locs ls hP hS hl
  exact lv_null hx hb hd (k H locs ls hP hS hl)
theorem s_dup {ρ0 : Type} {ret : Option FieldType} {encR : ρ0 → Option Value} {post : ρ0 → f_Mem → Prop} (hx : p.tables.exec = Jvm.exec) (hb : c.code = cc) (hml : c.maxLocals = nL) (hown : s.vm.findClass own = some m.cls) (hts : ∀ w ∈ tb, w.before args s = true) (hN : f_NW s) (hK : f_K E s) (hI : f_I E S) (hA : ∀ k, k < S.1 → A (f_ad E k)) (hA2 : ∀ q, s.heap.size ≤ q → A q) : r_dup cc own ret D E S encR post (f_GG p e D s m args below meth c Q A E S nL) := by
  intro pc L st σ v hd h0 k H locs ls hP hS hl
  exact lv_dup hx hb hd h0 (k H locs ls hP hS hl)
theorem s_dup2 {ρ0 : Type} {ret : Option FieldType} {encR : ρ0 → Option Value} {post : ρ0 → f_Mem → Prop} (hx : p.tables.exec = Jvm.exec) (hb : c.code = cc) (hml : c.maxLocals = nL) (hown : s.vm.findClass own = some m.cls) (hts : ∀ w ∈ tb, w.before args s = true) (hN : f_NW s) (hK : f_K E s) (hI : f_I E S) (hA : ∀ k, k < S.1 → A (f_ad E k)) (hA2 : ∀ q, s.heap.size ≤ q → A q) : r_dup2 cc own ret D E S encR post (f_GG p e D s m args below meth c Q A E S nL) := by
  intro pc L st σ v w hd h0 h1 k H locs ls hP hS hl
  exact lv_dup2_11 hx hb hd h0 h1 (k H locs ls hP hS hl)
theorem s_pop {ρ0 : Type} {ret : Option FieldType} {encR : ρ0 → Option Value} {post : ρ0 → f_Mem → Prop} (hx : p.tables.exec = Jvm.exec) (hb : c.code = cc) (hml : c.maxLocals = nL) (hown : s.vm.findClass own = some m.cls) (hts : ∀ w ∈ tb, w.before args s = true) (hN : f_NW s) (hK : f_K E s) (hI : f_I E S) (hA : ∀ k, k < S.1 → A (f_ad E k)) (hA2 : ∀ q, s.heap.size ≤ q → A q) : r_pop cc own ret D E S encR post (f_GG p e D s m args below meth c Q A E S nL) := by
  intro pc L st σ v hd h0 k H locs ls hP hS hl
  exact lv_pop hx hb hd h0 (k H locs ls hP hS hl)
theorem s_icmp_eq {ρ0 : Type} {ret : Option FieldType} {encR : ρ0 → Option Value} {post : ρ0 → f_Mem → Prop} (hx : p.tables.exec = Jvm.exec) (hb : c.code = cc) (hml : c.maxLocals = nL) (hown : s.vm.findClass own = some m.cls) (hts : ∀ w ∈ tb, w.before args s = true) (hN : f_NW s) (hK : f_K E s) (hI : f_I E S) (hA : ∀ k, k < S.1 → A (f_ad E k)) (hA2 : ∀ q, s.heap.size ≤ q → A q) : r_icmp_eq cc own ret D E S encR post (f_GG p e D s m args below meth c Q A E S nL) := by
  intro pc L st σ off tgt x y hd ht kt kf H locs ls hP hS hl
  exact lv_icmp_eq hx hb hd ht (fun z => kt z H locs ls hP hS hl) (fun z => kf z H locs ls hP hS hl)
theorem s_icmp_ne {ρ0 : Type} {ret : Option FieldType} {encR : ρ0 → Option Value} {post : ρ0 → f_Mem → Prop} (hx : p.tables.exec = Jvm.exec) (hb : c.code = cc) (hml : c.maxLocals = nL) (hown : s.vm.findClass own = some m.cls) (hts : ∀ w ∈ tb, w.before args s = true) (hN : f_NW s) (hK : f_K E s) (hI : f_I E S) (hA : ∀ k, k < S.1 → A (f_ad E k)) (hA2 : ∀ q, s.heap.size ≤ q → A q) : r_icmp_ne cc own ret D E S encR post (f_GG p e D s m args below meth c Q A E S nL) := by
  intro pc L st σ off tgt x y hd ht kt kf H locs ls hP hS hl
  exact lv_icmp_ne hx hb hd ht (fun z => kt z H locs ls hP hS hl) (fun z => kf z H locs ls hP hS hl)
theorem s_icmp_lt {ρ0 : Type} {ret : Option FieldType} {encR : ρ0 → Option Value} {post : ρ0 → f_Mem → Prop} (hx : p.tables.exec = Jvm.exec) (hb : c.code = cc) (hml : c.maxLocals = nL) (hown : s.vm.findClass own = some m.cls) (hts : ∀ w ∈ tb, w.before args s = true) (hN : f_NW s) (hK : f_K E s) (hI : f_I E S) (hA : ∀ k, k < S.1 → A (f_ad E k)) (hA2 : ∀ q, s.heap.size ≤ q → A q) : r_icmp_lt cc own ret D E S encR post (f_GG p e D s m args below meth c Q A E S nL) := by
  intro pc L st σ off tgt x y hd ht kt kf H locs ls hP hS hl
  exact lv_icmp_lt hx hb hd ht (fun z => kt z H locs ls hP hS hl) (fun z => kf z H locs ls hP hS hl)
theorem s_icmp_ge {ρ0 : Type} {ret : Option FieldType} {encR : ρ0 → Option Value} {post : ρ0 → f_Mem → Prop} (hx : p.tables.exec = Jvm.exec) (hb : c.code = cc) (hml : c.maxLocals = nL) (hown : s.vm.findClass own = some m.cls) (hts : ∀ w ∈ tb, w.before args s = true) (hN : f_NW s) (hK : f_K E s) (hI : f_I E S) (hA : ∀ k, k < S.1 → A (f_ad E k)) (hA2 : ∀ q, s.heap.size ≤ q → A q) : r_icmp_ge cc own ret D E S encR post (f_GG p e D s m args below meth c Q A E S nL) := by
  intro pc L st σ off tgt x y hd ht kt kf H locs ls hP hS hl
  exact lv_icmp_ge hx hb hd ht (fun z => kt z H locs ls hP hS hl) (fun z => kf z H locs ls hP hS hl)
theorem s_icmp_gt {ρ0 : Type} {ret : Option FieldType} {encR : ρ0 → Option Value} {post : ρ0 → f_Mem → Prop} (hx : p.tables.exec = Jvm.exec) (hb : c.code = cc) (hml : c.maxLocals = nL) (hown : s.vm.findClass own = some m.cls) (hts : ∀ w ∈ tb, w.before args s = true) (hN : f_NW s) (hK : f_K E s) (hI : f_I E S) (hA : ∀ k, k < S.1 → A (f_ad E k)) (hA2 : ∀ q, s.heap.size ≤ q → A q) : r_icmp_gt cc own ret D E S encR post (f_GG p e D s m args below meth c Q A E S nL) := by
  intro pc L st σ off tgt x y hd ht kt kf H locs ls hP hS hl
  exact lv_icmp_gt hx hb hd ht (fun z => kt z H locs ls hP hS hl) (fun z => kf z H locs ls hP hS hl)
theorem s_icmp_le {ρ0 : Type} {ret : Option FieldType} {encR : ρ0 → Option Value} {post : ρ0 → f_Mem → Prop} (hx : p.tables.exec = Jvm.exec) (hb : c.code = cc) (hml : c.maxLocals = nL) (hown : s.vm.findClass own = some m.cls) (hts : ∀ w ∈ tb, w.before args s = true) (hN : f_NW s) (hK : f_K E s) (hI : f_I E S) (hA : ∀ k, k < S.1 → A (f_ad E k)) (hA2 : ∀ q, s.heap.size ≤ q → A q) : r_icmp_le cc own ret D E S encR post (f_GG p e D s m args below meth c Q A E S nL) := by
  intro pc L st σ off tgt x y hd ht kt kf H locs ls hP hS hl
  exact lv_icmp_le hx hb hd ht (fun z => kt z H locs ls hP hS hl) (fun z => kf z H locs ls hP hS hl)
theorem s_if_eq {ρ0 : Type} {ret : Option FieldType} {encR : ρ0 → Option Value} {post : ρ0 → f_Mem → Prop} (hx : p.tables.exec = Jvm.exec) (hb : c.code = cc) (hml : c.maxLocals = nL) (hown : s.vm.findClass own = some m.cls) (hts : ∀ w ∈ tb, w.before args s = true) (hN : f_NW s) (hK : f_K E s) (hI : f_I E S) (hA : ∀ k, k < S.1 → A (f_ad E k)) (hA2 : ∀ q, s.heap.size ≤ q → A q) : r_if_eq cc own ret D E S encR post (f_GG p e D s m args below meth c Q A E S nL) := by
  intro pc L st σ off tgt x hd ht kt kf H locs ls hP hS hl
  exact lv_if_eq hx hb hd ht (fun z => kt z H locs ls hP hS hl) (fun z => kf z H locs ls hP hS hl)
theorem s_if_ne {ρ0 : Type} {ret : Option FieldType} {encR : ρ0 → Option Value} {post : ρ0 → f_Mem → Prop} (hx : p.tables.exec = Jvm.exec) (hb : c.code = cc) (hml : c.maxLocals = nL) (hown : s.vm.findClass own = some m.cls) (hts : ∀ w ∈ tb, w.before args s = true) (hN : f_NW s) (hK : f_K E s) (hI : f_I E S) (hA : ∀ k, k < S.1 → A (f_ad E k)) (hA2 : ∀ q, s.heap.size ≤ q → A q) : r_if_ne cc own ret D E S encR post (f_GG p e D s m args below meth c Q A E S nL) := by
  intro pc L st σ off tgt x hd ht kt kf H locs ls hP hS hl
  exact lv_if_ne hx hb hd ht (fun z => kt z H locs ls hP hS hl) (fun z => kf z H locs ls hP hS hl)
theorem s_if_lt {ρ0 : Type} {ret : Option FieldType} {encR : ρ0 → Option Value} {post : ρ0 → f_Mem → Prop} (hx : p.tables.exec = Jvm.exec) (hb : c.code = cc) (hml : c.maxLocals = nL) (hown : s.vm.findClass own = some m.cls) (hts : ∀ w ∈ tb, w.before args s = true) (hN : f_NW s) (hK : f_K E s) (hI : f_I E S) (hA : ∀ k, k < S.1 → A (f_ad E k)) (hA2 : ∀ q, s.heap.size ≤ q → A q) : r_if_lt cc own ret D E S encR post (f_GG p e D s m args below meth c Q A E S nL) := by
  intro pc L st σ off tgt x hd ht kt kf H locs ls hP hS hl
  exact lv_if_lt hx hb hd ht (fun z => kt z H locs ls hP hS hl) (fun z => kf z H locs ls hP hS hl)
theorem s_if_ge {ρ0 : Type} {ret : Option FieldType} {encR : ρ0 → Option Value} {post : ρ0 → f_Mem → Prop} (hx : p.tables.exec = Jvm.exec) (hb : c.code = cc) (hml : c.maxLocals = nL) (hown : s.vm.findClass own = some m.cls) (hts : ∀ w ∈ tb, w.before args s = true) (hN : f_NW s) (hK : f_K E s) (hI : f_I E S) (hA : ∀ k, k < S.1 → A (f_ad E k)) (hA2 : ∀ q, s.heap.size ≤ q → A q) : r_if_ge cc own ret D E S encR post (f_GG p e D s m args below meth c Q A E S nL) := by
  intro pc L st σ off tgt x hd ht kt kf H locs ls hP hS hl
  exact lv_if_ge hx hb hd ht (fun z => kt z H locs ls hP hS hl) (fun z => kf z H locs ls hP hS hl)
theorem s_if_gt {ρ0 : Type} {ret : Option FieldType} {encR : ρ0 → Option Value} {post : ρ0 → f_Mem → Prop} (hx : p.tables.exec = Jvm.exec) (hb : c.code = cc) (hml : c.maxLocals = nL) (hown : s.vm.findClass own = some m.cls) (hts : ∀ w ∈ tb, w.before args s = true) (hN : f_NW s) (hK : f_K E s) (hI : f_I E S) (hA : ∀ k, k < S.1 → A (f_ad E k)) (hA2 : ∀ q, s.heap.size ≤ q → A q) : r_if_gt cc own ret D E S encR post (f_GG p e D s m args below meth c Q A E S nL) := by
  intro pc L st σ off tgt x hd ht kt kf H locs ls hP hS hl
  exact lv_if_gt hx hb hd ht (fun z => kt z H locs ls hP hS hl) (fun z => kf z H locs ls hP hS hl)
theorem s_if_le {ρ0 : Type} {ret : Option FieldType} {encR : ρ0 → Option Value} {post : ρ0 → f_Mem → Prop} (hx : p.tables.exec = Jvm.exec) (hb : c.code = cc) (hml : c.maxLocals = nL) (hown : s.vm.findClass own = some m.cls) (hts : ∀ w ∈ tb, w.before args s = true) (hN : f_NW s) (hK : f_K E s) (hI : f_I E S) (hA : ∀ k, k < S.1 → A (f_ad E k)) (hA2 : ∀ q, s.heap.size ≤ q → A q) : r_if_le cc own ret D E S encR post (f_GG p e D s m args below meth c Q A E S nL) := by
  intro pc L st σ off tgt x hd ht kt kf H locs ls hP hS hl
  exact lv_if_le hx hb hd ht (fun z => kt z H locs ls hP hS hl) (fun z => kf z H locs ls hP hS hl)
theorem s_goto {ρ0 : Type} {ret : Option FieldType} {encR : ρ0 → Option Value} {post : ρ0 → f_Mem → Prop} (hx : p.tables.exec = Jvm.exec) (hb : c.code = cc) (hml : c.maxLocals = nL) (hown : s.vm.findClass own = some m.cls) (hts : ∀ w ∈ tb, w.before args s = true) (hN : f_NW s) (hK : f_K E s) (hI : f_I E S) (hA : ∀ k, k < S.1 → A (f_ad E k)) (hA2 : ∀ q, s.heap.size ≤ q → A q) : r_goto cc own ret D E S encR post (f_GG p e D s m args below meth c Q A E S nL) := by
  intro pc L st σ off tgt hd ht k H locs ls hP hS hl
  exact lv_goto hx hb hd ht (k H locs ls hP hS hl)
theorem s_ifnull {ρ0 : Type} {ret : Option FieldType} {encR : ρ0 → Option Value} {post : ρ0 → f_Mem → Prop} (hx : p.tables.exec = Jvm.exec) (hb : c.code = cc) (hml : c.maxLocals = nL) (hown : s.vm.findClass own = some m.cls) (hts : ∀ w ∈ tb, w.before args s = true) (hN : f_NW s) (hK : f_K E s) (hI : f_I E S) (hA : ∀ k, k < S.1 → A (f_ad E k)) (hA2 : ∀ q, s.heap.size ≤ q → A q) : r_ifnull cc own ret D E S encR post (f_GG p e D s m args below meth c Q A E S nL) := by
  intro pc L st σ off x hd k H locs ls hP hS hl
  exact lv_ifnull hx hb hd (k H locs ls hP hS hl)
theorem s_ifnullN {ρ0 : Type} {ret : Option FieldType} {encR : ρ0 → Option Value} {post : ρ0 → f_Mem → Prop} (hx : p.tables.exec = Jvm.exec) (hb : c.code = cc) (hml : c.maxLocals = nL) (hown : s.vm.findClass own = some m.cls) (hts : ∀ w ∈ tb, w.before args s = true) (hN : f_NW s) (hK : f_K E s) (hI : f_I E S) (hA : ∀ k, k < S.1 → A (f_ad E k)) (hA2 : ∀ q, s.heap.size ≤ q → A q) : r_ifnullN cc own ret D E S encR post (f_GG p e D s m args below meth c Q A E S nL) := by
  intro pc L st σ off tgt hd ht k H locs ls hP hS hl
  exact lv_ifnullN hx hb hd ht (k H locs ls hP hS hl)
theorem s_ifnonnull {ρ0 : Type} {ret : Option FieldType} {encR : ρ0 → Option Value} {post : ρ0 → f_Mem → Prop} (hx : p.tables.exec = Jvm.exec) (hb : c.code = cc) (hml : c.maxLocals = nL) (hown : s.vm.findClass own = some m.cls) (hts : ∀ w ∈ tb, w.before args s = true) (hN : f_NW s) (hK : f_K E s) (hI : f_I E S) (hA : ∀ k, k < S.1 → A (f_ad E k)) (hA2 : ∀ q, s.heap.size ≤ q → A q) : r_ifnonnull cc own ret D E S encR post (f_GG p e D s m args below meth c Q A E S nL) := by
  intro pc L st σ off tgt x hd ht k H locs ls hP hS hl
  exact lv_ifnonnull hx hb hd ht (k H locs ls hP hS hl)
theorem s_ifnonnullN {ρ0 : Type} {ret : Option FieldType} {encR : ρ0 → Option Value} {post : ρ0 → f_Mem → Prop} (hx : p.tables.exec = Jvm.exec) (hb : c.code = cc) (hml : c.maxLocals = nL) (hown : s.vm.findClass own = some m.cls) (hts : ∀ w ∈ tb, w.before args s = true) (hN : f_NW s) (hK : f_K E s) (hI : f_I E S) (hA : ∀ k, k < S.1 → A (f_ad E k)) (hA2 : ∀ q, s.heap.size ≤ q → A q) : r_ifnonnullN cc own ret D E S encR post (f_GG p e D s m args below meth c Q A E S nL) := by
  intro pc L st σ off hd k H locs ls hP hS hl
  exact lv_ifnonnullN hx hb hd (k H locs ls hP hS hl)
theorem s_tblIn {ρ0 : Type} {ret : Option FieldType} {encR : ρ0 → Option Value} {post : ρ0 → f_Mem → Prop} (hx : p.tables.exec = Jvm.exec) (hb : c.code = cc) (hml : c.maxLocals = nL) (hown : s.vm.findClass own = some m.cls) (hts : ∀ w ∈ tb, w.before args s = true) (hN : f_NW s) (hK : f_K E s) (hI : f_I E S) (hA : ∀ k, k < S.1 → A (f_ad E k)) (hA2 : ∀ q, s.heap.size ≤ q → A q) : r_tblIn cc own ret D E S encR post (f_GG p e D s m args below meth c Q A E S nL) := by
  intro pc L st σ dflt lo hi offs len x off tgt hd h0 h1 h2 h3 k H locs ls hP hS hl
  exact lv_tableIn hx hb hd h0 h1 h2 h3 (k H locs ls hP hS hl)
theorem s_tblOut {ρ0 : Type} {ret : Option FieldType} {encR : ρ0 → Option Value} {post : ρ0 → f_Mem → Prop} (hx : p.tables.exec = Jvm.exec) (hb : c.code = cc) (hml : c.maxLocals = nL) (hown : s.vm.findClass own = some m.cls) (hts : ∀ w ∈ tb, w.before args s = true) (hN : f_NW s) (hK : f_K E s) (hI : f_I E S) (hA : ∀ k, k < S.1 → A (f_ad E k)) (hA2 : ∀ q, s.heap.size ≤ q → A q) : r_tblOut cc own ret D E S encR post (f_GG p e D s m args below meth c Q A E S nL) := by
  intro pc L st σ dflt lo hi offs len x tgt hd h0 h1 k H locs ls hP hS hl
  exact lv_tableOut hx hb hd h0 h1 (k H locs ls hP hS hl)
theorem s_iload_n {ρ0 : Type} {ret : Option FieldType} {encR : ρ0 → Option Value} {post : ρ0 → f_Mem → Prop} (hx : p.tables.exec = Jvm.exec) (hb : c.code = cc) (hml : c.maxLocals = nL) (hown : s.vm.findClass own = some m.cls) (hts : ∀ w ∈ tb, w.before args s = true) (hN : f_NW s) (hK : f_K E s) (hI : f_I E S) (hA : ∀ k, k < S.1 → A (f_ad E k)) (hA2 : ∀ q, s.heap.size ≤ q → A q) : r_iload_n cc own ret D E S encR post (f_GG p e D s m args below meth c Q A E S nL) := by
  intro pc L st σ k x hd h0 k H locs ls hP hS hl
  exact lv_iload_n hx hb hd rfl (hl.at h0) (k H locs ls hP hS hl)
theorem s_iload {ρ0 : Type} {ret : Option FieldType} {encR : ρ0 → Option Value} {post : ρ0 → f_Mem → Prop} (hx : p.tables.exec = Jvm.exec) (hb : c.code = cc) (hml : c.maxLocals = nL) (hown : s.vm.findClass own = some m.cls) (hts : ∀ w ∈ tb, w.before args s = true) (hN : f_NW s) (hK : f_K E s) (hI : f_I E S) (hA : ∀ k, k < S.1 → A (f_ad E k)) (hA2 : ∀ q, s.heap.size ≤ q → A q) : r_iload cc own ret D E S encR post (f_GG p e D s m args below meth c Q A E S nL) := by
  intro pc L st σ k x hd h0 k H locs ls hP hS hl
  exact lv_iload hx hb hd (hl.at h0) (k H locs ls hP hS hl)
theorem s_aload_n {ρ0 : Type} {ret : Option FieldType} {encR : ρ0 → Option Value} {post : ρ0 → f_Mem → Prop} (hx : p.tables.exec = Jvm.exec) (hb : c.code = cc) (hml : c.maxLocals = nL) (hown : s.vm.findClass own = some m.cls) (hts : ∀ w ∈ tb, w.before args s = true) (hN : f_NW s) (hK : f_K E s) (hI : f_I E S) (hA : ∀ k, k < S.1 → A (f_ad E k)) (hA2 : ∀ q, s.heap.size ≤ q → A q) : r_aload_n cc own ret D E S encR post (f_GG p e D s m args below meth c Q A E S nL) := by
  intro pc L st σ k x hd h0 k H locs ls hP hS hl
  exact lv_aload_n hx hb hd rfl (hl.at h0) (k H locs ls hP hS hl)
theorem s_aload {ρ0 : Type} {ret : Option FieldType} {encR : ρ0 → Option Value} {post : ρ0 → f_Mem → Prop} (hx : p.tables.exec = Jvm.exec) (hb : c.code = cc) (hml : c.maxLocals = nL) (hown : s.vm.findClass own = some m.cls) (hts : ∀ w ∈ tb, w.before args s = true) (hN : f_NW s) (hK : f_K E s) (hI : f_I E S) (hA : ∀ k, k < S.1 → A (f_ad E k)) (hA2 : ∀ q, s.heap.size ≤ q → A q) : r_aload cc own ret D E S encR post (f_GG p e D s m args below meth c Q A E S nL) := by
  intro pc L st σ k x hd h0 k H locs ls hP hS hl
  exact lv_aload hx hb hd (hl.at h0) (k H locs ls hP hS hl)
theorem s_aloadN_n {ρ0 : Type} {ret : Option FieldType} {encR : ρ0 → Option Value} {post : ρ0 → f_Mem → Prop} (hx : p.tables.exec = Jvm.exec) (hb : c.code = cc) (hml : c.maxLocals = nL) (hown : s.vm.findClass own = some m.cls) (hts : ∀ w ∈ tb, w.before args s = true) (hN : f_NW s) (hK : f_K E s) (hI : f_I E S) (hA : ∀ k, k < S.1 → A (f_ad E k)) (hA2 : ∀ q, s.heap.size ≤ q → A q) : r_aloadN_n cc own ret D E S encR post (f_GG p e D s m args below meth c Q A E S nL) := by
  intro pc L st σ k hd h0 k H locs ls hP hS hl
  exact lv_aload_nN hx hb hd rfl (hl.at h0) (k H locs ls hP hS hl)
theorem s_aloadN {ρ0 : Type} {ret : Option FieldType} {encR : ρ0 → Option Value} {post : ρ0 → f_Mem → Prop} (hx : p.tables.exec = Jvm.exec) (hb : c.code = cc) (hml : c.maxLocals = nL) (hown : s.vm.findClass own = some m.cls) (hts : ∀ w ∈ tb, w.before args s = true) (hN : f_NW s) (hK : f_K E s) (hI : f_I E S) (hA : ∀ k, k < S.1 → A (f_ad E k)) (hA2 : ∀ q, s.heap.size ≤ q → A q) : r_aloadN cc own ret D E S encR post (f_GG p e D s m args below meth c Q A E S nL) := by
  intro pc L st σ k hd h0 k H locs ls hP hS hl
  exact lv_aloadN hx hb hd (hl.at h0) (k H locs ls hP hS hl)
theorem s_lload_n {ρ0 : Type} {ret : Option FieldType} {encR : ρ0 → Option Value} {post : ρ0 → f_Mem → Prop} (hx : p.tables.exec = Jvm.exec) (hb : c.code = cc) (hml : c.maxLocals = nL) (hown : s.vm.findClass own = some m.cls) (hts : ∀ w ∈ tb, w.before args s = true) (hN : f_NW s) (hK : f_K E s) (hI : f_I E S) (hA : ∀ k, k < S.1 → A (f_ad E k)) (hA2 : ∀ q, s.heap.size ≤ q → A q) : r_lload_n cc own ret D E S encR post (f_GG p e D s m args below meth c Q A E S nL) := by
  intro pc L st σ k x hd h0 k H locs ls hP hS hl
  exact lv_lload_n hx hb hd rfl (hl.at h0) (k H locs ls hP hS hl)
theorem s_lload {ρ0 : Type} {ret : Option FieldType} {encR : ρ0 → Option Value} {post : ρ0 → f_Mem → Prop} (hx : p.tables.exec = Jvm.exec) (hb : c.code = cc) (hml : c.maxLocals = nL) (hown : s.vm.findClass own = some m.cls) (hts : ∀ w ∈ tb, w.before args s = true) (hN : f_NW s) (hK : f_K E s) (hI : f_I E S) (hA : ∀ k, k < S.1 → A (f_ad E k)) (hA2 : ∀ q, s.heap.size ≤ q → A q) : r_lload cc own ret D E S encR post (f_GG p e D s m args below meth c Q A E S nL) := by
  intro pc L st σ k x hd h0 k H locs ls hP hS hl
  exact lv_lload hx hb hd (hl.at h0) (k H locs ls hP hS hl)
theorem s_istore_n {ρ0 : Type} {ret : Option FieldType} {encR : ρ0 → Option Value} {post : ρ0 → f_Mem → Prop} (hx : p.tables.exec = Jvm.exec) (hb : c.code = cc) (hml : c.maxLocals = nL) (hown : s.vm.findClass own = some m.cls) (hts : ∀ w ∈ tb, w.before args s = true) (hN : f_NW s) (hK : f_K E s) (hI : f_I E S) (hA : ∀ k, k < S.1 → A (f_ad E k)) (hA2 : ∀ q, s.heap.size ≤ q → A q) : r_istore_n cc own ret D E S encR post (f_GG p e D s m args below meth c Q A E S nL) := by
  intro pc L st σ k x hd h0 h1 k H locs ls hP hS hl
  refine lv_istore_n hx hb hd rfl hl.1 (by rw [← hl.2]; exact h0) rfl (fun ls2 hl2 => ?_)
  exact k H locs ls2 hP hS (f_ls_set hl.2 h1 hl2)
theorem s_istore {ρ0 : Type} {ret : Option FieldType} {encR : ρ0 → Option Value} {post : ρ0 → f_Mem → Prop} (hx : p.tables.exec = Jvm.exec) (hb : c.code = cc) (hml : c.maxLocals = nL) (hown : s.vm.findClass own = some m.cls) (hts : ∀ w ∈ tb, w.before args s = true) (hN : f_NW s) (hK : f_K E s) (hI : f_I E S) (hA : ∀ k, k < S.1 → A (f_ad E k)) (hA2 : ∀ q, s.heap.size ≤ q → A q) : r_istore cc own ret D E S encR post (f_GG p e D s m args below meth c Q A E S nL) := by
  intro pc L st σ k x hd h0 h1 k H locs ls hP hS hl
  refine lv_istore hx hb hd hl.1 (by rw [← hl.2]; exact h0) rfl (fun ls2 hl2 => ?_)
  exact k H locs ls2 hP hS (f_ls_set hl.2 h1 hl2)
theorem s_astore_n {ρ0 : Type} {ret : Option FieldType} {encR : ρ0 → Option Value} {post : ρ0 → f_Mem → Prop} (hx : p.tables.exec = Jvm.exec) (hb : c.code = cc) (hml : c.maxLocals = nL) (hown : s.vm.findClass own = some m.cls) (hts : ∀ w ∈ tb, w.before args s = true) (hN : f_NW s) (hK : f_K E s) (hI : f_I E S) (hA : ∀ k, k < S.1 → A (f_ad E k)) (hA2 : ∀ q, s.heap.size ≤ q → A q) : r_astore_n cc own ret D E S encR post (f_GG p e D s m args below meth c Q A E S nL) := by
  intro pc L st σ k x hd h0 h1 k H locs ls hP hS hl
  refine lv_astore_n hx hb hd rfl hl.1 (by rw [← hl.2]; exact h0) rfl (fun ls2 hl2 => ?_)
  exact k H locs ls2 hP hS (f_ls_set hl.2 h1 hl2)
theorem s_astore {ρ0 : Type} {ret : Option FieldType} {encR : ρ0 → Option Value} {post : ρ0 → f_Mem → Prop} (hx : p.tables.exec = Jvm.exec) (hb : c.code = cc) (hml : c.maxLocals = nL) (hown : s.vm.findClass own = some m.cls) (hts : ∀ w ∈ tb, w.before args s = true) (hN : f_NW s) (hK : f_K E s) (hI : f_I E S) (hA : ∀ k, k < S.1 → A (f_ad E k)) (hA2 : ∀ q, s.heap.size ≤ q → A q) : r_astore cc own ret D E S encR post (f_GG p e D s m args below meth c Q A E S nL) := by
  intro pc L st σ k x hd h0 h1 k H locs ls hP hS hl
  refine lv_astore hx hb hd hl.1 (by rw [← hl.2]; exact h0) rfl (fun ls2 hl2 => ?_)
  exact k H locs ls2 hP hS (f_ls_set hl.2 h1 hl2)
theorem s_astoreN_n {ρ0 : Type} {ret : Option FieldType} {encR : ρ0 → Option Value} {post : ρ0 → f_Mem → Prop} (hx : p.tables.exec = Jvm.exec) (hb : c.code = cc) (hml : c.maxLocals = nL) (hown : s.vm.findClass own = some m.cls) (hts : ∀ w ∈ tb, w.before args s = true) (hN : f_NW s) (hK : f_K E s) (hI : f_I E S) (hA : ∀ k, k < S.1 → A (f_ad E k)) (hA2 : ∀ q, s.heap.size ≤ q → A q) : r_astoreN_n cc own ret D E S encR post (f_GG p e D s m args below meth c Q A E S nL) := by
  intro pc L st σ k hd h0 h1 k H locs ls hP hS hl
  refine lv_astore_nN hx hb hd rfl hl.1 (by rw [← hl.2]; exact h0) rfl (fun ls2 hl2 => ?_)
  exact k H locs ls2 hP hS (f_ls_set hl.2 h1 hl2)
theorem s_astoreN {ρ0 : Type} {ret : Option FieldType} {encR : ρ0 → Option Value} {post : ρ0 → f_Mem → Prop} (hx : p.tables.exec = Jvm.exec) (hb : c.code = cc) (hml : c.maxLocals = nL) (hown : s.vm.findClass own = some m.cls) (hts : ∀ w ∈ tb, w.before args s = true) (hN : f_NW s) (hK : f_K E s) (hI : f_I E S) (hA : ∀ k, k < S.1 → A (f_ad E k)) (hA2 : ∀ q, s.heap.size ≤ q → A q) : r_astoreN cc own ret D E S encR post (f_GG p e D s m args below meth c Q A E S nL) := by
  intro pc L st σ k hd h0 h1 k H locs ls hP hS hl
  refine lv_astoreN hx hb hd hl.1 (by rw [← hl.2]; exact h0) rfl (fun ls2 hl2 => ?_)
  exact k H locs ls2 hP hS (f_ls_set hl.2 h1 hl2)
theorem s_lstore_n {ρ0 : Type} {ret : Option FieldType} {encR : ρ0 → Option Value} {post : ρ0 → f_Mem → Prop} (hx : p.tables.exec = Jvm.exec) (hb : c.code = cc) (hml : c.maxLocals = nL) (hown : s.vm.findClass own = some m.cls) (hts : ∀ w ∈ tb, w.before args s = true) (hN : f_NW s) (hK : f_K E s) (hI : f_I E S) (hA : ∀ k, k < S.1 → A (f_ad E k)) (hA2 : ∀ q, s.heap.size ≤ q → A q) : r_lstore_n cc own ret D E S encR post (f_GG p e D s m args below meth c Q A E S nL) := by
  intro pc L st σ k x hd h0 h1 k H locs ls hP hS hl
  refine lv_lstore_n hx hb hd rfl hl.1 (by rw [← hl.2]; exact h0) rfl (fun ls2 hl2 => ?_)
  exact k H locs ls2 hP hS (f_ls_set2 hl.2 h1 hl2)
theorem s_lstore {ρ0 : Type} {ret : Option FieldType} {encR : ρ0 → Option Value} {post : ρ0 → f_Mem → Prop} (hx : p.tables.exec = Jvm.exec) (hb : c.code = cc) (hml : c.maxLocals = nL) (hown : s.vm.findClass own = some m.cls) (hts : ∀ w ∈ tb, w.before args s = true) (hN : f_NW s) (hK : f_K E s) (hI : f_I E S) (hA : ∀ k, k < S.1 → A (f_ad E k)) (hA2 : ∀ q, s.heap.size ≤ q → A q) : r_lstore cc own ret D E S encR post (f_GG p e D s m args below meth c Q A E S nL) := by
  intro pc L st σ k x hd h0 h1 k H locs ls hP hS hl
  refine lv_lstore hx hb hd hl.1 (by rw [← hl.2]; exact h0) rfl (fun ls2 hl2 => ?_)
  exact k H locs ls2 hP hS (f_ls_set2 hl.2 h1 hl2)
theorem s_iinc {ρ0 : Type} {ret : Option FieldType} {encR : ρ0 → Option Value} {post : ρ0 → f_Mem → Prop} (hx : p.tables.exec = Jvm.exec) (hb : c.code = cc) (hml : c.maxLocals = nL) (hown : s.vm.findClass own = some m.cls) (hts : ∀ w ∈ tb, w.before args s = true) (hN : f_NW s) (hK : f_K E s) (hI : f_I E S) (hA : ∀ k, k < S.1 → A (f_ad E k)) (hA2 : ∀ q, s.heap.size ≤ q → A q) : r_iinc cc own ret D E S encR post (f_GG p e D s m args below meth c Q A E S nL) := by
  intro pc L st σ k n x v hd h0 h1 h2 kk0 H locs ls hP hS hl
  obtain ⟨q, hq⟩ := List.getElem?_of_mem ((f_lv_mem L 0 (k, .int x)).mpr ⟨k, by simp, h0⟩)
  have hlt : k < nL := by rw [← hl.2]; exact (List.getElem?_eq_some_iff.mp h0).1
  refine lv_iinc hx hb hd hl.1 hq h1 hlt rfl (fun ls2 hl2 => ?_)
  exact kk0 H locs ls2 hP hS (f_ls_set hl.2 h2 hl2)
theorem s_getI {ρ0 : Type} {ret : Option FieldType} {encR : ρ0 → Option Value} {post : ρ0 → f_Mem → Prop} (hx : p.tables.exec = Jvm.exec) (hb : c.code = cc) (hml : c.maxLocals = nL) (hown : s.vm.findClass own = some m.cls) (hts : ∀ w ∈ tb, w.before args s = true) (hN : f_NW s) (hK : f_K E s) (hI : f_I E S) (hA : ∀ k, k < S.1 → A (f_ad E k)) (hA2 : ∀ q, s.heap.size ≤ q → A q) : r_getI cc own ret D E S encR post (f_GG p e D s m args below meth c Q A E S nL) := by
  intro pc L st σ i ci k n fs hd h0 h1 h2 h3 kk0 H locs ls hP hS hl
  obtain ⟨C, T, N, g1, g2, g3, g4⟩ := h0
  have he := f_wl_at E S σ h1
  rw [f_cell_o h2] at he
  have hv : (f_fld (f_ad E) (σ n) 0 fs)[k]? = some (.int (σ n k)) := by rw [f_fld_get, h3]; simp
  rcases g4 with g4 | ⟨host, g4⟩
  · exact va_get hx hb hts g2 hown hK hP n he g1 k g3 (hts _ g4) (fun _ h9 => h9) hv hd (kk0 H locs ls hP hS hl)
  · exact va_getN hx hb hts g2 hown hK hP n he g1 k g3 (hN.use _ g4) (fun _ h9 => h9) hv hd (kk0 H locs ls hP hS hl)
theorem s_getR {ρ0 : Type} {ret : Option FieldType} {encR : ρ0 → Option Value} {post : ρ0 → f_Mem → Prop} (hx : p.tables.exec = Jvm.exec) (hb : c.code = cc) (hml : c.maxLocals = nL) (hown : s.vm.findClass own = some m.cls) (hts : ∀ w ∈ tb, w.before args s = true) (hN : f_NW s) (hK : f_K E s) (hI : f_I E S) (hA : ∀ k, k < S.1 → A (f_ad E k)) (hA2 : ∀ q, s.heap.size ≤ q → A q) : r_getR cc own ret D E S encR post (f_GG p e D s m args below meth c Q A E S nL) := by
  intro pc L st σ i ci k n r fs hd h0 h1 h2 h3 kk0 H locs ls hP hS hl
  obtain ⟨C, T, N, g1, g2, g3, g4⟩ := h0
  have he := f_wl_at E S σ h1
  rw [f_cell_o h2] at he
  have hv : (f_fld (f_ad E) (σ n) 0 fs)[k]? = some (.ref (f_ad E r)) := by rw [f_fld_get, h3]; simp
  rcases g4 with g4 | ⟨host, g4⟩
  · exact va_get hx hb hts g2 hown hK hP n he g1 k g3 (hts _ g4) (fun _ h9 => h9) hv hd (kk0 H locs ls hP hS hl)
  · exact va_getN hx hb hts g2 hown hK hP n he g1 k g3 (hN.use _ g4) (fun _ h9 => h9) hv hd (kk0 H locs ls hP hS hl)
theorem s_getN {ρ0 : Type} {ret : Option FieldType} {encR : ρ0 → Option Value} {post : ρ0 → f_Mem → Prop} (hx : p.tables.exec = Jvm.exec) (hb : c.code = cc) (hml : c.maxLocals = nL) (hown : s.vm.findClass own = some m.cls) (hts : ∀ w ∈ tb, w.before args s = true) (hN : f_NW s) (hK : f_K E s) (hI : f_I E S) (hA : ∀ k, k < S.1 → A (f_ad E k)) (hA2 : ∀ q, s.heap.size ≤ q → A q) : r_getN cc own ret D E S encR post (f_GG p e D s m args below meth c Q A E S nL) := by
  intro pc L st σ i ci k n fs hd h0 h1 h2 h3 kk0 H locs ls hP hS hl
  obtain ⟨C, T, N, g1, g2, g3, g4⟩ := h0
  have he := f_wl_at E S σ h1
  rw [f_cell_o h2] at he
  have hv : (f_fld (f_ad E) (σ n) 0 fs)[k]? = some (.null) := by rw [f_fld_get, h3]; simp
  rcases g4 with g4 | ⟨host, g4⟩
  · exact va_get hx hb hts g2 hown hK hP n he g1 k g3 (hts _ g4) (fun _ h9 => h9) hv hd (kk0 H locs ls hP hS hl)
  · exact va_getN hx hb hts g2 hown hK hP n he g1 k g3 (hN.use _ g4) (fun _ h9 => h9) hv hd (kk0 H locs ls hP hS hl)
theorem s_put {ρ0 : Type} {ret : Option FieldType} {encR : ρ0 → Option Value} {post : ρ0 → f_Mem → Prop} (hx : p.tables.exec = Jvm.exec) (hb : c.code = cc) (hml : c.maxLocals = nL) (hown : s.vm.findClass own = some m.cls) (hts : ∀ w ∈ tb, w.before args s = true) (hN : f_NW s) (hK : f_K E s) (hI : f_I E S) (hA : ∀ k, k < S.1 → A (f_ad E k)) (hA2 : ∀ q, s.heap.size ≤ q → A q) : r_put cc own ret D E S encR post (f_GG p e D s m args below meth c Q A E S nL) := by
  intro pc L st σ i ci k n fs v hd h0 h1 h2 h3 kk0 H locs ls hP hS hl
  obtain ⟨C, T, N, g1, g2, g3, g4, ⟨ty0, g5⟩, g6, g7, g8⟩ := h0
  have he := f_wl_at E S σ h1
  rw [f_cell_o h2] at he
  have hD := f_D hI hA σ
  have hlen : k < (f_fld (f_ad E) (σ n) 0 fs).length := by rw [f_fld_len]; exact (List.getElem?_eq_some_iff.mp h3).1
  have hset : (f_wl E S σ).set n (f_ad E n, .inr (ci, (f_fld (f_ad E) (σ n) 0 fs).set k (.int v))) = f_wl E S (m_set σ n k v) := by
    refine f_wl_set h1 ?_
    rw [f_cell_o h2, f_fld_set _ _ _ _ _ h3]
    unfold m_row
    rw [if_pos rfl]
  rcases g4 with g4 | ⟨host, g4⟩
  · refine va_put hx hb hts g2 ty0 g5 g6 hown hK hP hD hS n he g1 k g3 (hts _ g4) (fun _ h9 => h9) g7 g8 rfl rfl hlen hd (fun H1 locs1 hP1 _ hS1 => ?_)
    rw [hset] at hP1
    exact kk0 H1 locs1 ls hP1 hS1 hl
  · refine va_putN hx hb hts g2 ty0 g5 g6 hown hK hP hD hS n he g1 k g3 (hN.use _ g4) (fun _ h9 => h9) g7 g8 rfl rfl hlen hd (fun H1 locs1 hP1 _ hS1 => ?_)
    rw [hset] at hP1
    exact kk0 H1 locs1 ls hP1 hS1 hl
theorem s_ald {ρ0 : Type} {ret : Option FieldType} {encR : ρ0 → Option Value} {post : ρ0 → f_Mem → Prop} (hx : p.tables.exec = Jvm.exec) (hb : c.code = cc) (hml : c.maxLocals = nL) (hown : s.vm.findClass own = some m.cls) (hts : ∀ w ∈ tb, w.before args s = true) (hN : f_NW s) (hK : f_K E s) (hI : f_I E S) (hA : ∀ k, k < S.1 → A (f_ad E k)) (hA2 : ∀ q, s.heap.size ≤ q → A q) : r_ald cc own ret D E S encR post (f_GG p e D s m args below meth c Q A E S nL) := by
  intro pc L st σ n len i hd h0 h1 h2 kk0 H locs ls hP hS hl
  have he := f_wl_at E S σ h0
  rw [f_cell_i h1] at he
  exact va_iald hx hb hK hP n 0 he rfl h2 hd (kk0 H locs ls hP hS hl)
theorem s_ast {ρ0 : Type} {ret : Option FieldType} {encR : ρ0 → Option Value} {post : ρ0 → f_Mem → Prop} (hx : p.tables.exec = Jvm.exec) (hb : c.code = cc) (hml : c.maxLocals = nL) (hown : s.vm.findClass own = some m.cls) (hts : ∀ w ∈ tb, w.before args s = true) (hN : f_NW s) (hK : f_K E s) (hI : f_I E S) (hA : ∀ k, k < S.1 → A (f_ad E k)) (hA2 : ∀ q, s.heap.size ≤ q → A q) : r_ast cc own ret D E S encR post (f_GG p e D s m args below meth c Q A E S nL) := by
  intro pc L st σ n len i v hd h0 h1 h2 kk0 H locs ls hP hS hl
  have he := f_wl_at E S σ h0
  rw [f_cell_i h1] at he
  refine va_iast hx hb hK hP (f_D hI hA σ) hS n 0 he rfl h2 hd (fun H1 locs1 hP1 _ hS1 => ?_)
  rw [f_wl_set (f := upd (σ n) i.toNatClampNeg v) h0 (by rw [f_cell_i h1]; unfold m_row; rw [if_pos rfl])] at hP1
  exact kk0 H1 locs1 ls hP1 hS1 hl
theorem s_alenI {ρ0 : Type} {ret : Option FieldType} {encR : ρ0 → Option Value} {post : ρ0 → f_Mem → Prop} (hx : p.tables.exec = Jvm.exec) (hb : c.code = cc) (hml : c.maxLocals = nL) (hown : s.vm.findClass own = some m.cls) (hts : ∀ w ∈ tb, w.before args s = true) (hN : f_NW s) (hK : f_K E s) (hI : f_I E S) (hA : ∀ k, k < S.1 → A (f_ad E k)) (hA2 : ∀ q, s.heap.size ≤ q → A q) : r_alenI cc own ret D E S encR post (f_GG p e D s m args below meth c Q A E S nL) := by
  intro pc L st σ n len hd h0 h1 kk0 H locs ls hP hS hl
  have he := f_wl_at E S σ h0
  rw [f_cell_i h1] at he
  exact va_alen hx hb hK hP n 0 he (ty := .int) rfl rfl hd (kk0 H locs ls hP hS hl)
theorem s_alenQ {ρ0 : Type} {ret : Option FieldType} {encR : ρ0 → Option Value} {post : ρ0 → f_Mem → Prop} (hx : p.tables.exec = Jvm.exec) (hb : c.code = cc) (hml : c.maxLocals = nL) (hown : s.vm.findClass own = some m.cls) (hts : ∀ w ∈ tb, w.before args s = true) (hN : f_NW s) (hK : f_K E s) (hI : f_I E S) (hA : ∀ k, k < S.1 → A (f_ad E k)) (hA2 : ∀ q, s.heap.size ≤ q → A q) : r_alenQ cc own ret D E S encR post (f_GG p e D s m args below meth c Q A E S nL) := by
  intro pc L st σ n len hd h0 h1 kk0 H locs ls hP hS hl
  have he := f_wl_at E S σ h0
  rw [f_cell_q h1] at he
  exact va_alen hx hb hK hP n 1 he (ty := .object RX2) rfl rfl hd (kk0 H locs ls hP hS hl)
theorem s_aldQ {ρ0 : Type} {ret : Option FieldType} {encR : ρ0 → Option Value} {post : ρ0 → f_Mem → Prop} (hx : p.tables.exec = Jvm.exec) (hb : c.code = cc) (hml : c.maxLocals = nL) (hown : s.vm.findClass own = some m.cls) (hts : ∀ w ∈ tb, w.before args s = true) (hN : f_NW s) (hK : f_K E s) (hI : f_I E S) (hA : ∀ k, k < S.1 → A (f_ad E k)) (hA2 : ∀ q, s.heap.size ≤ q → A q) : r_aldQ cc own ret D E S encR post (f_GG p e D s m args below meth c Q A E S nL) := by
  intro pc L st σ n len i hd h0 h1 h2 kk0 H locs ls hP hS hl
  have he := f_wl_at E S σ h0
  rw [f_cell_q h1] at he
  exact va_aldq hx hb hK hP n 1 (C := RX2) he rfl h2 hd (kk0 H locs ls hP hS hl)
theorem s_astQ {ρ0 : Type} {ret : Option FieldType} {encR : ρ0 → Option Value} {post : ρ0 → f_Mem → Prop} (hx : p.tables.exec = Jvm.exec) (hb : c.code = cc) (hml : c.maxLocals = nL) (hown : s.vm.findClass own = some m.cls) (hts : ∀ w ∈ tb, w.before args s = true) (hN : f_NW s) (hK : f_K E s) (hI : f_I E S) (hA : ∀ k, k < S.1 → A (f_ad E k)) (hA2 : ∀ q, s.heap.size ≤ q → A q) : r_astQ cc own ret D E S encR post (f_GG p e D s m args below meth c Q A E S nL) := by
  intro pc L st σ n len r fs i hd h0 h1 h2 h3 h4 h5 kk0 H locs ls hP hS hl
  have he := f_wl_at E S σ h0
  rw [f_cell_q h1] at he
  have hv := f_wl_at E S σ h3
  rw [f_cell_o h4] at hv
  refine va_astq (r := (RX2, TX2, 5)) hx hb hK hP (f_D hI hA σ) hS n 1 r 2 he rfl hv rfl h2 hd (fun H1 locs1 hP1 _ hS1 => ?_)
  rw [f_wl_set (f := upd (σ n) i.toNatClampNeg (Int32.ofNat r)) h0 (by
    rw [f_cell_q h1]; unfold m_row; rw [if_pos rfl]
    congr 2; congr 1; congr 1; congr 1; congr 1; congr 1
    funext j
    unfold upd va_up
    by_cases hj : j = i.toNatClampNeg
    · rw [if_pos hj, if_pos hj, Int32.toNatClampNeg_ofNat_of_lt h5]
    · rw [if_neg hj, if_neg hj])] at hP1
  exact kk0 H1 locs1 ls hP1 hS1 hl
theorem s_max {ρ0 : Type} {ret : Option FieldType} {encR : ρ0 → Option Value} {post : ρ0 → f_Mem → Prop} (hx : p.tables.exec = Jvm.exec) (hb : c.code = cc) (hml : c.maxLocals = nL) (hown : s.vm.findClass own = some m.cls) (hts : ∀ w ∈ tb, w.before args s = true) (hN : f_NW s) (hK : f_K E s) (hI : f_I E S) (hA : ∀ k, k < S.1 → A (f_ad E k)) (hA2 : ∀ q, s.heap.size ≤ q → A q) : r_max cc own ret D E S encR post (f_GG p e D s m args below meth c Q A E S nL) := by
  intro pc L st σ i x y hd h0 h1 h2 kk0 H locs ls hP hS hl
  have h3 : (st.map fun v => v.category).sum + 13 ≤ (f_rm D).locals := by show _ ≤ 60 * D; omega
  exact va_mmax hx hb (hml.trans hl.1.1.symm) hown (hts _ h0) (hts _ tb_max1) (hts _ tb_math) (hts _ tb_max2) h1 h3 (Nat.zero_le _) (Nat.zero_le _) hd (kk0 H locs ls hP hS hl)
theorem s_min {ρ0 : Type} {ret : Option FieldType} {encR : ρ0 → Option Value} {post : ρ0 → f_Mem → Prop} (hx : p.tables.exec = Jvm.exec) (hb : c.code = cc) (hml : c.maxLocals = nL) (hown : s.vm.findClass own = some m.cls) (hts : ∀ w ∈ tb, w.before args s = true) (hN : f_NW s) (hK : f_K E s) (hI : f_I E S) (hA : ∀ k, k < S.1 → A (f_ad E k)) (hA2 : ∀ q, s.heap.size ≤ q → A q) : r_min cc own ret D E S encR post (f_GG p e D s m args below meth c Q A E S nL) := by
  intro pc L st σ i x y hd h0 h1 h2 kk0 H locs ls hP hS hl
  have h3 : (st.map fun v => v.category).sum + 13 ≤ (f_rm D).locals := by show _ ≤ 60 * D; omega
  exact va_mmin hx hb (hml.trans hl.1.1.symm) hown (hts _ h0) (hts _ tb_min1) (hts _ tb_math) (hts _ tb_min2) h1 h3 (Nat.zero_le _) (Nat.zero_le _) hd (kk0 H locs ls hP hS hl)
theorem s_copy {ρ0 : Type} {ret : Option FieldType} {encR : ρ0 → Option Value} {post : ρ0 → f_Mem → Prop} (hx : p.tables.exec = Jvm.exec) (hb : c.code = cc) (hml : c.maxLocals = nL) (hown : s.vm.findClass own = some m.cls) (hts : ∀ w ∈ tb, w.before args s = true) (hN : f_NW s) (hK : f_K E s) (hI : f_I E S) (hA : ∀ k, k < S.1 → A (f_ad E k)) (hA2 : ∀ q, s.heap.size ≤ q → A q) : r_copy cc own ret D E S encR post (f_GG p e D s m args below meth c Q A E S nL) := by
  intro pc L st σ i n0 n1 l0 l1 sp dp n hd h0 h1 h2 h3 h4 h5 h6 h7 h8 h9 h10 h11 kk0 H locs ls hP hS hl
  have he0 := f_wl_at E S σ h3
  rw [f_cell_i h5] at he0
  have he1 := f_wl_at E S σ h4
  rw [f_cell_i h6] at he1
  have hloc : (st.map fun v => v.category).sum + (nativeFrameWords "java/lang/System" "arraycopy" 5 + 11) ≤ (f_rm D).locals := by
    have h13 : nativeFrameWords "java/lang/System" "arraycopy" 5 ≤ 30 := by decide +kernel
    show _ ≤ 60 * D
    omega
  refine va_copyi hx hb (hml.trans hl.1.1.symm) hown (hts _ h0) (hts _ tb_copy1) (hts _ tb_copy2) (hts _ tb_sys) hK hP (f_D hI hA σ) hS n0 n1 0 0 (ty := .int) he0 he1 rfl rfl rfl h7 h8 h9 h10 h11 (fun _ _ => rfl) h1 hloc hd (fun H1 locs1 hP1 _ hS1 => ?_)
  rw [f_wl_set (f := va_cpy (σ n0) (σ n1) sp.toNatClampNeg dp.toNatClampNeg n.toNatClampNeg) h4 (by rw [f_cell_i h6]; unfold m_row; rw [if_pos rfl])] at hP1
  exact kk0 H1 locs1 ls hP1 hS1 hl
theorem s_callV {ρ0 : Type} {ret : Option FieldType} {encR : ρ0 → Option Value} {post : ρ0 → f_Mem → Prop} (hx : p.tables.exec = Jvm.exec) (hb : c.code = cc) (hml : c.maxLocals = nL) (hown : s.vm.findClass own = some m.cls) (hts : ∀ w ∈ tb, w.before args s = true) (hN : f_NW s) (hK : f_K E s) (hI : f_I E S) (hA : ∀ k, k < S.1 → A (f_ad E k)) (hA2 : ∀ q, s.heap.size ≤ q → A q) : r_callV cc own ret D E S encR post (f_GG p e D s m args below meth c Q A E S nL) := by
  intro ρ pc L rest As σ i ci n d fs Y enc post2 hd h0 h1 h2 h3 hM9 h5 h6 kk0 H locs ls hP hS hl
  have he := f_wl_at E S σ h1
  rw [f_cell_o h2] at he
  obtain ⟨lc, li, ls9, lk, lh⟩ := h0
  obtain ⟨q, hq, hq2⟩ := Option.map_eq_some_iff.mp h3
  have hrec := va_recv hK hP hq he
  rw [hq2] at hrec
  have hroom : 2 * (F0 m pc ls (As.reverse ++ .ref (f_ad E n) :: rest)).monitorRoom + (rest.map fun v => v.category).sum ≤ 8 := lv_room h6
  have hpre : PreV s H Y.1.cls (f_ad E n) (f_Pc E S (.ref (f_ad E n) :: As) σ H.size) As := ⟨f_FB, hrec, fun U hU hW => ⟨rfl, by rw [hU], by rw [hU]; exact hP, va_K.moved hW.alike hK, hN.warm hW, hI⟩⟩
  have hA1 : ∀ q, f_A E S H.size q → A q := fun q h => by
    rcases h with ⟨k9, h8, rfl⟩ | h
    · exact hA k9 h8
    · exact hA2 q (Nat.le_trans hS.1 h)
  rcases lk with lk | ⟨host, lk⟩
  · exact f_call (va_runV (C := Y.1.cls) ⟨hx, hb, hml, hown, hts⟩ (hM9 H.size) ⟨f_pay hts lc lh h5 (hts _ lk), hts _ li, hts _ ls9⟩ hpre rfl rfl hl.1.1 rfl hroom hd ⟨Nat.zero_le _, Nat.zero_le _⟩) hS (fun q _ h => hA1 q h) hA1 (fun r u H1 locs1 hp hP1 hS1 => kk0 r u hp H1 locs1 ls hP1 hS1 hl)
  · exact f_call (va_runVN (C := Y.1.cls) ⟨hx, hb, hml, hown, hts⟩ (hM9 H.size) ⟨f_payN hts lc lh h5 (hN _ lk), hts _ li, hts _ ls9⟩ hpre rfl rfl hl.1.1 rfl hroom hd ⟨Nat.zero_le _, Nat.zero_le _⟩) hS (fun q _ h => hA1 q h) hA1 (fun r u H1 locs1 hp hP1 hS1 => kk0 r u hp H1 locs1 ls hP1 hS1 hl)
theorem s_callS {ρ0 : Type} {ret : Option FieldType} {encR : ρ0 → Option Value} {post : ρ0 → f_Mem → Prop} (hx : p.tables.exec = Jvm.exec) (hb : c.code = cc) (hml : c.maxLocals = nL) (hown : s.vm.findClass own = some m.cls) (hts : ∀ w ∈ tb, w.before args s = true) (hN : f_NW s) (hK : f_K E s) (hI : f_I E S) (hA : ∀ k, k < S.1 → A (f_ad E k)) (hA2 : ∀ q, s.heap.size ≤ q → A q) : r_callS cc own ret D E S encR post (f_GG p e D s m args below meth c Q A E S nL) := by
  intro ρ pc L rest As σ i d Y enc post2 hd h0 hM9 h2 h3 kk0 H locs ls hP hS hl
  obtain ⟨lc, li, lk, lh⟩ := h0
  have hroom : 2 * (F0 m pc ls (As.reverse ++ rest)).monitorRoom + (rest.map fun v => v.category).sum ≤ 8 := lv_room h3
  have hpre : PreS s H (f_Pc E S As σ H.size) As := ⟨f_FB, fun U hU hW => ⟨rfl, by rw [hU], by rw [hU]; exact hP, va_K.moved hW.alike hK, hN.warm hW, hI⟩⟩
  have hA1 : ∀ q, f_A E S H.size q → A q := fun q h => by
    rcases h with ⟨k9, h8, rfl⟩ | h
    · exact hA k9 h8
    · exact hA2 q (Nat.le_trans hS.1 h)
  rcases lk with lk | ⟨host, lk⟩
  · exact f_call (va_runS ⟨hx, hb, hml, hown, hts⟩ (hM9 H.size) ⟨f_pay hts lc lh h2 (hts _ lk), hts _ li⟩ hpre rfl rfl hl.1.1 rfl hroom hd ⟨Nat.zero_le _, Nat.zero_le _⟩) hS (fun q _ h => hA1 q h) hA1 (fun r u H1 locs1 hp hP1 hS1 => kk0 r u hp H1 locs1 ls hP1 hS1 hl)
  · exact f_call (va_runSN ⟨hx, hb, hml, hown, hts⟩ (hM9 H.size) ⟨f_payN hts lc lh h2 (hN _ lk), hts _ li, trivial⟩ hpre rfl rfl hl.1.1 rfl hroom hd ⟨Nat.zero_le _, Nat.zero_le _⟩) hS (fun q _ h => hA1 q h) hA1 (fun r u H1 locs1 hp hP1 hS1 => kk0 r u hp H1 locs1 ls hP1 hS1 hl)
end FLAT

def f_L0 (nL : Nat) (av : List Value) : f_L := (av.flatMap (fun v => if v.category = 2 then [some v, none] else [some v])) ++ List.replicate (nL - (lg_sl av).length) none
theorem f_L0_mem : ∀ (av : List Value) (i : Nat) (q : Nat × Value) (k : Nat), q ∈ f_lv i (av.flatMap (fun v => if v.category = 2 then [some v, none] else [some v]) ++ List.replicate k none) → q ∈ lv_args i av
  | [], i, q, k => by
    intro h
    obtain ⟨j, -, h2⟩ := (f_lv_mem _ _ _).mp h
    simp only [List.flatMap_nil, List.nil_append] at h2
    have := List.eq_of_mem_replicate (List.mem_of_getElem? h2)
    cases this
  | v :: t, i, q, k => by
    intro h
    simp only [List.flatMap_cons, List.append_assoc] at h
    simp only [lv_args]
    by_cases hv : v.category = 2
    · rw [if_pos hv] at h ⊢
      simp only [List.cons_append, List.nil_append, f_lv, List.mem_cons] at h
      rcases h with h | h
      · rw [h]; exact List.mem_cons_self
      · exact List.mem_cons_of_mem _ (f_L0_mem t (i + 2) q k h)
    · rw [if_neg hv] at h ⊢
      simp only [List.cons_append, List.nil_append, f_lv, List.mem_cons] at h
      rcases h with h | h
      · rw [h]; exact List.mem_cons_self
      · exact List.mem_cons_of_mem _ (f_L0_mem t (i + 1) q k h)
theorem f_lg_len : ∀ av : List Value, (av.flatMap (fun v => if v.category = 2 then [(some v : Option Value), none] else [some v])).length = (lg_sl av).length
  | [] => rfl
  | v :: t => by
    have h := f_lg_len t
    simp only [List.flatMap_cons, List.length_append, lg_sl] at h ⊢
    rw [h]
    congr 1
    rcases lv_cat v with hv | hv <;> simp [hv]
/-- a contract out of a walk with the rules alone -/
theorem FM.intro {ρ0 : Type} {E : f_E} {S : f_S} {Y : f_Y} {D : Nat} {av : List Value} {σ : f_Mem} {encR : ρ0 → Option Value} {post : ρ0 → f_Mem → Prop} (hy : plainName Y.1.cls = true) (hn : (lg_sl av).length ≤ Y.2.2.1) {L0 : f_L} (hL0 : f_L0 Y.2.2.1 av = L0)
    (h : ∀ G : f_G, Rul Y.2.1 Y.1.cls Y.2.2.2 D E S encR post G → G 0 L0 [] σ) : FM E S Y D av σ encR post := by
  intro sz
  refine Met.ofW (cc := Y.2.1) (maxL := Y.2.2.1) (ret := Y.2.2.2) hy rfl ?_
  intro p e s m args below meth c s₁ B hml hv
  obtain ⟨rfl, rfl, hP, hK, hN, hI⟩ := hv
  have hx := B.exec
  have hb := B.bytes
  have hr := B.returns
  have hts0 := atoms_spec (ws := Cond.code Y.1 Y.2.1 Y.2.2.1 Y.2.2.2 :: tb) B.pre
  have hts : ∀ w ∈ tb, w.before av.toArray s = true := fun w hw => hts0 w (List.mem_cons_of_mem _ hw)
  have hown : s.vm.findClass Y.1.cls = some m.cls := findClass_of_methodNamed B.named
  have hlocks := B.notSynchronized
  have hA : ∀ k, k < S.1 → f_A E S s.heap.size (f_ad E k) := fun k hk => Or.inl ⟨k, hk, rfl⟩
  have hA2 : ∀ q, s.heap.size ≤ q → f_A E S s.heap.size q := fun q hq => Or.inr hq
  rw [lg_entry_eq]
  have hl := lv_entry av hn
  have hls : f_ls ((lg_sl av ++ List.replicate (Y.2.2.1 - (lg_sl av).length) Slot.unset).toArray) Y.2.2.1 L0 := by
    subst hL0
    refine ⟨⟨hl.1, hl.2.1, fun q hq => hl.2.2 q (f_L0_mem av 0 q _ hq)⟩, ?_⟩
    unfold f_L0
    rw [List.length_append, List.length_replicate, f_lg_len]
    omega
  refine h (f_GG p e D s m av.toArray below meth c (MQ below (f_Q E S encR post (f_A E S s.heap.size)) av.toArray s 0 0 (f_A E S s.heap.size)) (f_A E S s.heap.size) E S Y.2.2.1) ?_ s.heap [] _ hP va_S.rf hls
  refine ⟨s_iadd hx hb hml hown hts hN hK hI hA hA2, s_isub hx hb hml hown hts hN hK hI hA hA2, s_imul hx hb hml hown hts hN hK hI hA hA2, s_idiv hx hb hml hown hts hN hK hI hA hA2, s_irem hx hb hml hown hts hN hK hI hA hA2, s_iand hx hb hml hown hts hN hK hI hA hA2, s_ior hx hb hml hown hts hN hK hI hA hA2, s_ixor hx hb hml hown hts hN hK hI hA hA2, s_ishl hx hb hml hown hts hN hK hI hA hA2, s_ishr hx hb hml hown hts hN hK hI hA hA2, s_iushr hx hb hml hown hts hN hK hI hA hA2, s_ladd hx hb hml hown hts hN hK hI hA hA2, s_lmul hx hb hml hown hts hN hK hI hA hA2, s_ldiv hx hb hml hown hts hN hK hI hA hA2, s_lrem hx hb hml hown hts hN hK hI hA hA2, s_i2l hx hb hml hown hts hN hK hI hA hA2, s_l2i hx hb hml hown hts hN hK hI hA hA2, s_lcmp hx hb hml hown hts hN hK hI hA hA2, s_iconst hx hb hml hown hts hN hK hI hA hA2, s_bipush hx hb hml hown hts hN hK hI hA hA2, s_sipush hx hb hml hown hts hN hK hI hA hA2, s_lconst hx hb hml hown hts hN hK hI hA hA2, s_ldc hx hb hml hown hts hN hK hI hA hA2, s_ldcw hx hb hml hown hts hN hK hI hA hA2, s_ldc2 hx hb hml hown hts hN hK hI hA hA2, s_null hx hb hml hown hts hN hK hI hA hA2, s_dup hx hb hml hown hts hN hK hI hA hA2, s_dup2 hx hb hml hown hts hN hK hI hA hA2, s_pop hx hb hml hown hts hN hK hI hA hA2, s_icmp_eq hx hb hml hown hts hN hK hI hA hA2, s_icmp_ne hx hb hml hown hts hN hK hI hA hA2, s_icmp_lt hx hb hml hown hts hN hK hI hA hA2, s_icmp_ge hx hb hml hown hts hN hK hI hA hA2, s_icmp_gt hx hb hml hown hts hN hK hI hA hA2, s_icmp_le hx hb hml hown hts hN hK hI hA hA2, s_if_eq hx hb hml hown hts hN hK hI hA hA2, s_if_ne hx hb hml hown hts hN hK hI hA hA2, s_if_lt hx hb hml hown hts hN hK hI hA hA2, s_if_ge hx hb hml hown hts hN hK hI hA hA2, s_if_gt hx hb hml hown hts hN hK hI hA hA2, s_if_le hx hb hml hown hts hN hK hI hA hA2, s_goto hx hb hml hown hts hN hK hI hA hA2, s_ifnull hx hb hml hown hts hN hK hI hA hA2, s_ifnullN hx hb hml hown hts hN hK hI hA hA2, s_ifnonnull hx hb hml hown hts hN hK hI hA hA2, s_ifnonnullN hx hb hml hown hts hN hK hI hA hA2, s_tblIn hx hb hml hown hts hN hK hI hA hA2, s_tblOut hx hb hml hown hts hN hK hI hA hA2, s_iload_n hx hb hml hown hts hN hK hI hA hA2, s_iload hx hb hml hown hts hN hK hI hA hA2, s_aload_n hx hb hml hown hts hN hK hI hA hA2, s_aload hx hb hml hown hts hN hK hI hA hA2, s_aloadN_n hx hb hml hown hts hN hK hI hA hA2, s_aloadN hx hb hml hown hts hN hK hI hA hA2, s_lload_n hx hb hml hown hts hN hK hI hA hA2, s_lload hx hb hml hown hts hN hK hI hA hA2, s_istore_n hx hb hml hown hts hN hK hI hA hA2, s_istore hx hb hml hown hts hN hK hI hA hA2, s_astore_n hx hb hml hown hts hN hK hI hA hA2, s_astore hx hb hml hown hts hN hK hI hA hA2, s_astoreN_n hx hb hml hown hts hN hK hI hA hA2, s_astoreN hx hb hml hown hts hN hK hI hA hA2, s_lstore_n hx hb hml hown hts hN hK hI hA hA2, s_lstore hx hb hml hown hts hN hK hI hA hA2, s_iinc hx hb hml hown hts hN hK hI hA hA2, s_getI hx hb hml hown hts hN hK hI hA hA2, s_getR hx hb hml hown hts hN hK hI hA hA2, s_getN hx hb hml hown hts hN hK hI hA hA2, s_put hx hb hml hown hts hN hK hI hA hA2, s_ald hx hb hml hown hts hN hK hI hA hA2, s_ast hx hb hml hown hts hN hK hI hA hA2, s_alenI hx hb hml hown hts hN hK hI hA hA2, s_alenQ hx hb hml hown hts hN hK hI hA hA2, s_aldQ hx hb hml hown hts hN hK hI hA hA2, s_astQ hx hb hml hown hts hN hK hI hA hA2, s_max hx hb hml hown hts hN hK hI hA hA2, s_min hx hb hml hown hts hN hK hI hA hA2, s_copy hx hb hml hown hts hN hK hI hA hA2, s_callV hx hb hml hown hts hN hK hI hA hA2, s_callS hx hb hml hown hts hN hK hI hA hA2, ?_, ?_, ?_, ?_⟩

  · intro pc L σ v ty hd h0 h1 hq H locs ls hP hS hl
    obtain ⟨r, hr1, hr2⟩ := hq
    exact W.zret hx hb (hr.trans h0) h1 (fun t ht hW => ⟨⟨r, σ, by rw [hr1], hr2, by rw [ht]; exact hP, va_K.moved hW.alike hK⟩, hS.F ht⟩) hS.2.2 hd hlocks
  · intro pc L σ hd h0 hq H locs ls hP hS hl
    obtain ⟨r, hr1, hr2⟩ := hq
    exact W.vret hx hb (hr.trans h0) (fun t ht hW => ⟨⟨r, σ, by rw [hr1], hr2, by rw [ht]; exact hP, va_K.moved hW.alike hK⟩, hS.F ht⟩) hS.2.2 hd hlocks
  · intro pc L σ v hd h0 hq H locs ls hP hS hl
    obtain ⟨r, hr1, hr2⟩ := hq
    exact W.lret hx hb (hr.trans h0) (fun t ht hW => ⟨⟨r, σ, by rw [hr1], hr2, by rw [ht]; exact hP, va_K.moved hW.alike hK⟩, hS.F ht⟩) hS.2.2 hd hlocks
  · intro pc L σ v cn hd h0 h1 hq H locs ls hP hS hl
    obtain ⟨r, hr1, hr2⟩ := hq
    exact W.aret hx hb (hr.trans h0) (Or.inl ⟨cn, rfl⟩) h1 (fun t ht hW => ⟨⟨r, σ, by rw [hr1], hr2, by rw [ht]; exact hP, va_K.moved hW.alike hK⟩, hS.F ht⟩) hS.2.2 hd hlocks
end
section
theorem u_inX0 : ∀ w ∈ u_ws RX0 TX0 9, w ∈ tb := by decide +kernel
theorem u_inX1 : ∀ w ∈ u_ws RX1 TX1 8, w ∈ tb := by decide +kernel
theorem u_inX2 : ∀ w ∈ u_ws RX2 TX2 5, w ∈ tb := by decide +kernel
theorem u_inX3 : ∀ w ∈ u_ws RX3 TX3 2, w ∈ tb := by decide +kernel
theorem u_inX4 : ∀ w ∈ u_ws RX4 TX4 5, w ∈ tb := by decide +kernel
theorem u_inX5 : ∀ w ∈ u_ws RX5 TX5 3, w ∈ tb := by decide +kernel
theorem u_inX6 : ∀ w ∈ u_ws RX6 TX6 2, w ∈ tb := by decide +kernel
theorem u_inX7 : ∀ w ∈ u_ws RX7 TX7 12, w ∈ tb := by decide +kernel
theorem u_inX8 : ∀ w ∈ u_ws RX8 TX8 33, w ∈ tb := by decide +kernel
theorem tw80 : Cond.fieldLink RX3 13 "AsWithTheLast$Numbers" "items" "[I" ∈ tb := tb_in (List.mem_of_getElem? (i := 80) (by decide +kernel)) rfl
theorem flX3_13 : f_FL RX3 13 3 0 := ⟨_, _, _, rfl, u_inX3, by decide, Or.inl tw80⟩
theorem tw81 : Cond.fieldLink RX3 19 "AsWithTheLast$Numbers" "size" "I" ∈ tb := tb_in (List.mem_of_getElem? (i := 81) (by decide +kernel)) rfl
theorem flX3_19 : f_FL RX3 19 3 1 := ⟨_, _, _, rfl, u_inX3, by decide, Or.inl tw81⟩
theorem fpX3_19 : f_FP RX3 19 3 1 := ⟨_, _, _, rfl, u_inX3, by decide, Or.inl tw81, ⟨_, tyX3_ok⟩, nmX3, rfl, by decide +kernel⟩
theorem tw96 : Cond.fieldLink RX1 14 "AsWithTheLast$Lesson" "marks" "LAsWithTheLast$Numbers;" ∈ tb := tb_in (List.mem_of_getElem? (i := 96) (by decide +kernel)) rfl
theorem flX1_14 : f_FL RX1 14 1 0 := ⟨_, _, _, rfl, u_inX1, by decide, Or.inl tw96⟩
theorem tw97 : Cond.fieldLinkNest RX7 125 "AsWithTheLast$Lesson" "marks" "LAsWithTheLast$Numbers;" "AsWithTheLast" ∈ nw := nw_in (List.mem_of_getElem? (i := 97) (by decide +kernel)) rfl
theorem flX7_125 : f_FL RX7 125 1 0 := ⟨_, _, _, rfl, u_inX1, by decide, Or.inr ⟨_, tw97⟩⟩
theorem tw98 : Cond.fieldLinkNest RX0 72 "AsWithTheLast$Lesson" "marks" "LAsWithTheLast$Numbers;" "AsWithTheLast" ∈ nw := nw_in (List.mem_of_getElem? (i := 98) (by decide +kernel)) rfl
theorem flX0_72 : f_FL RX0 72 1 0 := ⟨_, _, _, rfl, u_inX1, by decide, Or.inr ⟨_, tw98⟩⟩
theorem tw99 : Cond.fieldLinkNest RX5 80 "AsWithTheLast$Lesson" "marks" "LAsWithTheLast$Numbers;" "AsWithTheLast" ∈ nw := nw_in (List.mem_of_getElem? (i := 99) (by decide +kernel)) rfl
theorem flX5_80 : f_FL RX5 80 1 0 := ⟨_, _, _, rfl, u_inX1, by decide, Or.inr ⟨_, tw99⟩⟩
theorem tw100 : Cond.fieldLink RX1 20 "AsWithTheLast$Lesson" "right" "LAsWithTheLast$Numbers;" ∈ tb := tb_in (List.mem_of_getElem? (i := 100) (by decide +kernel)) rfl
theorem flX1_20 : f_FL RX1 20 1 1 := ⟨_, _, _, rfl, u_inX1, by decide, Or.inl tw100⟩
theorem tw101 : Cond.fieldLinkNest RX2 68 "AsWithTheLast$Lesson" "right" "LAsWithTheLast$Numbers;" "AsWithTheLast" ∈ nw := nw_in (List.mem_of_getElem? (i := 101) (by decide +kernel)) rfl
theorem flX2_68 : f_FL RX2 68 1 1 := ⟨_, _, _, rfl, u_inX1, by decide, Or.inr ⟨_, tw101⟩⟩
theorem tw102 : Cond.fieldLinkNest RX7 132 "AsWithTheLast$Lesson" "right" "LAsWithTheLast$Numbers;" "AsWithTheLast" ∈ nw := nw_in (List.mem_of_getElem? (i := 102) (by decide +kernel)) rfl
theorem flX7_132 : f_FL RX7 132 1 1 := ⟨_, _, _, rfl, u_inX1, by decide, Or.inr ⟨_, tw102⟩⟩
theorem tw103 : Cond.fieldLinkNest RX0 91 "AsWithTheLast$Lesson" "right" "LAsWithTheLast$Numbers;" "AsWithTheLast" ∈ nw := nw_in (List.mem_of_getElem? (i := 103) (by decide +kernel)) rfl
theorem flX0_91 : f_FL RX0 91 1 1 := ⟨_, _, _, rfl, u_inX1, by decide, Or.inr ⟨_, tw103⟩⟩
theorem tw104 : Cond.fieldLinkNest RX5 90 "AsWithTheLast$Lesson" "right" "LAsWithTheLast$Numbers;" "AsWithTheLast" ∈ nw := nw_in (List.mem_of_getElem? (i := 104) (by decide +kernel)) rfl
theorem flX5_90 : f_FL RX5 90 1 1 := ⟨_, _, _, rfl, u_inX1, by decide, Or.inr ⟨_, tw104⟩⟩
theorem tw105 : Cond.fieldLink RX1 23 "AsWithTheLast$Lesson" "spoilers" "LAsWithTheLast$Numbers;" ∈ tb := tb_in (List.mem_of_getElem? (i := 105) (by decide +kernel)) rfl
theorem flX1_23 : f_FL RX1 23 1 2 := ⟨_, _, _, rfl, u_inX1, by decide, Or.inl tw105⟩
theorem tw106 : Cond.fieldLinkNest RX7 135 "AsWithTheLast$Lesson" "spoilers" "LAsWithTheLast$Numbers;" "AsWithTheLast" ∈ nw := nw_in (List.mem_of_getElem? (i := 106) (by decide +kernel)) rfl
theorem flX7_135 : f_FL RX7 135 1 2 := ⟨_, _, _, rfl, u_inX1, by decide, Or.inr ⟨_, tw106⟩⟩
theorem tw107 : Cond.fieldLinkNest RX5 93 "AsWithTheLast$Lesson" "spoilers" "LAsWithTheLast$Numbers;" "AsWithTheLast" ∈ nw := nw_in (List.mem_of_getElem? (i := 107) (by decide +kernel)) rfl
theorem flX5_93 : f_FL RX5 93 1 2 := ⟨_, _, _, rfl, u_inX1, by decide, Or.inr ⟨_, tw107⟩⟩
theorem tw108 : Cond.fieldLink RX1 26 "AsWithTheLast$Lesson" "worth" "LAsWithTheLast$Numbers;" ∈ tb := tb_in (List.mem_of_getElem? (i := 108) (by decide +kernel)) rfl
theorem flX1_26 : f_FL RX1 26 1 3 := ⟨_, _, _, rfl, u_inX1, by decide, Or.inl tw108⟩
theorem tw109 : Cond.fieldLinkNest RX7 138 "AsWithTheLast$Lesson" "worth" "LAsWithTheLast$Numbers;" "AsWithTheLast" ∈ nw := nw_in (List.mem_of_getElem? (i := 109) (by decide +kernel)) rfl
theorem flX7_138 : f_FL RX7 138 1 3 := ⟨_, _, _, rfl, u_inX1, by decide, Or.inr ⟨_, tw109⟩⟩
theorem tw110 : Cond.fieldLinkNest RX5 96 "AsWithTheLast$Lesson" "worth" "LAsWithTheLast$Numbers;" "AsWithTheLast" ∈ nw := nw_in (List.mem_of_getElem? (i := 110) (by decide +kernel)) rfl
theorem flX5_96 : f_FL RX5 96 1 3 := ⟨_, _, _, rfl, u_inX1, by decide, Or.inr ⟨_, tw110⟩⟩
theorem tw111 : Cond.fieldLink RX1 29 "AsWithTheLast$Lesson" "chance" "LAsWithTheLast$Numbers;" ∈ tb := tb_in (List.mem_of_getElem? (i := 111) (by decide +kernel)) rfl
theorem flX1_29 : f_FL RX1 29 1 4 := ⟨_, _, _, rfl, u_inX1, by decide, Or.inl tw111⟩
theorem tw112 : Cond.fieldLinkNest RX7 141 "AsWithTheLast$Lesson" "chance" "LAsWithTheLast$Numbers;" "AsWithTheLast" ∈ nw := nw_in (List.mem_of_getElem? (i := 112) (by decide +kernel)) rfl
theorem flX7_141 : f_FL RX7 141 1 4 := ⟨_, _, _, rfl, u_inX1, by decide, Or.inr ⟨_, tw112⟩⟩
theorem tw113 : Cond.fieldLinkNest RX5 99 "AsWithTheLast$Lesson" "chance" "LAsWithTheLast$Numbers;" "AsWithTheLast" ∈ nw := nw_in (List.mem_of_getElem? (i := 113) (by decide +kernel)) rfl
theorem flX5_99 : f_FL RX5 99 1 4 := ⟨_, _, _, rfl, u_inX1, by decide, Or.inr ⟨_, tw113⟩⟩
theorem tw114 : Cond.fieldLink RX1 32 "AsWithTheLast$Lesson" "errands" "LAsWithTheLast$Numbers;" ∈ tb := tb_in (List.mem_of_getElem? (i := 114) (by decide +kernel)) rfl
theorem flX1_32 : f_FL RX1 32 1 5 := ⟨_, _, _, rfl, u_inX1, by decide, Or.inl tw114⟩
theorem tw115 : Cond.fieldLinkNest RX4 34 "AsWithTheLast$Lesson" "errands" "LAsWithTheLast$Numbers;" "AsWithTheLast" ∈ nw := nw_in (List.mem_of_getElem? (i := 115) (by decide +kernel)) rfl
theorem flX4_34 : f_FL RX4 34 1 5 := ⟨_, _, _, rfl, u_inX1, by decide, Or.inr ⟨_, tw115⟩⟩
theorem tw116 : Cond.fieldLinkNest RX7 147 "AsWithTheLast$Lesson" "errands" "LAsWithTheLast$Numbers;" "AsWithTheLast" ∈ nw := nw_in (List.mem_of_getElem? (i := 116) (by decide +kernel)) rfl
theorem flX7_147 : f_FL RX7 147 1 5 := ⟨_, _, _, rfl, u_inX1, by decide, Or.inr ⟨_, tw116⟩⟩
theorem tw117 : Cond.fieldLinkNest RX0 94 "AsWithTheLast$Lesson" "errands" "LAsWithTheLast$Numbers;" "AsWithTheLast" ∈ nw := nw_in (List.mem_of_getElem? (i := 117) (by decide +kernel)) rfl
theorem flX0_94 : f_FL RX0 94 1 5 := ⟨_, _, _, rfl, u_inX1, by decide, Or.inr ⟨_, tw117⟩⟩
theorem tw118 : Cond.fieldLinkNest RX5 105 "AsWithTheLast$Lesson" "errands" "LAsWithTheLast$Numbers;" "AsWithTheLast" ∈ nw := nw_in (List.mem_of_getElem? (i := 118) (by decide +kernel)) rfl
theorem flX5_105 : f_FL RX5 105 1 5 := ⟨_, _, _, rfl, u_inX1, by decide, Or.inr ⟨_, tw118⟩⟩
theorem tw119 : Cond.fieldLink RX1 50 "AsWithTheLast$Lesson" "sort" "I" ∈ tb := tb_in (List.mem_of_getElem? (i := 119) (by decide +kernel)) rfl
theorem flX1_50 : f_FL RX1 50 1 6 := ⟨_, _, _, rfl, u_inX1, by decide, Or.inl tw119⟩
theorem fpX1_50 : f_FP RX1 50 1 6 := ⟨_, _, _, rfl, u_inX1, by decide, Or.inl tw119, ⟨_, tyX1_ok⟩, nmX1, rfl, by decide +kernel⟩
theorem tw120 : Cond.fieldLinkNest RX5 64 "AsWithTheLast$Lesson" "sort" "I" "AsWithTheLast" ∈ nw := nw_in (List.mem_of_getElem? (i := 120) (by decide +kernel)) rfl
theorem flX5_64 : f_FL RX5 64 1 6 := ⟨_, _, _, rfl, u_inX1, by decide, Or.inr ⟨_, tw120⟩⟩
theorem fpX5_64 : f_FP RX5 64 1 6 := ⟨_, _, _, rfl, u_inX1, by decide, Or.inr ⟨_, tw120⟩, ⟨_, tyX1_ok⟩, nmX1, rfl, by decide +kernel⟩
theorem tw121 : Cond.fieldLinkNest RX7 167 "AsWithTheLast$Lesson" "sort" "I" "AsWithTheLast" ∈ nw := nw_in (List.mem_of_getElem? (i := 121) (by decide +kernel)) rfl
theorem flX7_167 : f_FL RX7 167 1 6 := ⟨_, _, _, rfl, u_inX1, by decide, Or.inr ⟨_, tw121⟩⟩
theorem fpX7_167 : f_FP RX7 167 1 6 := ⟨_, _, _, rfl, u_inX1, by decide, Or.inr ⟨_, tw121⟩, ⟨_, tyX1_ok⟩, nmX1, rfl, by decide +kernel⟩
theorem tw122 : Cond.fieldLink RX1 54 "AsWithTheLast$Lesson" "first" "I" ∈ tb := tb_in (List.mem_of_getElem? (i := 122) (by decide +kernel)) rfl
theorem flX1_54 : f_FL RX1 54 1 7 := ⟨_, _, _, rfl, u_inX1, by decide, Or.inl tw122⟩
theorem fpX1_54 : f_FP RX1 54 1 7 := ⟨_, _, _, rfl, u_inX1, by decide, Or.inl tw122, ⟨_, tyX1_ok⟩, nmX1, rfl, by decide +kernel⟩
theorem tw123 : Cond.fieldLinkNest RX5 71 "AsWithTheLast$Lesson" "first" "I" "AsWithTheLast" ∈ nw := nw_in (List.mem_of_getElem? (i := 123) (by decide +kernel)) rfl
theorem flX5_71 : f_FL RX5 71 1 7 := ⟨_, _, _, rfl, u_inX1, by decide, Or.inr ⟨_, tw123⟩⟩
theorem fpX5_71 : f_FP RX5 71 1 7 := ⟨_, _, _, rfl, u_inX1, by decide, Or.inr ⟨_, tw123⟩, ⟨_, tyX1_ok⟩, nmX1, rfl, by decide +kernel⟩
theorem tw124 : Cond.fieldLinkNest RX7 223 "AsWithTheLast$Lesson" "first" "I" "AsWithTheLast" ∈ nw := nw_in (List.mem_of_getElem? (i := 124) (by decide +kernel)) rfl
theorem flX7_223 : f_FL RX7 223 1 7 := ⟨_, _, _, rfl, u_inX1, by decide, Or.inr ⟨_, tw124⟩⟩
theorem fpX7_223 : f_FP RX7 223 1 7 := ⟨_, _, _, rfl, u_inX1, by decide, Or.inr ⟨_, tw124⟩, ⟨_, tyX1_ok⟩, nmX1, rfl, by decide +kernel⟩
theorem tw150 : Cond.fieldLink RX5 20 "AsWithTheLast$Reader" "text" "LAsWithTheLast$Numbers;" ∈ tb := tb_in (List.mem_of_getElem? (i := 150) (by decide +kernel)) rfl
theorem flX5_20 : f_FL RX5 20 5 0 := ⟨_, _, _, rfl, u_inX5, by decide, Or.inl tw150⟩
theorem tw151 : Cond.fieldLink RX5 23 "AsWithTheLast$Reader" "lesson" "LAsWithTheLast$Lesson;" ∈ tb := tb_in (List.mem_of_getElem? (i := 151) (by decide +kernel)) rfl
theorem flX5_23 : f_FL RX5 23 5 1 := ⟨_, _, _, rfl, u_inX5, by decide, Or.inl tw151⟩
theorem tw152 : Cond.fieldLink RX5 14 "AsWithTheLast$Reader" "numbers" "LAsWithTheLast$Numbers;" ∈ tb := tb_in (List.mem_of_getElem? (i := 152) (by decide +kernel)) rfl
theorem flX5_14 : f_FL RX5 14 5 2 := ⟨_, _, _, rfl, u_inX5, by decide, Or.inl tw152⟩
theorem tw176 : Cond.fieldLink RX2 14 "AsWithTheLast$Memory" "words" "LAsWithTheLast$Numbers;" ∈ tb := tb_in (List.mem_of_getElem? (i := 176) (by decide +kernel)) rfl
theorem flX2_14 : f_FL RX2 14 2 0 := ⟨_, _, _, rfl, u_inX2, by decide, Or.inl tw176⟩
theorem tw177 : Cond.fieldLinkNest RX7 150 "AsWithTheLast$Memory" "words" "LAsWithTheLast$Numbers;" "AsWithTheLast" ∈ nw := nw_in (List.mem_of_getElem? (i := 177) (by decide +kernel)) rfl
theorem flX7_150 : f_FL RX7 150 2 0 := ⟨_, _, _, rfl, u_inX2, by decide, Or.inr ⟨_, tw177⟩⟩
theorem tw178 : Cond.fieldLink RX2 20 "AsWithTheLast$Memory" "handed" "LAsWithTheLast$Numbers;" ∈ tb := tb_in (List.mem_of_getElem? (i := 178) (by decide +kernel)) rfl
theorem flX2_20 : f_FL RX2 20 2 1 := ⟨_, _, _, rfl, u_inX2, by decide, Or.inl tw178⟩
theorem tw179 : Cond.fieldLinkNest RX7 144 "AsWithTheLast$Memory" "handed" "LAsWithTheLast$Numbers;" "AsWithTheLast" ∈ nw := nw_in (List.mem_of_getElem? (i := 179) (by decide +kernel)) rfl
theorem flX7_144 : f_FL RX7 144 2 1 := ⟨_, _, _, rfl, u_inX2, by decide, Or.inr ⟨_, tw179⟩⟩
theorem tw180 : Cond.fieldLink RX2 30 "AsWithTheLast$Memory" "days" "I" ∈ tb := tb_in (List.mem_of_getElem? (i := 180) (by decide +kernel)) rfl
theorem flX2_30 : f_FL RX2 30 2 2 := ⟨_, _, _, rfl, u_inX2, by decide, Or.inl tw180⟩
theorem fpX2_30 : f_FP RX2 30 2 2 := ⟨_, _, _, rfl, u_inX2, by decide, Or.inl tw180, ⟨_, tyX2_ok⟩, nmX2, rfl, by decide +kernel⟩
theorem tw181 : Cond.fieldLinkNest RX7 269 "AsWithTheLast$Memory" "days" "I" "AsWithTheLast" ∈ nw := nw_in (List.mem_of_getElem? (i := 181) (by decide +kernel)) rfl
theorem flX7_269 : f_FL RX7 269 2 2 := ⟨_, _, _, rfl, u_inX2, by decide, Or.inr ⟨_, tw181⟩⟩
theorem fpX7_269 : f_FP RX7 269 2 2 := ⟨_, _, _, rfl, u_inX2, by decide, Or.inr ⟨_, tw181⟩, ⟨_, tyX2_ok⟩, nmX2, rfl, by decide +kernel⟩
theorem tw182 : Cond.fieldLink RX2 34 "AsWithTheLast$Memory" "lost" "I" ∈ tb := tb_in (List.mem_of_getElem? (i := 182) (by decide +kernel)) rfl
theorem flX2_34 : f_FL RX2 34 2 3 := ⟨_, _, _, rfl, u_inX2, by decide, Or.inl tw182⟩
theorem fpX2_34 : f_FP RX2 34 2 3 := ⟨_, _, _, rfl, u_inX2, by decide, Or.inl tw182, ⟨_, tyX2_ok⟩, nmX2, rfl, by decide +kernel⟩
theorem tw183 : Cond.fieldLinkNest RX7 272 "AsWithTheLast$Memory" "lost" "I" "AsWithTheLast" ∈ nw := nw_in (List.mem_of_getElem? (i := 183) (by decide +kernel)) rfl
theorem flX7_272 : f_FL RX7 272 2 3 := ⟨_, _, _, rfl, u_inX2, by decide, Or.inr ⟨_, tw183⟩⟩
theorem fpX7_272 : f_FP RX7 272 2 3 := ⟨_, _, _, rfl, u_inX2, by decide, Or.inr ⟨_, tw183⟩, ⟨_, tyX2_ok⟩, nmX2, rfl, by decide +kernel⟩
theorem tw184 : Cond.fieldLink RX2 37 "AsWithTheLast$Memory" "good" "I" ∈ tb := tb_in (List.mem_of_getElem? (i := 184) (by decide +kernel)) rfl
theorem flX2_37 : f_FL RX2 37 2 4 := ⟨_, _, _, rfl, u_inX2, by decide, Or.inl tw184⟩
theorem fpX2_37 : f_FP RX2 37 2 4 := ⟨_, _, _, rfl, u_inX2, by decide, Or.inl tw184, ⟨_, tyX2_ok⟩, nmX2, rfl, by decide +kernel⟩
theorem tw185 : Cond.fieldLinkNest RX7 274 "AsWithTheLast$Memory" "good" "I" "AsWithTheLast" ∈ nw := nw_in (List.mem_of_getElem? (i := 185) (by decide +kernel)) rfl
theorem flX7_274 : f_FL RX7 274 2 4 := ⟨_, _, _, rfl, u_inX2, by decide, Or.inr ⟨_, tw185⟩⟩
theorem fpX7_274 : f_FP RX7 274 2 4 := ⟨_, _, _, rfl, u_inX2, by decide, Or.inr ⟨_, tw185⟩, ⟨_, tyX2_ok⟩, nmX2, rfl, by decide +kernel⟩
theorem tw207 : Cond.fieldLink RX6 15 "AsWithTheLast$Shelf" "places" "[LAsWithTheLast$Memory;" ∈ tb := tb_in (List.mem_of_getElem? (i := 207) (by decide +kernel)) rfl
theorem flX6_15 : f_FL RX6 15 6 0 := ⟨_, _, _, rfl, u_inX6, by decide, Or.inl tw207⟩
theorem tw208 : Cond.fieldLink RX6 22 "AsWithTheLast$Shelf" "size" "I" ∈ tb := tb_in (List.mem_of_getElem? (i := 208) (by decide +kernel)) rfl
theorem flX6_22 : f_FL RX6 22 6 1 := ⟨_, _, _, rfl, u_inX6, by decide, Or.inl tw208⟩
theorem fpX6_22 : f_FP RX6 22 6 1 := ⟨_, _, _, rfl, u_inX6, by decide, Or.inl tw208, ⟨_, tyX6_ok⟩, nmX6, rfl, by decide +kernel⟩
theorem tw222 : Cond.fieldLink RX0 23 "AsWithTheLast$Learner" "lesson" "LAsWithTheLast$Lesson;" ∈ tb := tb_in (List.mem_of_getElem? (i := 222) (by decide +kernel)) rfl
theorem flX0_23 : f_FL RX0 23 0 0 := ⟨_, _, _, rfl, u_inX0, by decide, Or.inl tw222⟩
theorem tw223 : Cond.fieldLink RX0 27 "AsWithTheLast$Learner" "below" "LAsWithTheLast$Learner;" ∈ tb := tb_in (List.mem_of_getElem? (i := 223) (by decide +kernel)) rfl
theorem flX0_27 : f_FL RX0 27 0 1 := ⟨_, _, _, rfl, u_inX0, by decide, Or.inl tw223⟩
theorem tw224 : Cond.fieldLink RX0 14 "AsWithTheLast$Learner" "latest" "LAsWithTheLast$Numbers;" ∈ tb := tb_in (List.mem_of_getElem? (i := 224) (by decide +kernel)) rfl
theorem flX0_14 : f_FL RX0 14 0 2 := ⟨_, _, _, rfl, u_inX0, by decide, Or.inl tw224⟩
theorem tw225 : Cond.fieldLink RX0 20 "AsWithTheLast$Learner" "latestDoing" "LAsWithTheLast$Numbers;" ∈ tb := tb_in (List.mem_of_getElem? (i := 225) (by decide +kernel)) rfl
theorem flX0_20 : f_FL RX0 20 0 3 := ⟨_, _, _, rfl, u_inX0, by decide, Or.inl tw225⟩
theorem tw226 : Cond.fieldLink RX0 31 "AsWithTheLast$Learner" "sort" "I" ∈ tb := tb_in (List.mem_of_getElem? (i := 226) (by decide +kernel)) rfl
theorem flX0_31 : f_FL RX0 31 0 4 := ⟨_, _, _, rfl, u_inX0, by decide, Or.inl tw226⟩
theorem fpX0_31 : f_FP RX0 31 0 4 := ⟨_, _, _, rfl, u_inX0, by decide, Or.inl tw226, ⟨_, tyX0_ok⟩, nmX0, rfl, by decide +kernel⟩
theorem tw227 : Cond.fieldLink RX0 35 "AsWithTheLast$Learner" "first" "I" ∈ tb := tb_in (List.mem_of_getElem? (i := 227) (by decide +kernel)) rfl
theorem flX0_35 : f_FL RX0 35 0 5 := ⟨_, _, _, rfl, u_inX0, by decide, Or.inl tw227⟩
theorem fpX0_35 : f_FP RX0 35 0 5 := ⟨_, _, _, rfl, u_inX0, by decide, Or.inl tw227, ⟨_, tyX0_ok⟩, nmX0, rfl, by decide +kernel⟩
theorem tw228 : Cond.fieldLink RX0 38 "AsWithTheLast$Learner" "heard" "I" ∈ tb := tb_in (List.mem_of_getElem? (i := 228) (by decide +kernel)) rfl
theorem flX0_38 : f_FL RX0 38 0 6 := ⟨_, _, _, rfl, u_inX0, by decide, Or.inl tw228⟩
theorem fpX0_38 : f_FP RX0 38 0 6 := ⟨_, _, _, rfl, u_inX0, by decide, Or.inl tw228, ⟨_, tyX0_ok⟩, nmX0, rfl, by decide +kernel⟩
theorem tw229 : Cond.fieldLink RX0 41 "AsWithTheLast$Learner" "last" "I" ∈ tb := tb_in (List.mem_of_getElem? (i := 229) (by decide +kernel)) rfl
theorem flX0_41 : f_FL RX0 41 0 7 := ⟨_, _, _, rfl, u_inX0, by decide, Or.inl tw229⟩
theorem fpX0_41 : f_FP RX0 41 0 7 := ⟨_, _, _, rfl, u_inX0, by decide, Or.inl tw229, ⟨_, tyX0_ok⟩, nmX0, rfl, by decide +kernel⟩
theorem tw230 : Cond.fieldLink RX0 44 "AsWithTheLast$Learner" "before" "I" ∈ tb := tb_in (List.mem_of_getElem? (i := 230) (by decide +kernel)) rfl
theorem flX0_44 : f_FL RX0 44 0 8 := ⟨_, _, _, rfl, u_inX0, by decide, Or.inl tw230⟩
theorem fpX0_44 : f_FP RX0 44 0 8 := ⟨_, _, _, rfl, u_inX0, by decide, Or.inl tw230, ⟨_, tyX0_ok⟩, nmX0, rfl, by decide +kernel⟩
theorem tw258 : Cond.fieldLink RX4 26 "AsWithTheLast$Orders" "lesson" "LAsWithTheLast$Lesson;" ∈ tb := tb_in (List.mem_of_getElem? (i := 258) (by decide +kernel)) rfl
theorem flX4_26 : f_FL RX4 26 4 0 := ⟨_, _, _, rfl, u_inX4, by decide, Or.inl tw258⟩
theorem tw259 : Cond.fieldLink RX4 14 "AsWithTheLast$Orders" "left" "LAsWithTheLast$Numbers;" ∈ tb := tb_in (List.mem_of_getElem? (i := 259) (by decide +kernel)) rfl
theorem flX4_14 : f_FL RX4 14 4 1 := ⟨_, _, _, rfl, u_inX4, by decide, Or.inl tw259⟩
theorem tw260 : Cond.fieldLink RX4 20 "AsWithTheLast$Orders" "tried" "LAsWithTheLast$Numbers;" ∈ tb := tb_in (List.mem_of_getElem? (i := 260) (by decide +kernel)) rfl
theorem flX4_20 : f_FL RX4 20 4 2 := ⟨_, _, _, rfl, u_inX4, by decide, Or.inl tw260⟩
theorem tw261 : Cond.fieldLink RX4 23 "AsWithTheLast$Orders" "best" "LAsWithTheLast$Numbers;" ∈ tb := tb_in (List.mem_of_getElem? (i := 261) (by decide +kernel)) rfl
theorem flX4_23 : f_FL RX4 23 4 3 := ⟨_, _, _, rfl, u_inX4, by decide, Or.inl tw261⟩
theorem tw262 : Cond.fieldLinkNest RX7 214 "AsWithTheLast$Orders" "best" "LAsWithTheLast$Numbers;" "AsWithTheLast" ∈ nw := nw_in (List.mem_of_getElem? (i := 262) (by decide +kernel)) rfl
theorem flX7_214 : f_FL RX7 214 4 3 := ⟨_, _, _, rfl, u_inX4, by decide, Or.inr ⟨_, tw262⟩⟩
theorem tw263 : Cond.fieldLink RX4 51 "AsWithTheLast$Orders" "least" "I" ∈ tb := tb_in (List.mem_of_getElem? (i := 263) (by decide +kernel)) rfl
theorem flX4_51 : f_FL RX4 51 4 4 := ⟨_, _, _, rfl, u_inX4, by decide, Or.inl tw263⟩
theorem fpX4_51 : f_FP RX4 51 4 4 := ⟨_, _, _, rfl, u_inX4, by decide, Or.inl tw263, ⟨_, tyX4_ok⟩, nmX4, rfl, by decide +kernel⟩
theorem tw264 : Cond.fieldLinkNest RX7 211 "AsWithTheLast$Orders" "least" "I" "AsWithTheLast" ∈ nw := nw_in (List.mem_of_getElem? (i := 264) (by decide +kernel)) rfl
theorem flX7_211 : f_FL RX7 211 4 4 := ⟨_, _, _, rfl, u_inX4, by decide, Or.inr ⟨_, tw264⟩⟩
theorem fpX7_211 : f_FP RX7 211 4 4 := ⟨_, _, _, rfl, u_inX4, by decide, Or.inr ⟨_, tw264⟩, ⟨_, tyX4_ok⟩, nmX4, rfl, by decide +kernel⟩
theorem tw408 : Cond.fieldLink RX7 14 "AsWithTheLast" "text" "LAsWithTheLast$Numbers;" ∈ tb := tb_in (List.mem_of_getElem? (i := 408) (by decide +kernel)) rfl
theorem flX7_14 : f_FL RX7 14 7 0 := ⟨_, _, _, rfl, u_inX7, by decide, Or.inl tw408⟩
theorem tw409 : Cond.fieldLink RX7 21 "AsWithTheLast" "told" "LAsWithTheLast$Lesson;" ∈ tb := tb_in (List.mem_of_getElem? (i := 409) (by decide +kernel)) rfl
theorem flX7_21 : f_FL RX7 21 7 1 := ⟨_, _, _, rfl, u_inX7, by decide, Or.inl tw409⟩
theorem tw410 : Cond.fieldLink RX7 30 "AsWithTheLast" "reader" "LAsWithTheLast$Reader;" ∈ tb := tb_in (List.mem_of_getElem? (i := 410) (by decide +kernel)) rfl
theorem flX7_30 : f_FL RX7 30 7 2 := ⟨_, _, _, rfl, u_inX7, by decide, Or.inl tw410⟩
theorem tw411 : Cond.fieldLink RX7 34 "AsWithTheLast" "laid" "LAsWithTheLast$Lesson;" ∈ tb := tb_in (List.mem_of_getElem? (i := 411) (by decide +kernel)) rfl
theorem flX7_34 : f_FL RX7 34 7 3 := ⟨_, _, _, rfl, u_inX7, by decide, Or.inl tw411⟩
theorem tw412 : Cond.fieldLink RX7 40 "AsWithTheLast" "memory" "LAsWithTheLast$Memory;" ∈ tb := tb_in (List.mem_of_getElem? (i := 412) (by decide +kernel)) rfl
theorem flX7_40 : f_FL RX7 40 7 4 := ⟨_, _, _, rfl, u_inX7, by decide, Or.inl tw412⟩
theorem tw413 : Cond.fieldLink RX7 47 "AsWithTheLast" "past" "LAsWithTheLast$Shelf;" ∈ tb := tb_in (List.mem_of_getElem? (i := 413) (by decide +kernel)) rfl
theorem flX7_47 : f_FL RX7 47 7 5 := ⟨_, _, _, rfl, u_inX7, by decide, Or.inl tw413⟩
theorem tw414 : Cond.fieldLink RX7 51 "AsWithTheLast" "kept" "LAsWithTheLast$Shelf;" ∈ tb := tb_in (List.mem_of_getElem? (i := 414) (by decide +kernel)) rfl
theorem flX7_51 : f_FL RX7 51 7 6 := ⟨_, _, _, rfl, u_inX7, by decide, Or.inl tw414⟩
theorem tw415 : Cond.fieldLink RX7 54 "AsWithTheLast" "seenThings" "LAsWithTheLast$Numbers;" ∈ tb := tb_in (List.mem_of_getElem? (i := 415) (by decide +kernel)) rfl
theorem flX7_54 : f_FL RX7 54 7 7 := ⟨_, _, _, rfl, u_inX7, by decide, Or.inl tw415⟩
theorem tw416 : Cond.fieldLink RX7 57 "AsWithTheLast" "times" "LAsWithTheLast$Numbers;" ∈ tb := tb_in (List.mem_of_getElem? (i := 416) (by decide +kernel)) rfl
theorem flX7_57 : f_FL RX7 57 7 8 := ⟨_, _, _, rfl, u_inX7, by decide, Or.inl tw416⟩
theorem tw417 : Cond.fieldLink RX7 60 "AsWithTheLast" "alike" "LAsWithTheLast$Numbers;" ∈ tb := tb_in (List.mem_of_getElem? (i := 417) (by decide +kernel)) rfl
theorem flX7_60 : f_FL RX7 60 7 9 := ⟨_, _, _, rfl, u_inX7, by decide, Or.inl tw417⟩
theorem tw418 : Cond.fieldLink RX7 68 "AsWithTheLast" "learner" "LAsWithTheLast$Learner;" ∈ tb := tb_in (List.mem_of_getElem? (i := 418) (by decide +kernel)) rfl
theorem flX7_68 : f_FL RX7 68 7 10 := ⟨_, _, _, rfl, u_inX7, by decide, Or.inl tw418⟩
theorem tw419 : Cond.fieldLink RX7 77 "AsWithTheLast" "orders" "LAsWithTheLast$Orders;" ∈ tb := tb_in (List.mem_of_getElem? (i := 419) (by decide +kernel)) rfl
theorem flX7_77 : f_FL RX7 77 7 11 := ⟨_, _, _, rfl, u_inX7, by decide, Or.inl tw419⟩
theorem tw820 : Cond.fieldLink RX8 7 "AsWithTheLastModel" "told" "[I" ∈ tb := tb_in (List.mem_of_getElem? (i := 820) (by decide +kernel)) rfl
theorem flX8_7 : f_FL RX8 7 8 0 := ⟨_, _, _, rfl, u_inX8, by decide, Or.inl tw820⟩
theorem tw821 : Cond.fieldLink RX8 75 "AsWithTheLastModel" "kinds" "I" ∈ tb := tb_in (List.mem_of_getElem? (i := 821) (by decide +kernel)) rfl
theorem flX8_75 : f_FL RX8 75 8 1 := ⟨_, _, _, rfl, u_inX8, by decide, Or.inl tw821⟩
theorem fpX8_75 : f_FP RX8 75 8 1 := ⟨_, _, _, rfl, u_inX8, by decide, Or.inl tw821, ⟨_, tyX8_ok⟩, nmX8, rfl, by decide +kernel⟩
theorem tw822 : Cond.fieldLink RX8 136 "AsWithTheLastModel" "sort" "I" ∈ tb := tb_in (List.mem_of_getElem? (i := 822) (by decide +kernel)) rfl
theorem flX8_136 : f_FL RX8 136 8 2 := ⟨_, _, _, rfl, u_inX8, by decide, Or.inl tw822⟩
theorem fpX8_136 : f_FP RX8 136 8 2 := ⟨_, _, _, rfl, u_inX8, by decide, Or.inl tw822, ⟨_, tyX8_ok⟩, nmX8, rfl, by decide +kernel⟩
theorem tw823 : Cond.fieldLink RX8 139 "AsWithTheLastModel" "firstDoing" "I" ∈ tb := tb_in (List.mem_of_getElem? (i := 823) (by decide +kernel)) rfl
theorem flX8_139 : f_FL RX8 139 8 3 := ⟨_, _, _, rfl, u_inX8, by decide, Or.inl tw823⟩
theorem fpX8_139 : f_FP RX8 139 8 3 := ⟨_, _, _, rfl, u_inX8, by decide, Or.inl tw823, ⟨_, tyX8_ok⟩, nmX8, rfl, by decide +kernel⟩
theorem tw824 : Cond.fieldLink RX8 13 "AsWithTheLastModel" "errands" "[I" ∈ tb := tb_in (List.mem_of_getElem? (i := 824) (by decide +kernel)) rfl
theorem flX8_13 : f_FL RX8 13 8 4 := ⟨_, _, _, rfl, u_inX8, by decide, Or.inl tw824⟩
theorem tw825 : Cond.fieldLink RX8 71 "AsWithTheLastModel" "rowLong" "I" ∈ tb := tb_in (List.mem_of_getElem? (i := 825) (by decide +kernel)) rfl
theorem flX8_71 : f_FL RX8 71 8 5 := ⟨_, _, _, rfl, u_inX8, by decide, Or.inl tw825⟩
theorem fpX8_71 : f_FP RX8 71 8 5 := ⟨_, _, _, rfl, u_inX8, by decide, Or.inl tw825, ⟨_, tyX8_ok⟩, nmX8, rfl, by decide +kernel⟩
theorem tw826 : Cond.fieldLink RX8 16 "AsWithTheLastModel" "st" "[I" ∈ tb := tb_in (List.mem_of_getElem? (i := 826) (by decide +kernel)) rfl
theorem flX8_16 : f_FL RX8 16 8 6 := ⟨_, _, _, rfl, u_inX8, by decide, Or.inl tw826⟩
theorem tw827 : Cond.fieldLink RX8 19 "AsWithTheLastModel" "text" "[I" ∈ tb := tb_in (List.mem_of_getElem? (i := 827) (by decide +kernel)) rfl
theorem flX8_19 : f_FL RX8 19 8 7 := ⟨_, _, _, rfl, u_inX8, by decide, Or.inl tw827⟩
theorem tw828 : Cond.fieldLink RX8 88 "AsWithTheLastModel" "letters" "I" ∈ tb := tb_in (List.mem_of_getElem? (i := 828) (by decide +kernel)) rfl
theorem flX8_88 : f_FL RX8 88 8 8 := ⟨_, _, _, rfl, u_inX8, by decide, Or.inl tw828⟩
theorem fpX8_88 : f_FP RX8 88 8 8 := ⟨_, _, _, rfl, u_inX8, by decide, Or.inl tw828, ⟨_, tyX8_ok⟩, nmX8, rfl, by decide +kernel⟩
theorem tw829 : Cond.fieldLink RX8 91 "AsWithTheLastModel" "place" "I" ∈ tb := tb_in (List.mem_of_getElem? (i := 829) (by decide +kernel)) rfl
theorem flX8_91 : f_FL RX8 91 8 9 := ⟨_, _, _, rfl, u_inX8, by decide, Or.inl tw829⟩
theorem fpX8_91 : f_FP RX8 91 8 9 := ⟨_, _, _, rfl, u_inX8, by decide, Or.inl tw829, ⟨_, tyX8_ok⟩, nmX8, rfl, by decide +kernel⟩
theorem tw830 : Cond.fieldLink RX8 22 "AsWithTheLastModel" "number" "[I" ∈ tb := tb_in (List.mem_of_getElem? (i := 830) (by decide +kernel)) rfl
theorem flX8_22 : f_FL RX8 22 8 10 := ⟨_, _, _, rfl, u_inX8, by decide, Or.inl tw830⟩
theorem tw831 : Cond.fieldLink RX8 25 "AsWithTheLastModel" "readTold" "[I" ∈ tb := tb_in (List.mem_of_getElem? (i := 831) (by decide +kernel)) rfl
theorem flX8_25 : f_FL RX8 25 8 11 := ⟨_, _, _, rfl, u_inX8, by decide, Or.inl tw831⟩
theorem tw832 : Cond.fieldLink RX8 98 "AsWithTheLastModel" "readKinds" "I" ∈ tb := tb_in (List.mem_of_getElem? (i := 832) (by decide +kernel)) rfl
theorem flX8_98 : f_FL RX8 98 8 12 := ⟨_, _, _, rfl, u_inX8, by decide, Or.inl tw832⟩
theorem fpX8_98 : f_FP RX8 98 8 12 := ⟨_, _, _, rfl, u_inX8, by decide, Or.inl tw832, ⟨_, tyX8_ok⟩, nmX8, rfl, by decide +kernel⟩
theorem tw833 : Cond.fieldLink RX8 120 "AsWithTheLastModel" "readSort" "I" ∈ tb := tb_in (List.mem_of_getElem? (i := 833) (by decide +kernel)) rfl
theorem flX8_120 : f_FL RX8 120 8 13 := ⟨_, _, _, rfl, u_inX8, by decide, Or.inl tw833⟩
theorem fpX8_120 : f_FP RX8 120 8 13 := ⟨_, _, _, rfl, u_inX8, by decide, Or.inl tw833, ⟨_, tyX8_ok⟩, nmX8, rfl, by decide +kernel⟩
theorem tw834 : Cond.fieldLink RX8 123 "AsWithTheLastModel" "readFirst" "I" ∈ tb := tb_in (List.mem_of_getElem? (i := 834) (by decide +kernel)) rfl
theorem flX8_123 : f_FL RX8 123 8 14 := ⟨_, _, _, rfl, u_inX8, by decide, Or.inl tw834⟩
theorem fpX8_123 : f_FP RX8 123 8 14 := ⟨_, _, _, rfl, u_inX8, by decide, Or.inl tw834, ⟨_, tyX8_ok⟩, nmX8, rfl, by decide +kernel⟩
theorem tw835 : Cond.fieldLink RX8 28 "AsWithTheLastModel" "readErrands" "[I" ∈ tb := tb_in (List.mem_of_getElem? (i := 835) (by decide +kernel)) rfl
theorem flX8_28 : f_FL RX8 28 8 15 := ⟨_, _, _, rfl, u_inX8, by decide, Or.inl tw835⟩
theorem tw836 : Cond.fieldLink RX8 126 "AsWithTheLastModel" "readLong" "I" ∈ tb := tb_in (List.mem_of_getElem? (i := 836) (by decide +kernel)) rfl
theorem flX8_126 : f_FL RX8 126 8 16 := ⟨_, _, _, rfl, u_inX8, by decide, Or.inl tw836⟩
theorem fpX8_126 : f_FP RX8 126 8 16 := ⟨_, _, _, rfl, u_inX8, by decide, Or.inl tw836, ⟨_, tyX8_ok⟩, nmX8, rfl, by decide +kernel⟩
theorem tw837 : Cond.fieldLink RX8 170 "AsWithTheLastModel" "did" "I" ∈ tb := tb_in (List.mem_of_getElem? (i := 837) (by decide +kernel)) rfl
theorem flX8_170 : f_FL RX8 170 8 17 := ⟨_, _, _, rfl, u_inX8, by decide, Or.inl tw837⟩
theorem fpX8_170 : f_FP RX8 170 8 17 := ⟨_, _, _, rfl, u_inX8, by decide, Or.inl tw837, ⟨_, tyX8_ok⟩, nmX8, rfl, by decide +kernel⟩
theorem tw838 : Cond.fieldLink RX8 31 "AsWithTheLastModel" "ahead" "[I" ∈ tb := tb_in (List.mem_of_getElem? (i := 838) (by decide +kernel)) rfl
theorem flX8_31 : f_FL RX8 31 8 18 := ⟨_, _, _, rfl, u_inX8, by decide, Or.inl tw838⟩
theorem tw839 : Cond.fieldLink RX8 142 "AsWithTheLastModel" "undoMany" "I" ∈ tb := tb_in (List.mem_of_getElem? (i := 839) (by decide +kernel)) rfl
theorem flX8_142 : f_FL RX8 142 8 19 := ⟨_, _, _, rfl, u_inX8, by decide, Or.inl tw839⟩
theorem fpX8_142 : f_FP RX8 142 8 19 := ⟨_, _, _, rfl, u_inX8, by decide, Or.inl tw839, ⟨_, tyX8_ok⟩, nmX8, rfl, by decide +kernel⟩
theorem tw840 : Cond.fieldLink RX8 34 "AsWithTheLastModel" "aside" "[I" ∈ tb := tb_in (List.mem_of_getElem? (i := 840) (by decide +kernel)) rfl
theorem flX8_34 : f_FL RX8 34 8 20 := ⟨_, _, _, rfl, u_inX8, by decide, Or.inl tw840⟩
theorem tw841 : Cond.fieldLink RX8 37 "AsWithTheLastModel" "done" "[I" ∈ tb := tb_in (List.mem_of_getElem? (i := 841) (by decide +kernel)) rfl
theorem flX8_37 : f_FL RX8 37 8 21 := ⟨_, _, _, rfl, u_inX8, by decide, Or.inl tw841⟩
theorem tw842 : Cond.fieldLink RX8 40 "AsWithTheLastModel" "went" "[I" ∈ tb := tb_in (List.mem_of_getElem? (i := 842) (by decide +kernel)) rfl
theorem flX8_40 : f_FL RX8 40 8 22 := ⟨_, _, _, rfl, u_inX8, by decide, Or.inl tw842⟩
theorem tw843 : Cond.fieldLink RX8 43 "AsWithTheLastModel" "passes" "[I" ∈ tb := tb_in (List.mem_of_getElem? (i := 843) (by decide +kernel)) rfl
theorem flX8_43 : f_FL RX8 43 8 23 := ⟨_, _, _, rfl, u_inX8, by decide, Or.inl tw843⟩
theorem tw844 : Cond.fieldLink RX8 46 "AsWithTheLastModel" "had" "[I" ∈ tb := tb_in (List.mem_of_getElem? (i := 844) (by decide +kernel)) rfl
theorem flX8_46 : f_FL RX8 46 8 24 := ⟨_, _, _, rfl, u_inX8, by decide, Or.inl tw844⟩
theorem tw845 : Cond.fieldLink RX8 49 "AsWithTheLastModel" "bestRow" "[I" ∈ tb := tb_in (List.mem_of_getElem? (i := 845) (by decide +kernel)) rfl
theorem flX8_49 : f_FL RX8 49 8 25 := ⟨_, _, _, rfl, u_inX8, by decide, Or.inl tw845⟩
theorem tw846 : Cond.fieldLink RX8 52 "AsWithTheLastModel" "seenAt" "[I" ∈ tb := tb_in (List.mem_of_getElem? (i := 846) (by decide +kernel)) rfl
theorem flX8_52 : f_FL RX8 52 8 26 := ⟨_, _, _, rfl, u_inX8, by decide, Or.inl tw846⟩
theorem tw847 : Cond.fieldLink RX8 55 "AsWithTheLastModel" "seenDid" "[I" ∈ tb := tb_in (List.mem_of_getElem? (i := 847) (by decide +kernel)) rfl
theorem flX8_55 : f_FL RX8 55 8 27 := ⟨_, _, _, rfl, u_inX8, by decide, Or.inl tw847⟩
theorem tw848 : Cond.fieldLink RX8 145 "AsWithTheLastModel" "seenMany" "I" ∈ tb := tb_in (List.mem_of_getElem? (i := 848) (by decide +kernel)) rfl
theorem flX8_145 : f_FL RX8 145 8 28 := ⟨_, _, _, rfl, u_inX8, by decide, Or.inl tw848⟩
theorem fpX8_145 : f_FP RX8 145 8 28 := ⟨_, _, _, rfl, u_inX8, by decide, Or.inl tw848, ⟨_, tyX8_ok⟩, nmX8, rfl, by decide +kernel⟩
theorem tw849 : Cond.fieldLink RX8 58 "AsWithTheLastModel" "ahead1" "[I" ∈ tb := tb_in (List.mem_of_getElem? (i := 849) (by decide +kernel)) rfl
theorem flX8_58 : f_FL RX8 58 8 29 := ⟨_, _, _, rfl, u_inX8, by decide, Or.inl tw849⟩
theorem tw850 : Cond.fieldLink RX8 61 "AsWithTheLastModel" "ahead2" "[I" ∈ tb := tb_in (List.mem_of_getElem? (i := 850) (by decide +kernel)) rfl
theorem flX8_61 : f_FL RX8 61 8 30 := ⟨_, _, _, rfl, u_inX8, by decide, Or.inl tw850⟩
theorem tw851 : Cond.fieldLink RX8 64 "AsWithTheLastModel" "kept" "[I" ∈ tb := tb_in (List.mem_of_getElem? (i := 851) (by decide +kernel)) rfl
theorem flX8_64 : f_FL RX8 64 8 31 := ⟨_, _, _, rfl, u_inX8, by decide, Or.inl tw851⟩
theorem tw852 : Cond.fieldLink RX8 148 "AsWithTheLastModel" "keptMany" "I" ∈ tb := tb_in (List.mem_of_getElem? (i := 852) (by decide +kernel)) rfl
theorem flX8_148 : f_FL RX8 148 8 32 := ⟨_, _, _, rfl, u_inX8, by decide, Or.inl tw852⟩
theorem fpX8_148 : f_FP RX8 148 8 32 := ⟨_, _, _, rfl, u_inX8, by decide, Or.inl tw852, ⟨_, tyX8_ok⟩, nmX8, rfl, by decide +kernel⟩
theorem mlX3_7 : Cond.methodLink RX3 7 Lib.Math.max.name ∈ tb := tb_in (List.mem_of_getElem? (i := 77) (by decide +kernel)) (by decide +kernel)
abbrev mX3_fill : f_Y := (yX3_fill, cX3_fill, 4, none)
theorem tw171 : Cond.code yX3_fill cX3_fill 4 none ∈ tb := tb_in (List.mem_of_getElem? (i := 171) (by decide +kernel)) rfl
theorem tw48 : Cond.initialized RX3 ∈ tb := tb_in (List.mem_of_getElem? (i := 48) (by decide +kernel)) rfl
theorem lcX3_fill : f_LC mX3_fill := ⟨tw171, tw48⟩
theorem hdX3_fill : f_hd mX3_fill 2 := ⟨⟨by decide +kernel, by decide +kernel, by decide +kernel⟩, by decide⟩
theorem tw168 : Cond.methodLink RX2 23 yX3_fill ∈ tb := tb_in (List.mem_of_getElem? (i := 168) (by decide +kernel)) rfl
theorem tw169 : Cond.instanceMethod yX3_fill ∈ tb := tb_in (List.mem_of_getElem? (i := 169) (by decide +kernel)) rfl
theorem tw170 : Cond.selects yX3_fill.cls yX3_fill yX3_fill ∈ tb := tb_in (List.mem_of_getElem? (i := 170) (by decide +kernel)) rfl
theorem mlX2_23 : f_LV RX2 23 mX3_fill 2 := ⟨lcX3_fill, tw169, tw170, Or.inl tw168, hdX3_fill⟩
abbrev mX3_add : f_Y := (yX3_add, cX3_add, 2, none)
theorem tw175 : Cond.code yX3_add cX3_add 2 none ∈ tb := tb_in (List.mem_of_getElem? (i := 175) (by decide +kernel)) rfl
theorem lcX3_add : f_LC mX3_add := ⟨tw175, tw48⟩
theorem hdX3_add : f_hd mX3_add 1 := ⟨⟨by decide +kernel, by decide +kernel, by decide +kernel⟩, by decide⟩
theorem tw172 : Cond.methodLink RX3 23 yX3_add ∈ tb := tb_in (List.mem_of_getElem? (i := 172) (by decide +kernel)) rfl
theorem tw173 : Cond.instanceMethod yX3_add ∈ tb := tb_in (List.mem_of_getElem? (i := 173) (by decide +kernel)) rfl
theorem tw174 : Cond.selects yX3_add.cls yX3_add yX3_add ∈ tb := tb_in (List.mem_of_getElem? (i := 174) (by decide +kernel)) rfl
theorem mlX3_23 : f_LV RX3 23 mX3_add 1 := ⟨lcX3_add, tw173, tw174, Or.inl tw172, hdX3_add⟩
theorem mlX6_7 : Cond.methodLink RX6 7 Lib.Math.max.name ∈ tb := tb_in (List.mem_of_getElem? (i := 203) (by decide +kernel)) (by decide +kernel)
abbrev mJ0_length_8abf5 : f_Y := (yJ0_length_8abf5, cJ0_length_8abf5, 1, (some .int))
theorem tw280 : Cond.code yJ0_length_8abf5 cJ0_length_8abf5 1 (some .int) ∈ tb := tb_in (List.mem_of_getElem? (i := 280) (by decide +kernel)) rfl
theorem tw56 : Cond.initialized RJ0 ∈ tb := tb_in (List.mem_of_getElem? (i := 56) (by decide +kernel)) rfl
theorem lcJ0_length_8abf5 : f_LC mJ0_length_8abf5 := ⟨tw280, tw56⟩
theorem hdJ0_length_8abf5 : f_hd mJ0_length_8abf5 0 := ⟨⟨by decide +kernel, by decide +kernel, by decide +kernel⟩, by decide⟩
theorem tw277 : Cond.methodLink RX7 83 yJ0_length_8abf5 ∈ tb := tb_in (List.mem_of_getElem? (i := 277) (by decide +kernel)) rfl
theorem tw278 : Cond.instanceMethod yJ0_length_8abf5 ∈ tb := tb_in (List.mem_of_getElem? (i := 278) (by decide +kernel)) rfl
theorem tw279 : Cond.selects yJ0_length_8abf5.cls yJ0_length_8abf5 yJ0_length_8abf5 ∈ tb := tb_in (List.mem_of_getElem? (i := 279) (by decide +kernel)) rfl
theorem mlX7_83 : f_LV RX7 83 mJ0_length_8abf5 0 := ⟨lcJ0_length_8abf5, tw278, tw279, Or.inl tw277, hdJ0_length_8abf5⟩
abbrev mJ0_coder_7d493 : f_Y := (yJ0_coder_7d493, cJ0_coder_7d493, 1, (some .byte))
theorem tw284 : Cond.code yJ0_coder_7d493 cJ0_coder_7d493 1 (some .byte) ∈ tb := tb_in (List.mem_of_getElem? (i := 284) (by decide +kernel)) rfl
theorem lcJ0_coder_7d493 : f_LC mJ0_coder_7d493 := ⟨tw284, tw56⟩
theorem hdJ0_coder_7d493 : f_hd mJ0_coder_7d493 0 := ⟨⟨by decide +kernel, by decide +kernel, by decide +kernel⟩, by decide⟩
theorem tw281 : Cond.methodLink RJ0 335 yJ0_coder_7d493 ∈ tb := tb_in (List.mem_of_getElem? (i := 281) (by decide +kernel)) rfl
theorem tw282 : Cond.instanceMethod yJ0_coder_7d493 ∈ tb := tb_in (List.mem_of_getElem? (i := 282) (by decide +kernel)) rfl
theorem tw283 : Cond.selects yJ0_coder_7d493.cls yJ0_coder_7d493 yJ0_coder_7d493 ∈ tb := tb_in (List.mem_of_getElem? (i := 283) (by decide +kernel)) rfl
theorem mlJ0_335 : f_LV RJ0 335 mJ0_coder_7d493 0 := ⟨lcJ0_coder_7d493, tw282, tw283, Or.inl tw281, hdJ0_coder_7d493⟩
abbrev mJ0_charAt_5068e : f_Y := (yJ0_charAt_5068e, cJ0_charAt_5068e, 2, (some .char))
theorem tw290 : Cond.code yJ0_charAt_5068e cJ0_charAt_5068e 2 (some .char) ∈ tb := tb_in (List.mem_of_getElem? (i := 290) (by decide +kernel)) rfl
theorem lcJ0_charAt_5068e : f_LC mJ0_charAt_5068e := ⟨tw290, tw56⟩
theorem hdJ0_charAt_5068e : f_hd mJ0_charAt_5068e 1 := ⟨⟨by decide +kernel, by decide +kernel, by decide +kernel⟩, by decide⟩
theorem tw287 : Cond.methodLink RX7 89 yJ0_charAt_5068e ∈ tb := tb_in (List.mem_of_getElem? (i := 287) (by decide +kernel)) rfl
theorem tw288 : Cond.instanceMethod yJ0_charAt_5068e ∈ tb := tb_in (List.mem_of_getElem? (i := 288) (by decide +kernel)) rfl
theorem tw289 : Cond.selects yJ0_charAt_5068e.cls yJ0_charAt_5068e yJ0_charAt_5068e ∈ tb := tb_in (List.mem_of_getElem? (i := 289) (by decide +kernel)) rfl
theorem mlX7_89 : f_LV RX7 89 mJ0_charAt_5068e 1 := ⟨lcJ0_charAt_5068e, tw288, tw289, Or.inl tw287, hdJ0_charAt_5068e⟩
abbrev mJ0_isLatin1_aae02 : f_Y := (yJ0_isLatin1_aae02, cJ0_isLatin1_aae02, 1, (some .boolean))
theorem tw294 : Cond.code yJ0_isLatin1_aae02 cJ0_isLatin1_aae02 1 (some .boolean) ∈ tb := tb_in (List.mem_of_getElem? (i := 294) (by decide +kernel)) rfl
theorem lcJ0_isLatin1_aae02 : f_LC mJ0_isLatin1_aae02 := ⟨tw294, tw56⟩
theorem hdJ0_isLatin1_aae02 : f_hd mJ0_isLatin1_aae02 0 := ⟨⟨by decide +kernel, by decide +kernel, by decide +kernel⟩, by decide⟩
theorem tw291 : Cond.methodLink RJ0 492 yJ0_isLatin1_aae02 ∈ tb := tb_in (List.mem_of_getElem? (i := 291) (by decide +kernel)) rfl
theorem tw292 : Cond.instanceMethod yJ0_isLatin1_aae02 ∈ tb := tb_in (List.mem_of_getElem? (i := 292) (by decide +kernel)) rfl
theorem tw293 : Cond.selects yJ0_isLatin1_aae02.cls yJ0_isLatin1_aae02 yJ0_isLatin1_aae02 ∈ tb := tb_in (List.mem_of_getElem? (i := 293) (by decide +kernel)) rfl
theorem mlJ0_492 : f_LV RJ0 492 mJ0_isLatin1_aae02 0 := ⟨lcJ0_isLatin1_aae02, tw292, tw293, Or.inl tw291, hdJ0_isLatin1_aae02⟩
abbrev mJ1_charAt_3b067 : f_Y := (yJ1_charAt_3b067, cJ1_charAt_3b067, 2, (some .char))
theorem tw297 : Cond.code yJ1_charAt_3b067 cJ1_charAt_3b067 2 (some .char) ∈ tb := tb_in (List.mem_of_getElem? (i := 297) (by decide +kernel)) rfl
theorem tw57 : Cond.initialized RJ1 ∈ tb := tb_in (List.mem_of_getElem? (i := 57) (by decide +kernel)) rfl
theorem lcJ1_charAt_3b067 : f_LC mJ1_charAt_3b067 := ⟨tw297, tw57⟩
theorem hdJ1_charAt_3b067 : f_hd mJ1_charAt_3b067 2 := ⟨⟨by decide +kernel, by decide +kernel, by decide +kernel⟩, by decide⟩
theorem tw295 : Cond.methodLink RJ0 495 yJ1_charAt_3b067 ∈ tb := tb_in (List.mem_of_getElem? (i := 295) (by decide +kernel)) rfl
theorem tw296 : Cond.static yJ1_charAt_3b067 ∈ tb := tb_in (List.mem_of_getElem? (i := 296) (by decide +kernel)) rfl
theorem mlJ0_495 : f_LS RJ0 495 mJ1_charAt_3b067 2 := ⟨lcJ1_charAt_3b067, tw296, Or.inl tw295, hdJ1_charAt_3b067⟩
abbrev mJ0_checkIndex_df160 : f_Y := (yJ0_checkIndex_df160, cJ0_checkIndex_df160, 2, none)
theorem tw300 : Cond.code yJ0_checkIndex_df160 cJ0_checkIndex_df160 2 none ∈ tb := tb_in (List.mem_of_getElem? (i := 300) (by decide +kernel)) rfl
theorem lcJ0_checkIndex_df160 : f_LC mJ0_checkIndex_df160 := ⟨tw300, tw56⟩
theorem hdJ0_checkIndex_df160 : f_hd mJ0_checkIndex_df160 2 := ⟨⟨by decide +kernel, by decide +kernel, by decide +kernel⟩, by decide⟩
theorem tw298 : Cond.methodLink RJ1 9 yJ0_checkIndex_df160 ∈ tb := tb_in (List.mem_of_getElem? (i := 298) (by decide +kernel)) rfl
theorem tw299 : Cond.static yJ0_checkIndex_df160 ∈ tb := tb_in (List.mem_of_getElem? (i := 299) (by decide +kernel)) rfl
theorem mlJ1_9 : f_LS RJ1 9 mJ0_checkIndex_df160 2 := ⟨lcJ0_checkIndex_df160, tw299, Or.inl tw298, hdJ0_checkIndex_df160⟩
abbrev mJ3_checkIndex_8e157 : f_Y := (yJ3_checkIndex_8e157, cJ3_checkIndex_8e157, 3, (some .int))
theorem tw305 : Cond.code yJ3_checkIndex_8e157 cJ3_checkIndex_8e157 3 (some .int) ∈ tb := tb_in (List.mem_of_getElem? (i := 305) (by decide +kernel)) rfl
theorem tw58 : Cond.initialized RJ3 ∈ tb := tb_in (List.mem_of_getElem? (i := 58) (by decide +kernel)) rfl
theorem lcJ3_checkIndex_8e157 : f_LC mJ3_checkIndex_8e157 := ⟨tw305, tw58⟩
theorem hdJ3_checkIndex_8e157 : f_hd mJ3_checkIndex_8e157 3 := ⟨⟨by decide +kernel, by decide +kernel, by decide +kernel⟩, by decide⟩
theorem tw303 : Cond.methodLink RJ0 1059 yJ3_checkIndex_8e157 ∈ tb := tb_in (List.mem_of_getElem? (i := 303) (by decide +kernel)) rfl
theorem tw304 : Cond.static yJ3_checkIndex_8e157 ∈ tb := tb_in (List.mem_of_getElem? (i := 304) (by decide +kernel)) rfl
theorem mlJ0_1059 : f_LS RJ0 1059 mJ3_checkIndex_8e157 3 := ⟨lcJ3_checkIndex_8e157, tw304, Or.inl tw303, hdJ3_checkIndex_8e157⟩
abbrev mJ2_charAt_3b067 : f_Y := (yJ2_charAt_3b067, cJ2_charAt_3b067, 2, (some .char))
theorem tw308 : Cond.code yJ2_charAt_3b067 cJ2_charAt_3b067 2 (some .char) ∈ tb := tb_in (List.mem_of_getElem? (i := 308) (by decide +kernel)) rfl
theorem tw59 : Cond.initialized RJ2 ∈ tb := tb_in (List.mem_of_getElem? (i := 59) (by decide +kernel)) rfl
theorem lcJ2_charAt_3b067 : f_LC mJ2_charAt_3b067 := ⟨tw308, tw59⟩
theorem hdJ2_charAt_3b067 : f_hd mJ2_charAt_3b067 2 := ⟨⟨by decide +kernel, by decide +kernel, by decide +kernel⟩, by decide⟩
theorem tw306 : Cond.methodLink RJ0 498 yJ2_charAt_3b067 ∈ tb := tb_in (List.mem_of_getElem? (i := 306) (by decide +kernel)) rfl
theorem tw307 : Cond.static yJ2_charAt_3b067 ∈ tb := tb_in (List.mem_of_getElem? (i := 307) (by decide +kernel)) rfl
theorem mlJ0_498 : f_LS RJ0 498 mJ2_charAt_3b067 2 := ⟨lcJ2_charAt_3b067, tw307, Or.inl tw306, hdJ2_charAt_3b067⟩
abbrev mJ2_checkIndex_2214a : f_Y := (yJ2_checkIndex_2214a, cJ2_checkIndex_2214a, 2, none)
theorem tw311 : Cond.code yJ2_checkIndex_2214a cJ2_checkIndex_2214a 2 none ∈ tb := tb_in (List.mem_of_getElem? (i := 311) (by decide +kernel)) rfl
theorem lcJ2_checkIndex_2214a : f_LC mJ2_checkIndex_2214a := ⟨tw311, tw59⟩
theorem hdJ2_checkIndex_2214a : f_hd mJ2_checkIndex_2214a 2 := ⟨⟨by decide +kernel, by decide +kernel, by decide +kernel⟩, by decide⟩
theorem tw309 : Cond.methodLink RJ2 67 yJ2_checkIndex_2214a ∈ tb := tb_in (List.mem_of_getElem? (i := 309) (by decide +kernel)) rfl
theorem tw310 : Cond.static yJ2_checkIndex_2214a ∈ tb := tb_in (List.mem_of_getElem? (i := 310) (by decide +kernel)) rfl
theorem mlJ2_67 : f_LS RJ2 67 mJ2_checkIndex_2214a 2 := ⟨lcJ2_checkIndex_2214a, tw310, Or.inl tw309, hdJ2_checkIndex_2214a⟩
abbrev mJ2_length_9d52b : f_Y := (yJ2_length_9d52b, cJ2_length_9d52b, 1, (some .int))
theorem tw314 : Cond.code yJ2_length_9d52b cJ2_length_9d52b 1 (some .int) ∈ tb := tb_in (List.mem_of_getElem? (i := 314) (by decide +kernel)) rfl
theorem lcJ2_length_9d52b : f_LC mJ2_length_9d52b := ⟨tw314, tw59⟩
theorem hdJ2_length_9d52b : f_hd mJ2_length_9d52b 1 := ⟨⟨by decide +kernel, by decide +kernel, by decide +kernel⟩, by decide⟩
theorem tw312 : Cond.methodLink RJ2 48 yJ2_length_9d52b ∈ tb := tb_in (List.mem_of_getElem? (i := 312) (by decide +kernel)) rfl
theorem tw313 : Cond.static yJ2_length_9d52b ∈ tb := tb_in (List.mem_of_getElem? (i := 313) (by decide +kernel)) rfl
theorem mlJ2_48 : f_LS RJ2 48 mJ2_length_9d52b 1 := ⟨lcJ2_length_9d52b, tw313, Or.inl tw312, hdJ2_length_9d52b⟩
theorem tw315 : Cond.methodLink RJ2 414 yJ0_checkIndex_df160 ∈ tb := tb_in (List.mem_of_getElem? (i := 315) (by decide +kernel)) rfl
theorem mlJ2_414 : f_LS RJ2 414 mJ0_checkIndex_df160 2 := ⟨lcJ0_checkIndex_df160, tw299, Or.inl tw315, hdJ0_checkIndex_df160⟩
abbrev mJ2_getChar_3b067 : f_Y := (yJ2_getChar_3b067, cJ2_getChar_3b067, 2, (some .char))
theorem tw318 : Cond.code yJ2_getChar_3b067 cJ2_getChar_3b067 2 (some .char) ∈ tb := tb_in (List.mem_of_getElem? (i := 318) (by decide +kernel)) rfl
theorem lcJ2_getChar_3b067 : f_LC mJ2_getChar_3b067 := ⟨tw318, tw59⟩
theorem hdJ2_getChar_3b067 : f_hd mJ2_getChar_3b067 2 := ⟨⟨by decide +kernel, by decide +kernel, by decide +kernel⟩, by decide⟩
theorem tw316 : Cond.methodLink RJ2 71 yJ2_getChar_3b067 ∈ tb := tb_in (List.mem_of_getElem? (i := 316) (by decide +kernel)) rfl
theorem tw317 : Cond.static yJ2_getChar_3b067 ∈ tb := tb_in (List.mem_of_getElem? (i := 317) (by decide +kernel)) rfl
theorem mlJ2_71 : f_LS RJ2 71 mJ2_getChar_3b067 2 := ⟨lcJ2_getChar_3b067, tw317, Or.inl tw316, hdJ2_getChar_3b067⟩
theorem tw325 : Cond.methodLink RX7 93 yX3_add ∈ tb := tb_in (List.mem_of_getElem? (i := 325) (by decide +kernel)) rfl
theorem mlX7_93 : f_LV RX7 93 mX3_add 1 := ⟨lcX3_add, tw173, tw174, Or.inl tw325, hdX3_add⟩
abbrev mX5_readAll : f_Y := (yX5_readAll, cX5_readAll, 4, (some .int))
theorem tw329 : Cond.code yX5_readAll cX5_readAll 4 (some .int) ∈ tb := tb_in (List.mem_of_getElem? (i := 329) (by decide +kernel)) rfl
theorem tw51 : Cond.initialized RX5 ∈ tb := tb_in (List.mem_of_getElem? (i := 51) (by decide +kernel)) rfl
theorem lcX5_readAll : f_LC mX5_readAll := ⟨tw329, tw51⟩
theorem hdX5_readAll : f_hd mX5_readAll 0 := ⟨⟨by decide +kernel, by decide +kernel, by decide +kernel⟩, by decide⟩
theorem tw326 : Cond.methodLink RX7 96 yX5_readAll ∈ tb := tb_in (List.mem_of_getElem? (i := 326) (by decide +kernel)) rfl
theorem tw327 : Cond.instanceMethod yX5_readAll ∈ tb := tb_in (List.mem_of_getElem? (i := 327) (by decide +kernel)) rfl
theorem tw328 : Cond.selects yX5_readAll.cls yX5_readAll yX5_readAll ∈ tb := tb_in (List.mem_of_getElem? (i := 328) (by decide +kernel)) rfl
theorem mlX7_96 : f_LV RX7 96 mX5_readAll 0 := ⟨lcX5_readAll, tw327, tw328, Or.inl tw326, hdX5_readAll⟩
abbrev mX1_clear : f_Y := (yX1_clear, cX1_clear, 1, none)
theorem tw333 : Cond.code yX1_clear cX1_clear 1 none ∈ tb := tb_in (List.mem_of_getElem? (i := 333) (by decide +kernel)) rfl
theorem tw50 : Cond.initialized RX1 ∈ tb := tb_in (List.mem_of_getElem? (i := 50) (by decide +kernel)) rfl
theorem lcX1_clear : f_LC mX1_clear := ⟨tw333, tw50⟩
theorem hdX1_clear : f_hd mX1_clear 0 := ⟨⟨by decide +kernel, by decide +kernel, by decide +kernel⟩, by decide⟩
theorem tw330 : Cond.methodLink RX5 27 yX1_clear ∈ tb := tb_in (List.mem_of_getElem? (i := 330) (by decide +kernel)) rfl
theorem tw331 : Cond.instanceMethod yX1_clear ∈ tb := tb_in (List.mem_of_getElem? (i := 331) (by decide +kernel)) rfl
theorem tw332 : Cond.selects yX1_clear.cls yX1_clear yX1_clear ∈ tb := tb_in (List.mem_of_getElem? (i := 332) (by decide +kernel)) rfl
theorem mlX5_27 : f_LV RX5 27 mX1_clear 0 := ⟨lcX1_clear, tw331, tw332, Or.inl tw330, hdX1_clear⟩
abbrev mX3_clear : f_Y := (yX3_clear, cX3_clear, 1, none)
theorem tw337 : Cond.code yX3_clear cX3_clear 1 none ∈ tb := tb_in (List.mem_of_getElem? (i := 337) (by decide +kernel)) rfl
theorem lcX3_clear : f_LC mX3_clear := ⟨tw337, tw48⟩
theorem hdX3_clear : f_hd mX3_clear 0 := ⟨⟨by decide +kernel, by decide +kernel, by decide +kernel⟩, by decide⟩
theorem tw334 : Cond.methodLink RX1 47 yX3_clear ∈ tb := tb_in (List.mem_of_getElem? (i := 334) (by decide +kernel)) rfl
theorem tw335 : Cond.instanceMethod yX3_clear ∈ tb := tb_in (List.mem_of_getElem? (i := 335) (by decide +kernel)) rfl
theorem tw336 : Cond.selects yX3_clear.cls yX3_clear yX3_clear ∈ tb := tb_in (List.mem_of_getElem? (i := 336) (by decide +kernel)) rfl
theorem mlX1_47 : f_LV RX1 47 mX3_clear 0 := ⟨lcX3_clear, tw335, tw336, Or.inl tw334, hdX3_clear⟩
abbrev mX3_size : f_Y := (yX3_size, cX3_size, 1, (some .int))
theorem tw341 : Cond.code yX3_size cX3_size 1 (some .int) ∈ tb := tb_in (List.mem_of_getElem? (i := 341) (by decide +kernel)) rfl
theorem lcX3_size : f_LC mX3_size := ⟨tw341, tw48⟩
theorem hdX3_size : f_hd mX3_size 0 := ⟨⟨by decide +kernel, by decide +kernel, by decide +kernel⟩, by decide⟩
theorem tw338 : Cond.methodLink RX5 32 yX3_size ∈ tb := tb_in (List.mem_of_getElem? (i := 338) (by decide +kernel)) rfl
theorem tw339 : Cond.instanceMethod yX3_size ∈ tb := tb_in (List.mem_of_getElem? (i := 339) (by decide +kernel)) rfl
theorem tw340 : Cond.selects yX3_size.cls yX3_size yX3_size ∈ tb := tb_in (List.mem_of_getElem? (i := 340) (by decide +kernel)) rfl
theorem mlX5_32 : f_LV RX5 32 mX3_size 0 := ⟨lcX3_size, tw339, tw340, Or.inl tw338, hdX3_size⟩
abbrev mX5_readItem : f_Y := (yX5_readItem, cX5_readItem, 6, (some .int))
theorem tw345 : Cond.code yX5_readItem cX5_readItem 6 (some .int) ∈ tb := tb_in (List.mem_of_getElem? (i := 345) (by decide +kernel)) rfl
theorem lcX5_readItem : f_LC mX5_readItem := ⟨tw345, tw51⟩
theorem hdX5_readItem : f_hd mX5_readItem 1 := ⟨⟨by decide +kernel, by decide +kernel, by decide +kernel⟩, by decide⟩
theorem tw342 : Cond.methodLink RX5 36 yX5_readItem ∈ tb := tb_in (List.mem_of_getElem? (i := 342) (by decide +kernel)) rfl
theorem tw344 : Cond.instanceMethod yX5_readItem ∈ tb := tb_in (List.mem_of_getElem? (i := 344) (by decide +kernel)) rfl
theorem tw0 : Cond.selects yX5_readItem.cls yX5_readItem yX5_readItem ∈ tb := tb_in (List.mem_of_getElem? (i := 0) (by decide +kernel)) rfl
theorem mlX5_36 : f_LV RX5 36 mX5_readItem 1 := ⟨lcX5_readItem, tw344, tw0, Or.inl tw342, hdX5_readItem⟩
abbrev mX3_at : f_Y := (yX3_at, cX3_at, 2, (some .int))
theorem tw349 : Cond.code yX3_at cX3_at 2 (some .int) ∈ tb := tb_in (List.mem_of_getElem? (i := 349) (by decide +kernel)) rfl
theorem lcX3_at : f_LC mX3_at := ⟨tw349, tw48⟩
theorem hdX3_at : f_hd mX3_at 1 := ⟨⟨by decide +kernel, by decide +kernel, by decide +kernel⟩, by decide⟩
theorem tw346 : Cond.methodLink RX5 40 yX3_at ∈ tb := tb_in (List.mem_of_getElem? (i := 346) (by decide +kernel)) rfl
theorem tw347 : Cond.instanceMethod yX3_at ∈ tb := tb_in (List.mem_of_getElem? (i := 347) (by decide +kernel)) rfl
theorem tw348 : Cond.selects yX3_at.cls yX3_at yX3_at ∈ tb := tb_in (List.mem_of_getElem? (i := 348) (by decide +kernel)) rfl
theorem mlX5_40 : f_LV RX5 40 mX3_at 1 := ⟨lcX3_at, tw347, tw348, Or.inl tw346, hdX3_at⟩
abbrev mX5_numbersBehind : f_Y := (yX5_numbersBehind, cX5_numbersBehind, 1, (some .int))
theorem tw352 : Cond.code yX5_numbersBehind cX5_numbersBehind 1 (some .int) ∈ tb := tb_in (List.mem_of_getElem? (i := 352) (by decide +kernel)) rfl
theorem lcX5_numbersBehind : f_LC mX5_numbersBehind := ⟨tw352, tw51⟩
theorem hdX5_numbersBehind : f_hd mX5_numbersBehind 1 := ⟨⟨by decide +kernel, by decide +kernel, by decide +kernel⟩, by decide⟩
theorem tw350 : Cond.methodLink RX5 43 yX5_numbersBehind ∈ tb := tb_in (List.mem_of_getElem? (i := 350) (by decide +kernel)) rfl
theorem tw351 : Cond.static yX5_numbersBehind ∈ tb := tb_in (List.mem_of_getElem? (i := 351) (by decide +kernel)) rfl
theorem mlX5_43 : f_LS RX5 43 mX5_numbersBehind 1 := ⟨lcX5_numbersBehind, tw351, Or.inl tw350, hdX5_numbersBehind⟩
theorem tw353 : Cond.methodLink RX5 46 yX3_clear ∈ tb := tb_in (List.mem_of_getElem? (i := 353) (by decide +kernel)) rfl
theorem mlX5_46 : f_LV RX5 46 mX3_clear 0 := ⟨lcX3_clear, tw335, tw336, Or.inl tw353, hdX3_clear⟩
abbrev mX5_readNumber : f_Y := (yX5_readNumber, cX5_readNumber, 5, (some .int))
theorem tw357 : Cond.code yX5_readNumber cX5_readNumber 5 (some .int) ∈ tb := tb_in (List.mem_of_getElem? (i := 357) (by decide +kernel)) rfl
theorem lcX5_readNumber : f_LC mX5_readNumber := ⟨tw357, tw51⟩
theorem hdX5_readNumber : f_hd mX5_readNumber 1 := ⟨⟨by decide +kernel, by decide +kernel, by decide +kernel⟩, by decide⟩
theorem tw354 : Cond.methodLink RX5 47 yX5_readNumber ∈ tb := tb_in (List.mem_of_getElem? (i := 354) (by decide +kernel)) rfl
theorem tw356 : Cond.instanceMethod yX5_readNumber ∈ tb := tb_in (List.mem_of_getElem? (i := 356) (by decide +kernel)) rfl
theorem tw1 : Cond.selects yX5_readNumber.cls yX5_readNumber yX5_readNumber ∈ tb := tb_in (List.mem_of_getElem? (i := 1) (by decide +kernel)) rfl
theorem mlX5_47 : f_LV RX5 47 mX5_readNumber 1 := ⟨lcX5_readNumber, tw356, tw1, Or.inl tw354, hdX5_readNumber⟩
abbrev mX5_isFigure : f_Y := (yX5_isFigure, cX5_isFigure, 1, (some .boolean))
theorem tw360 : Cond.code yX5_isFigure cX5_isFigure 1 (some .boolean) ∈ tb := tb_in (List.mem_of_getElem? (i := 360) (by decide +kernel)) rfl
theorem lcX5_isFigure : f_LC mX5_isFigure := ⟨tw360, tw51⟩
theorem hdX5_isFigure : f_hd mX5_isFigure 1 := ⟨⟨by decide +kernel, by decide +kernel, by decide +kernel⟩, by decide⟩
theorem tw358 : Cond.methodLink RX5 54 yX5_isFigure ∈ tb := tb_in (List.mem_of_getElem? (i := 358) (by decide +kernel)) rfl
theorem tw359 : Cond.static yX5_isFigure ∈ tb := tb_in (List.mem_of_getElem? (i := 359) (by decide +kernel)) rfl
theorem mlX5_54 : f_LS RX5 54 mX5_isFigure 1 := ⟨lcX5_isFigure, tw359, Or.inl tw358, hdX5_isFigure⟩
theorem tw361 : Cond.methodLink RX5 57 yX3_add ∈ tb := tb_in (List.mem_of_getElem? (i := 361) (by decide +kernel)) rfl
theorem mlX5_57 : f_LV RX5 57 mX3_add 1 := ⟨lcX3_add, tw173, tw174, Or.inl tw361, hdX3_add⟩
abbrev mX5_takeItem : f_Y := (yX5_takeItem, cX5_takeItem, 3, (some .boolean))
theorem tw365 : Cond.code yX5_takeItem cX5_takeItem 3 (some .boolean) ∈ tb := tb_in (List.mem_of_getElem? (i := 365) (by decide +kernel)) rfl
theorem lcX5_takeItem : f_LC mX5_takeItem := ⟨tw365, tw51⟩
theorem hdX5_takeItem : f_hd mX5_takeItem 1 := ⟨⟨by decide +kernel, by decide +kernel, by decide +kernel⟩, by decide⟩
theorem tw362 : Cond.methodLink RX5 50 yX5_takeItem ∈ tb := tb_in (List.mem_of_getElem? (i := 362) (by decide +kernel)) rfl
theorem tw364 : Cond.instanceMethod yX5_takeItem ∈ tb := tb_in (List.mem_of_getElem? (i := 364) (by decide +kernel)) rfl
theorem tw2 : Cond.selects yX5_takeItem.cls yX5_takeItem yX5_takeItem ∈ tb := tb_in (List.mem_of_getElem? (i := 2) (by decide +kernel)) rfl
theorem mlX5_50 : f_LV RX5 50 mX5_takeItem 1 := ⟨lcX5_takeItem, tw364, tw2, Or.inl tw362, hdX5_takeItem⟩
abbrev mX5_takeKind : f_Y := (yX5_takeKind, cX5_takeKind, 1, (some .boolean))
theorem tw369 : Cond.code yX5_takeKind cX5_takeKind 1 (some .boolean) ∈ tb := tb_in (List.mem_of_getElem? (i := 369) (by decide +kernel)) rfl
theorem lcX5_takeKind : f_LC mX5_takeKind := ⟨tw369, tw51⟩
theorem hdX5_takeKind : f_hd mX5_takeKind 0 := ⟨⟨by decide +kernel, by decide +kernel, by decide +kernel⟩, by decide⟩
theorem tw366 : Cond.methodLink RX5 60 yX5_takeKind ∈ tb := tb_in (List.mem_of_getElem? (i := 366) (by decide +kernel)) rfl
theorem tw368 : Cond.instanceMethod yX5_takeKind ∈ tb := tb_in (List.mem_of_getElem? (i := 368) (by decide +kernel)) rfl
theorem tw3 : Cond.selects yX5_takeKind.cls yX5_takeKind yX5_takeKind ∈ tb := tb_in (List.mem_of_getElem? (i := 3) (by decide +kernel)) rfl
theorem mlX5_60 : f_LV RX5 60 mX5_takeKind 0 := ⟨lcX5_takeKind, tw368, tw3, Or.inl tw366, hdX5_takeKind⟩
abbrev mX3_isFull : f_Y := (yX3_isFull, cX3_isFull, 1, (some .boolean))
theorem tw373 : Cond.code yX3_isFull cX3_isFull 1 (some .boolean) ∈ tb := tb_in (List.mem_of_getElem? (i := 373) (by decide +kernel)) rfl
theorem lcX3_isFull : f_LC mX3_isFull := ⟨tw373, tw48⟩
theorem hdX3_isFull : f_hd mX3_isFull 0 := ⟨⟨by decide +kernel, by decide +kernel, by decide +kernel⟩, by decide⟩
theorem tw370 : Cond.methodLink RX5 83 yX3_isFull ∈ tb := tb_in (List.mem_of_getElem? (i := 370) (by decide +kernel)) rfl
theorem tw371 : Cond.instanceMethod yX3_isFull ∈ tb := tb_in (List.mem_of_getElem? (i := 371) (by decide +kernel)) rfl
theorem tw372 : Cond.selects yX3_isFull.cls yX3_isFull yX3_isFull ∈ tb := tb_in (List.mem_of_getElem? (i := 372) (by decide +kernel)) rfl
theorem mlX5_83 : f_LV RX5 83 mX3_isFull 0 := ⟨lcX3_isFull, tw371, tw372, Or.inl tw370, hdX3_isFull⟩
abbrev mX7_isWithin : f_Y := (yX7_isWithin, cX7_isWithin, 3, (some .boolean))
theorem tw376 : Cond.code yX7_isWithin cX7_isWithin 3 (some .boolean) ∈ tb := tb_in (List.mem_of_getElem? (i := 376) (by decide +kernel)) rfl
theorem tw47 : Cond.initialized RX7 ∈ tb := tb_in (List.mem_of_getElem? (i := 47) (by decide +kernel)) rfl
theorem lcX7_isWithin : f_LC mX7_isWithin := ⟨tw376, tw47⟩
theorem hdX7_isWithin : f_hd mX7_isWithin 3 := ⟨⟨by decide +kernel, by decide +kernel, by decide +kernel⟩, by decide⟩
theorem tw374 : Cond.methodLinkNest RX5 86 yX7_isWithin "AsWithTheLast" ∈ nw := nw_in (List.mem_of_getElem? (i := 374) (by decide +kernel)) rfl
theorem tw375 : Cond.static yX7_isWithin ∈ tb := tb_in (List.mem_of_getElem? (i := 375) (by decide +kernel)) rfl
theorem mlX5_86 : f_LS RX5 86 mX7_isWithin 3 := ⟨lcX7_isWithin, tw375, Or.inr ⟨_, tw374⟩, hdX7_isWithin⟩
abbrev mX7_isDoing : f_Y := (yX7_isDoing, cX7_isDoing, 1, (some .boolean))
theorem tw379 : Cond.code yX7_isDoing cX7_isDoing 1 (some .boolean) ∈ tb := tb_in (List.mem_of_getElem? (i := 379) (by decide +kernel)) rfl
theorem lcX7_isDoing : f_LC mX7_isDoing := ⟨tw379, tw47⟩
theorem hdX7_isDoing : f_hd mX7_isDoing 1 := ⟨⟨by decide +kernel, by decide +kernel, by decide +kernel⟩, by decide⟩
theorem tw377 : Cond.methodLinkNest RX5 74 yX7_isDoing "AsWithTheLast" ∈ nw := nw_in (List.mem_of_getElem? (i := 377) (by decide +kernel)) rfl
theorem tw378 : Cond.static yX7_isDoing ∈ tb := tb_in (List.mem_of_getElem? (i := 378) (by decide +kernel)) rfl
theorem mlX5_74 : f_LS RX5 74 mX7_isDoing 1 := ⟨lcX7_isDoing, tw378, Or.inr ⟨_, tw377⟩, hdX7_isDoing⟩
theorem tw380 : Cond.methodLink RX7 105 yX7_isWithin ∈ tb := tb_in (List.mem_of_getElem? (i := 380) (by decide +kernel)) rfl
theorem mlX7_105 : f_LS RX7 105 mX7_isWithin 3 := ⟨lcX7_isWithin, tw375, Or.inl tw380, hdX7_isWithin⟩
abbrev mX7_isSort : f_Y := (yX7_isSort, cX7_isSort, 1, (some .boolean))
theorem tw383 : Cond.code yX7_isSort cX7_isSort 1 (some .boolean) ∈ tb := tb_in (List.mem_of_getElem? (i := 383) (by decide +kernel)) rfl
theorem lcX7_isSort : f_LC mX7_isSort := ⟨tw383, tw47⟩
theorem hdX7_isSort : f_hd mX7_isSort 1 := ⟨⟨by decide +kernel, by decide +kernel, by decide +kernel⟩, by decide⟩
theorem tw381 : Cond.methodLinkNest RX5 68 yX7_isSort "AsWithTheLast" ∈ nw := nw_in (List.mem_of_getElem? (i := 381) (by decide +kernel)) rfl
theorem tw382 : Cond.static yX7_isSort ∈ tb := tb_in (List.mem_of_getElem? (i := 382) (by decide +kernel)) rfl
theorem mlX5_68 : f_LS RX5 68 mX7_isSort 1 := ⟨lcX7_isSort, tw382, Or.inr ⟨_, tw381⟩, hdX7_isSort⟩
abbrev mX5_takeErrand : f_Y := (yX5_takeErrand, cX5_takeErrand, 2, (some .boolean))
theorem tw387 : Cond.code yX5_takeErrand cX5_takeErrand 2 (some .boolean) ∈ tb := tb_in (List.mem_of_getElem? (i := 387) (by decide +kernel)) rfl
theorem lcX5_takeErrand : f_LC mX5_takeErrand := ⟨tw387, tw51⟩
theorem hdX5_takeErrand : f_hd mX5_takeErrand 1 := ⟨⟨by decide +kernel, by decide +kernel, by decide +kernel⟩, by decide⟩
theorem tw384 : Cond.methodLink RX5 77 yX5_takeErrand ∈ tb := tb_in (List.mem_of_getElem? (i := 384) (by decide +kernel)) rfl
theorem tw386 : Cond.instanceMethod yX5_takeErrand ∈ tb := tb_in (List.mem_of_getElem? (i := 386) (by decide +kernel)) rfl
theorem tw4 : Cond.selects yX5_takeErrand.cls yX5_takeErrand yX5_takeErrand ∈ tb := tb_in (List.mem_of_getElem? (i := 4) (by decide +kernel)) rfl
theorem mlX5_77 : f_LV RX5 77 mX5_takeErrand 1 := ⟨lcX5_takeErrand, tw386, tw4, Or.inl tw384, hdX5_takeErrand⟩
abbrev mX1_isKind : f_Y := (yX1_isKind, cX1_isKind, 2, (some .boolean))
theorem tw391 : Cond.code yX1_isKind cX1_isKind 2 (some .boolean) ∈ tb := tb_in (List.mem_of_getElem? (i := 391) (by decide +kernel)) rfl
theorem lcX1_isKind : f_LC mX1_isKind := ⟨tw391, tw50⟩
theorem hdX1_isKind : f_hd mX1_isKind 1 := ⟨⟨by decide +kernel, by decide +kernel, by decide +kernel⟩, by decide⟩
theorem tw388 : Cond.methodLink RX5 102 yX1_isKind ∈ tb := tb_in (List.mem_of_getElem? (i := 388) (by decide +kernel)) rfl
theorem tw389 : Cond.instanceMethod yX1_isKind ∈ tb := tb_in (List.mem_of_getElem? (i := 389) (by decide +kernel)) rfl
theorem tw390 : Cond.selects yX1_isKind.cls yX1_isKind yX1_isKind ∈ tb := tb_in (List.mem_of_getElem? (i := 390) (by decide +kernel)) rfl
theorem mlX5_102 : f_LV RX5 102 mX1_isKind 1 := ⟨lcX1_isKind, tw389, tw390, Or.inl tw388, hdX1_isKind⟩
theorem tw392 : Cond.methodLink RX1 35 yX3_size ∈ tb := tb_in (List.mem_of_getElem? (i := 392) (by decide +kernel)) rfl
theorem mlX1_35 : f_LV RX1 35 mX3_size 0 := ⟨lcX3_size, tw339, tw340, Or.inl tw392, hdX3_size⟩
abbrev mX1_copyFrom : f_Y := (yX1_copyFrom, cX1_copyFrom, 2, none)
theorem tw396 : Cond.code yX1_copyFrom cX1_copyFrom 2 none ∈ tb := tb_in (List.mem_of_getElem? (i := 396) (by decide +kernel)) rfl
theorem lcX1_copyFrom : f_LC mX1_copyFrom := ⟨tw396, tw50⟩
theorem hdX1_copyFrom : f_hd mX1_copyFrom 1 := ⟨⟨by decide +kernel, by decide +kernel, by decide +kernel⟩, by decide⟩
theorem tw393 : Cond.methodLink RX7 99 yX1_copyFrom ∈ tb := tb_in (List.mem_of_getElem? (i := 393) (by decide +kernel)) rfl
theorem tw394 : Cond.instanceMethod yX1_copyFrom ∈ tb := tb_in (List.mem_of_getElem? (i := 394) (by decide +kernel)) rfl
theorem tw395 : Cond.selects yX1_copyFrom.cls yX1_copyFrom yX1_copyFrom ∈ tb := tb_in (List.mem_of_getElem? (i := 395) (by decide +kernel)) rfl
theorem mlX7_99 : f_LV RX7 99 mX1_copyFrom 1 := ⟨lcX1_copyFrom, tw394, tw395, Or.inl tw393, hdX1_copyFrom⟩
abbrev mX3_copyFrom : f_Y := (yX3_copyFrom, cX3_copyFrom, 2, none)
theorem tw400 : Cond.code yX3_copyFrom cX3_copyFrom 2 none ∈ tb := tb_in (List.mem_of_getElem? (i := 400) (by decide +kernel)) rfl
theorem lcX3_copyFrom : f_LC mX3_copyFrom := ⟨tw400, tw48⟩
theorem hdX3_copyFrom : f_hd mX3_copyFrom 1 := ⟨⟨by decide +kernel, by decide +kernel, by decide +kernel⟩, by decide⟩
theorem tw397 : Cond.methodLink RX1 57 yX3_copyFrom ∈ tb := tb_in (List.mem_of_getElem? (i := 397) (by decide +kernel)) rfl
theorem tw398 : Cond.instanceMethod yX3_copyFrom ∈ tb := tb_in (List.mem_of_getElem? (i := 398) (by decide +kernel)) rfl
theorem tw399 : Cond.selects yX3_copyFrom.cls yX3_copyFrom yX3_copyFrom ∈ tb := tb_in (List.mem_of_getElem? (i := 399) (by decide +kernel)) rfl
theorem mlX1_57 : f_LV RX1 57 mX3_copyFrom 1 := ⟨lcX3_copyFrom, tw398, tw399, Or.inl tw397, hdX3_copyFrom⟩
theorem mlX3_35 : Cond.methodLink RX3 35 Lib.Math.min.name ∈ tb := tb_in (List.mem_of_getElem? (i := 401) (by decide +kernel)) (by decide +kernel)
theorem mlX3_38 : Cond.methodLink RX3 38 arraycopyName ∈ tb := tb_in (List.mem_of_getElem? (i := 404) (by decide +kernel)) (by decide +kernel)
theorem tw407 : Cond.methodLink RX7 102 yX3_clear ∈ tb := tb_in (List.mem_of_getElem? (i := 407) (by decide +kernel)) rfl
theorem mlX7_102 : f_LV RX7 102 mX3_clear 0 := ⟨lcX3_clear, tw335, tw336, Or.inl tw407, hdX3_clear⟩
abbrev mX7_write : f_Y := (yX7_write, cX7_write, 2, (some .int))
theorem tw449 : Cond.code yX7_write cX7_write 2 (some .int) ∈ tb := tb_in (List.mem_of_getElem? (i := 449) (by decide +kernel)) rfl
theorem lcX7_write : f_LC mX7_write := ⟨tw449, tw47⟩
theorem hdX7_write : f_hd mX7_write 1 := ⟨⟨by decide +kernel, by decide +kernel, by decide +kernel⟩, by decide⟩
theorem tw446 : Cond.methodLink RL 13 yX7_write ∈ tb := tb_in (List.mem_of_getElem? (i := 446) (by decide +kernel)) rfl
theorem tw447 : Cond.instanceMethod yX7_write ∈ tb := tb_in (List.mem_of_getElem? (i := 447) (by decide +kernel)) rfl
theorem tw448 : Cond.selects yX7_write.cls yX7_write yX7_write ∈ tb := tb_in (List.mem_of_getElem? (i := 448) (by decide +kernel)) rfl
theorem mlL_13 : f_LV RL 13 mX7_write 1 := ⟨lcX7_write, tw447, tw448, Or.inl tw446, hdX7_write⟩
theorem tw450 : Cond.methodLink RX7 109 yX3_isFull ∈ tb := tb_in (List.mem_of_getElem? (i := 450) (by decide +kernel)) rfl
theorem mlX7_109 : f_LV RX7 109 mX3_isFull 0 := ⟨lcX3_isFull, tw371, tw372, Or.inl tw450, hdX3_isFull⟩
theorem tw451 : Cond.methodLink RX7 113 yX3_size ∈ tb := tb_in (List.mem_of_getElem? (i := 451) (by decide +kernel)) rfl
theorem mlX7_113 : f_LV RX7 113 mX3_size 0 := ⟨lcX3_size, tw339, tw340, Or.inl tw451, hdX3_size⟩
abbrev mX7_wipe : f_Y := (yX7_wipe, cX7_wipe, 2, (some .int))
theorem tw455 : Cond.code yX7_wipe cX7_wipe 2 (some .int) ∈ tb := tb_in (List.mem_of_getElem? (i := 455) (by decide +kernel)) rfl
theorem lcX7_wipe : f_LC mX7_wipe := ⟨tw455, tw47⟩
theorem hdX7_wipe : f_hd mX7_wipe 0 := ⟨⟨by decide +kernel, by decide +kernel, by decide +kernel⟩, by decide⟩
theorem tw452 : Cond.methodLink RL 18 yX7_wipe ∈ tb := tb_in (List.mem_of_getElem? (i := 452) (by decide +kernel)) rfl
theorem tw453 : Cond.instanceMethod yX7_wipe ∈ tb := tb_in (List.mem_of_getElem? (i := 453) (by decide +kernel)) rfl
theorem tw454 : Cond.selects yX7_wipe.cls yX7_wipe yX7_wipe ∈ tb := tb_in (List.mem_of_getElem? (i := 454) (by decide +kernel)) rfl
theorem mlL_18 : f_LV RL 18 mX7_wipe 0 := ⟨lcX7_wipe, tw453, tw454, Or.inl tw452, hdX7_wipe⟩
abbrev mX7_fault : f_Y := (yX7_fault, cX7_fault, 1, (some .int))
theorem tw459 : Cond.code yX7_fault cX7_fault 1 (some .int) ∈ tb := tb_in (List.mem_of_getElem? (i := 459) (by decide +kernel)) rfl
theorem lcX7_fault : f_LC mX7_fault := ⟨tw459, tw47⟩
theorem hdX7_fault : f_hd mX7_fault 0 := ⟨⟨by decide +kernel, by decide +kernel, by decide +kernel⟩, by decide⟩
theorem tw456 : Cond.methodLink RL 23 yX7_fault ∈ tb := tb_in (List.mem_of_getElem? (i := 456) (by decide +kernel)) rfl
theorem tw457 : Cond.instanceMethod yX7_fault ∈ tb := tb_in (List.mem_of_getElem? (i := 457) (by decide +kernel)) rfl
theorem tw458 : Cond.selects yX7_fault.cls yX7_fault yX7_fault ∈ tb := tb_in (List.mem_of_getElem? (i := 458) (by decide +kernel)) rfl
theorem mlL_23 : f_LV RL 23 mX7_fault 0 := ⟨lcX7_fault, tw457, tw458, Or.inl tw456, hdX7_fault⟩
abbrev mX7_lay : f_Y := (yX7_lay, cX7_lay, 1, (some .int))
theorem tw463 : Cond.code yX7_lay cX7_lay 1 (some .int) ∈ tb := tb_in (List.mem_of_getElem? (i := 463) (by decide +kernel)) rfl
theorem lcX7_lay : f_LC mX7_lay := ⟨tw463, tw47⟩
theorem hdX7_lay : f_hd mX7_lay 0 := ⟨⟨by decide +kernel, by decide +kernel, by decide +kernel⟩, by decide⟩
theorem tw460 : Cond.methodLink RL 27 yX7_lay ∈ tb := tb_in (List.mem_of_getElem? (i := 460) (by decide +kernel)) rfl
theorem tw461 : Cond.instanceMethod yX7_lay ∈ tb := tb_in (List.mem_of_getElem? (i := 461) (by decide +kernel)) rfl
theorem tw462 : Cond.selects yX7_lay.cls yX7_lay yX7_lay ∈ tb := tb_in (List.mem_of_getElem? (i := 462) (by decide +kernel)) rfl
theorem mlL_27 : f_LV RL 27 mX7_lay 0 := ⟨lcX7_lay, tw461, tw462, Or.inl tw460, hdX7_lay⟩
abbrev mX1_kinds : f_Y := (yX1_kinds, cX1_kinds, 1, (some .int))
theorem tw467 : Cond.code yX1_kinds cX1_kinds 1 (some .int) ∈ tb := tb_in (List.mem_of_getElem? (i := 467) (by decide +kernel)) rfl
theorem lcX1_kinds : f_LC mX1_kinds := ⟨tw467, tw50⟩
theorem hdX1_kinds : f_hd mX1_kinds 0 := ⟨⟨by decide +kernel, by decide +kernel, by decide +kernel⟩, by decide⟩
theorem tw464 : Cond.methodLink RX7 116 yX1_kinds ∈ tb := tb_in (List.mem_of_getElem? (i := 464) (by decide +kernel)) rfl
theorem tw465 : Cond.instanceMethod yX1_kinds ∈ tb := tb_in (List.mem_of_getElem? (i := 465) (by decide +kernel)) rfl
theorem tw466 : Cond.selects yX1_kinds.cls yX1_kinds yX1_kinds ∈ tb := tb_in (List.mem_of_getElem? (i := 466) (by decide +kernel)) rfl
theorem mlX7_116 : f_LV RX7 116 mX1_kinds 0 := ⟨lcX1_kinds, tw465, tw466, Or.inl tw464, hdX1_kinds⟩
abbrev mX2_clear : f_Y := (yX2_clear, cX2_clear, 1, none)
theorem tw471 : Cond.code yX2_clear cX2_clear 1 none ∈ tb := tb_in (List.mem_of_getElem? (i := 471) (by decide +kernel)) rfl
theorem tw52 : Cond.initialized RX2 ∈ tb := tb_in (List.mem_of_getElem? (i := 52) (by decide +kernel)) rfl
theorem lcX2_clear : f_LC mX2_clear := ⟨tw471, tw52⟩
theorem hdX2_clear : f_hd mX2_clear 0 := ⟨⟨by decide +kernel, by decide +kernel, by decide +kernel⟩, by decide⟩
theorem tw468 : Cond.methodLink RX7 119 yX2_clear ∈ tb := tb_in (List.mem_of_getElem? (i := 468) (by decide +kernel)) rfl
theorem tw469 : Cond.instanceMethod yX2_clear ∈ tb := tb_in (List.mem_of_getElem? (i := 469) (by decide +kernel)) rfl
theorem tw470 : Cond.selects yX2_clear.cls yX2_clear yX2_clear ∈ tb := tb_in (List.mem_of_getElem? (i := 470) (by decide +kernel)) rfl
theorem mlX7_119 : f_LV RX7 119 mX2_clear 0 := ⟨lcX2_clear, tw469, tw470, Or.inl tw468, hdX2_clear⟩
theorem tw472 : Cond.methodLink RX2 27 yX3_clear ∈ tb := tb_in (List.mem_of_getElem? (i := 472) (by decide +kernel)) rfl
theorem mlX2_27 : f_LV RX2 27 mX3_clear 0 := ⟨lcX3_clear, tw335, tw336, Or.inl tw472, hdX3_clear⟩
abbrev mX6_clear : f_Y := (yX6_clear, cX6_clear, 1, none)
theorem tw476 : Cond.code yX6_clear cX6_clear 1 none ∈ tb := tb_in (List.mem_of_getElem? (i := 476) (by decide +kernel)) rfl
theorem tw53 : Cond.initialized RX6 ∈ tb := tb_in (List.mem_of_getElem? (i := 53) (by decide +kernel)) rfl
theorem lcX6_clear : f_LC mX6_clear := ⟨tw476, tw53⟩
theorem hdX6_clear : f_hd mX6_clear 0 := ⟨⟨by decide +kernel, by decide +kernel, by decide +kernel⟩, by decide⟩
theorem tw473 : Cond.methodLink RX7 120 yX6_clear ∈ tb := tb_in (List.mem_of_getElem? (i := 473) (by decide +kernel)) rfl
theorem tw474 : Cond.instanceMethod yX6_clear ∈ tb := tb_in (List.mem_of_getElem? (i := 474) (by decide +kernel)) rfl
theorem tw475 : Cond.selects yX6_clear.cls yX6_clear yX6_clear ∈ tb := tb_in (List.mem_of_getElem? (i := 475) (by decide +kernel)) rfl
theorem mlX7_120 : f_LV RX7 120 mX6_clear 0 := ⟨lcX6_clear, tw474, tw475, Or.inl tw473, hdX6_clear⟩
abbrev mX7_kind : f_Y := (yX7_kind, cX7_kind, 3, (some .int))
theorem tw480 : Cond.code yX7_kind cX7_kind 3 (some .int) ∈ tb := tb_in (List.mem_of_getElem? (i := 480) (by decide +kernel)) rfl
theorem lcX7_kind : f_LC mX7_kind := ⟨tw480, tw47⟩
theorem hdX7_kind : f_hd mX7_kind 2 := ⟨⟨by decide +kernel, by decide +kernel, by decide +kernel⟩, by decide⟩
theorem tw477 : Cond.methodLink RL 31 yX7_kind ∈ tb := tb_in (List.mem_of_getElem? (i := 477) (by decide +kernel)) rfl
theorem tw478 : Cond.instanceMethod yX7_kind ∈ tb := tb_in (List.mem_of_getElem? (i := 478) (by decide +kernel)) rfl
theorem tw479 : Cond.selects yX7_kind.cls yX7_kind yX7_kind ∈ tb := tb_in (List.mem_of_getElem? (i := 479) (by decide +kernel)) rfl
theorem mlL_31 : f_LV RL 31 mX7_kind 2 := ⟨lcX7_kind, tw478, tw479, Or.inl tw477, hdX7_kind⟩
theorem tw481 : Cond.methodLink RX7 121 yX1_isKind ∈ tb := tb_in (List.mem_of_getElem? (i := 481) (by decide +kernel)) rfl
theorem mlX7_121 : f_LV RX7 121 mX1_isKind 1 := ⟨lcX1_isKind, tw389, tw390, Or.inl tw481, hdX1_isKind⟩
theorem tw482 : Cond.methodLink RX7 128 yX3_at ∈ tb := tb_in (List.mem_of_getElem? (i := 482) (by decide +kernel)) rfl
theorem mlX7_128 : f_LV RX7 128 mX3_at 1 := ⟨lcX3_at, tw347, tw348, Or.inl tw482, hdX3_at⟩
abbrev mX7_errand : f_Y := (yX7_errand, cX7_errand, 2, (some .int))
theorem tw486 : Cond.code yX7_errand cX7_errand 2 (some .int) ∈ tb := tb_in (List.mem_of_getElem? (i := 486) (by decide +kernel)) rfl
theorem lcX7_errand : f_LC mX7_errand := ⟨tw486, tw47⟩
theorem hdX7_errand : f_hd mX7_errand 1 := ⟨⟨by decide +kernel, by decide +kernel, by decide +kernel⟩, by decide⟩
theorem tw483 : Cond.methodLink RL 36 yX7_errand ∈ tb := tb_in (List.mem_of_getElem? (i := 483) (by decide +kernel)) rfl
theorem tw484 : Cond.instanceMethod yX7_errand ∈ tb := tb_in (List.mem_of_getElem? (i := 484) (by decide +kernel)) rfl
theorem tw485 : Cond.selects yX7_errand.cls yX7_errand yX7_errand ∈ tb := tb_in (List.mem_of_getElem? (i := 485) (by decide +kernel)) rfl
theorem mlL_36 : f_LV RL 36 mX7_errand 1 := ⟨lcX7_errand, tw484, tw485, Or.inl tw483, hdX7_errand⟩
abbrev mX7_word : f_Y := (yX7_word, cX7_word, 3, (some .int))
theorem tw490 : Cond.code yX7_word cX7_word 3 (some .int) ∈ tb := tb_in (List.mem_of_getElem? (i := 490) (by decide +kernel)) rfl
theorem lcX7_word : f_LC mX7_word := ⟨tw490, tw47⟩
theorem hdX7_word : f_hd mX7_word 1 := ⟨⟨by decide +kernel, by decide +kernel, by decide +kernel⟩, by decide⟩
theorem tw487 : Cond.methodLink RL 40 yX7_word ∈ tb := tb_in (List.mem_of_getElem? (i := 487) (by decide +kernel)) rfl
theorem tw488 : Cond.instanceMethod yX7_word ∈ tb := tb_in (List.mem_of_getElem? (i := 488) (by decide +kernel)) rfl
theorem tw489 : Cond.selects yX7_word.cls yX7_word yX7_word ∈ tb := tb_in (List.mem_of_getElem? (i := 489) (by decide +kernel)) rfl
theorem mlL_40 : f_LV RL 40 mX7_word 1 := ⟨lcX7_word, tw488, tw489, Or.inl tw487, hdX7_word⟩
abbrev mX7_unlike : f_Y := (yX7_unlike, cX7_unlike, 3, (some .int))
theorem tw494 : Cond.code yX7_unlike cX7_unlike 3 (some .int) ∈ tb := tb_in (List.mem_of_getElem? (i := 494) (by decide +kernel)) rfl
theorem lcX7_unlike : f_LC mX7_unlike := ⟨tw494, tw47⟩
theorem hdX7_unlike : f_hd mX7_unlike 2 := ⟨⟨by decide +kernel, by decide +kernel, by decide +kernel⟩, by decide⟩
theorem tw491 : Cond.methodLink RL 44 yX7_unlike ∈ tb := tb_in (List.mem_of_getElem? (i := 491) (by decide +kernel)) rfl
theorem tw492 : Cond.instanceMethod yX7_unlike ∈ tb := tb_in (List.mem_of_getElem? (i := 492) (by decide +kernel)) rfl
theorem tw493 : Cond.selects yX7_unlike.cls yX7_unlike yX7_unlike ∈ tb := tb_in (List.mem_of_getElem? (i := 493) (by decide +kernel)) rfl
theorem mlL_44 : f_LV RL 44 mX7_unlike 2 := ⟨lcX7_unlike, tw492, tw493, Or.inl tw491, hdX7_unlike⟩
abbrev mX7_marksApart : f_Y := (yX7_marksApart, cX7_marksApart, 2, (some .int))
theorem tw497 : Cond.code yX7_marksApart cX7_marksApart 2 (some .int) ∈ tb := tb_in (List.mem_of_getElem? (i := 497) (by decide +kernel)) rfl
theorem lcX7_marksApart : f_LC mX7_marksApart := ⟨tw497, tw47⟩
theorem hdX7_marksApart : f_hd mX7_marksApart 2 := ⟨⟨by decide +kernel, by decide +kernel, by decide +kernel⟩, by decide⟩
theorem tw495 : Cond.methodLink RX7 153 yX7_marksApart ∈ tb := tb_in (List.mem_of_getElem? (i := 495) (by decide +kernel)) rfl
theorem tw496 : Cond.static yX7_marksApart ∈ tb := tb_in (List.mem_of_getElem? (i := 496) (by decide +kernel)) rfl
theorem mlX7_153 : f_LS RX7 153 mX7_marksApart 2 := ⟨lcX7_marksApart, tw496, Or.inl tw495, hdX7_marksApart⟩
abbrev mJ6_bitCount_0f7a4 : f_Y := (yJ6_bitCount_0f7a4, cJ6_bitCount_0f7a4, 1, (some .int))
theorem tw500 : Cond.code yJ6_bitCount_0f7a4 cJ6_bitCount_0f7a4 1 (some .int) ∈ tb := tb_in (List.mem_of_getElem? (i := 500) (by decide +kernel)) rfl
theorem tw62 : Cond.initialized RJ6 ∈ tb := tb_in (List.mem_of_getElem? (i := 62) (by decide +kernel)) rfl
theorem lcJ6_bitCount_0f7a4 : f_LC mJ6_bitCount_0f7a4 := ⟨tw500, tw62⟩
theorem hdJ6_bitCount_0f7a4 : f_hd mJ6_bitCount_0f7a4 1 := ⟨⟨by decide +kernel, by decide +kernel, by decide +kernel⟩, by decide⟩
theorem tw498 : Cond.methodLink RX7 237 yJ6_bitCount_0f7a4 ∈ tb := tb_in (List.mem_of_getElem? (i := 498) (by decide +kernel)) rfl
theorem tw499 : Cond.static yJ6_bitCount_0f7a4 ∈ tb := tb_in (List.mem_of_getElem? (i := 499) (by decide +kernel)) rfl
theorem mlX7_237 : f_LS RX7 237 mJ6_bitCount_0f7a4 1 := ⟨lcJ6_bitCount_0f7a4, tw499, Or.inl tw498, hdJ6_bitCount_0f7a4⟩
abbrev mX7_does : f_Y := (yX7_does, cX7_does, 3, (some .int))
theorem tw507 : Cond.code yX7_does cX7_does 3 (some .int) ∈ tb := tb_in (List.mem_of_getElem? (i := 507) (by decide +kernel)) rfl
theorem lcX7_does : f_LC mX7_does := ⟨tw507, tw47⟩
theorem hdX7_does : f_hd mX7_does 2 := ⟨⟨by decide +kernel, by decide +kernel, by decide +kernel⟩, by decide⟩
theorem tw504 : Cond.methodLink RL 48 yX7_does ∈ tb := tb_in (List.mem_of_getElem? (i := 504) (by decide +kernel)) rfl
theorem tw505 : Cond.instanceMethod yX7_does ∈ tb := tb_in (List.mem_of_getElem? (i := 505) (by decide +kernel)) rfl
theorem tw506 : Cond.selects yX7_does.cls yX7_does yX7_does ∈ tb := tb_in (List.mem_of_getElem? (i := 506) (by decide +kernel)) rfl
theorem mlL_48 : f_LV RL 48 mX7_does 2 := ⟨lcX7_does, tw505, tw506, Or.inl tw504, hdX7_does⟩
theorem tw508 : Cond.methodLink RX7 157 yX7_isSort ∈ tb := tb_in (List.mem_of_getElem? (i := 508) (by decide +kernel)) rfl
theorem mlX7_157 : f_LS RX7 157 mX7_isSort 1 := ⟨lcX7_isSort, tw382, Or.inl tw508, hdX7_isSort⟩
abbrev mX7_learnerNow : f_Y := (yX7_learnerNow, cX7_learnerNow, 2, (some (.object "AsWithTheLast$Learner")))
theorem tw512 : Cond.code yX7_learnerNow cX7_learnerNow 2 (some (.object "AsWithTheLast$Learner")) ∈ tb := tb_in (List.mem_of_getElem? (i := 512) (by decide +kernel)) rfl
theorem lcX7_learnerNow : f_LC mX7_learnerNow := ⟨tw512, tw47⟩
theorem hdX7_learnerNow : f_hd mX7_learnerNow 1 := ⟨⟨by decide +kernel, by decide +kernel, by decide +kernel⟩, by decide⟩
theorem tw509 : Cond.methodLink RX7 160 yX7_learnerNow ∈ tb := tb_in (List.mem_of_getElem? (i := 509) (by decide +kernel)) rfl
theorem tw511 : Cond.instanceMethod yX7_learnerNow ∈ tb := tb_in (List.mem_of_getElem? (i := 511) (by decide +kernel)) rfl
theorem tw5 : Cond.selects yX7_learnerNow.cls yX7_learnerNow yX7_learnerNow ∈ tb := tb_in (List.mem_of_getElem? (i := 5) (by decide +kernel)) rfl
theorem mlX7_160 : f_LV RX7 160 mX7_learnerNow 1 := ⟨lcX7_learnerNow, tw511, tw5, Or.inl tw509, hdX7_learnerNow⟩
abbrev mX0_begin : f_Y := (yX0_begin, cX0_begin, 3, none)
theorem tw516 : Cond.code yX0_begin cX0_begin 3 none ∈ tb := tb_in (List.mem_of_getElem? (i := 516) (by decide +kernel)) rfl
theorem tw54 : Cond.initialized RX0 ∈ tb := tb_in (List.mem_of_getElem? (i := 54) (by decide +kernel)) rfl
theorem lcX0_begin : f_LC mX0_begin := ⟨tw516, tw54⟩
theorem hdX0_begin : f_hd mX0_begin 2 := ⟨⟨by decide +kernel, by decide +kernel, by decide +kernel⟩, by decide⟩
theorem tw513 : Cond.methodLink RX7 277 yX0_begin ∈ tb := tb_in (List.mem_of_getElem? (i := 513) (by decide +kernel)) rfl
theorem tw514 : Cond.instanceMethod yX0_begin ∈ tb := tb_in (List.mem_of_getElem? (i := 514) (by decide +kernel)) rfl
theorem tw515 : Cond.selects yX0_begin.cls yX0_begin yX0_begin ∈ tb := tb_in (List.mem_of_getElem? (i := 515) (by decide +kernel)) rfl
theorem mlX7_277 : f_LV RX7 277 mX0_begin 2 := ⟨lcX0_begin, tw514, tw515, Or.inl tw513, hdX0_begin⟩
theorem tw517 : Cond.methodLink RX0 47 yX3_fill ∈ tb := tb_in (List.mem_of_getElem? (i := 517) (by decide +kernel)) rfl
theorem mlX0_47 : f_LV RX0 47 mX3_fill 2 := ⟨lcX3_fill, tw169, tw170, Or.inl tw517, hdX3_fill⟩
abbrev mX0_hearAll : f_Y := (yX0_hearAll, cX0_hearAll, 3, none)
theorem tw521 : Cond.code yX0_hearAll cX0_hearAll 3 none ∈ tb := tb_in (List.mem_of_getElem? (i := 521) (by decide +kernel)) rfl
theorem lcX0_hearAll : f_LC mX0_hearAll := ⟨tw521, tw54⟩
theorem hdX0_hearAll : f_hd mX0_hearAll 1 := ⟨⟨by decide +kernel, by decide +kernel, by decide +kernel⟩, by decide⟩
theorem tw518 : Cond.methodLink RX7 280 yX0_hearAll ∈ tb := tb_in (List.mem_of_getElem? (i := 518) (by decide +kernel)) rfl
theorem tw519 : Cond.instanceMethod yX0_hearAll ∈ tb := tb_in (List.mem_of_getElem? (i := 519) (by decide +kernel)) rfl
theorem tw520 : Cond.selects yX0_hearAll.cls yX0_hearAll yX0_hearAll ∈ tb := tb_in (List.mem_of_getElem? (i := 520) (by decide +kernel)) rfl
theorem mlX7_280 : f_LV RX7 280 mX0_hearAll 1 := ⟨lcX0_hearAll, tw519, tw520, Or.inl tw518, hdX0_hearAll⟩
theorem tw522 : Cond.methodLink RX0 54 yX3_size ∈ tb := tb_in (List.mem_of_getElem? (i := 522) (by decide +kernel)) rfl
theorem mlX0_54 : f_LV RX0 54 mX3_size 0 := ⟨lcX3_size, tw339, tw340, Or.inl tw522, hdX3_size⟩
theorem tw523 : Cond.methodLink RX0 58 yX3_at ∈ tb := tb_in (List.mem_of_getElem? (i := 523) (by decide +kernel)) rfl
theorem mlX0_58 : f_LV RX0 58 mX3_at 1 := ⟨lcX3_at, tw347, tw348, Or.inl tw523, hdX3_at⟩
abbrev mX0_hear : f_Y := (yX0_hear, cX0_hear, 3, none)
theorem tw527 : Cond.code yX0_hear cX0_hear 3 none ∈ tb := tb_in (List.mem_of_getElem? (i := 527) (by decide +kernel)) rfl
theorem lcX0_hear : f_LC mX0_hear := ⟨tw527, tw54⟩
theorem hdX0_hear : f_hd mX0_hear 2 := ⟨⟨by decide +kernel, by decide +kernel, by decide +kernel⟩, by decide⟩
theorem tw524 : Cond.methodLink RX0 62 yX0_hear ∈ tb := tb_in (List.mem_of_getElem? (i := 524) (by decide +kernel)) rfl
theorem tw525 : Cond.instanceMethod yX0_hear ∈ tb := tb_in (List.mem_of_getElem? (i := 525) (by decide +kernel)) rfl
theorem tw526 : Cond.selects yX0_hear.cls yX0_hear yX0_hear ∈ tb := tb_in (List.mem_of_getElem? (i := 526) (by decide +kernel)) rfl
theorem mlX0_62 : f_LV RX0 62 mX0_hear 2 := ⟨lcX0_hear, tw525, tw526, Or.inl tw524, hdX0_hear⟩
abbrev mX3_put : f_Y := (yX3_put, cX3_put, 3, none)
theorem tw531 : Cond.code yX3_put cX3_put 3 none ∈ tb := tb_in (List.mem_of_getElem? (i := 531) (by decide +kernel)) rfl
theorem lcX3_put : f_LC mX3_put := ⟨tw531, tw48⟩
theorem hdX3_put : f_hd mX3_put 2 := ⟨⟨by decide +kernel, by decide +kernel, by decide +kernel⟩, by decide⟩
theorem tw528 : Cond.methodLink RX0 51 yX3_put ∈ tb := tb_in (List.mem_of_getElem? (i := 528) (by decide +kernel)) rfl
theorem tw529 : Cond.instanceMethod yX3_put ∈ tb := tb_in (List.mem_of_getElem? (i := 529) (by decide +kernel)) rfl
theorem tw530 : Cond.selects yX3_put.cls yX3_put yX3_put ∈ tb := tb_in (List.mem_of_getElem? (i := 530) (by decide +kernel)) rfl
theorem mlX0_51 : f_LV RX0 51 mX3_put 2 := ⟨lcX3_put, tw529, tw530, Or.inl tw528, hdX3_put⟩
abbrev mX0_willDo : f_Y := (yX0_willDo, cX0_willDo, 2, (some .int))
theorem tw535 : Cond.code yX0_willDo cX0_willDo 2 (some .int) ∈ tb := tb_in (List.mem_of_getElem? (i := 535) (by decide +kernel)) rfl
theorem lcX0_willDo : f_LC mX0_willDo := ⟨tw535, tw54⟩
theorem hdX0_willDo : f_hd mX0_willDo 1 := ⟨⟨by decide +kernel, by decide +kernel, by decide +kernel⟩, by decide⟩
theorem tw532 : Cond.methodLink RX7 164 yX0_willDo ∈ tb := tb_in (List.mem_of_getElem? (i := 532) (by decide +kernel)) rfl
theorem tw533 : Cond.instanceMethod yX0_willDo ∈ tb := tb_in (List.mem_of_getElem? (i := 533) (by decide +kernel)) rfl
theorem tw534 : Cond.selects yX0_willDo.cls yX0_willDo yX0_willDo ∈ tb := tb_in (List.mem_of_getElem? (i := 534) (by decide +kernel)) rfl
theorem mlX7_164 : f_LV RX7 164 mX0_willDo 1 := ⟨lcX0_willDo, tw533, tw534, Or.inl tw532, hdX0_willDo⟩
abbrev mX0_likestDoing : f_Y := (yX0_likestDoing, cX0_likestDoing, 9, (some .int))
theorem tw539 : Cond.code yX0_likestDoing cX0_likestDoing 9 (some .int) ∈ tb := tb_in (List.mem_of_getElem? (i := 539) (by decide +kernel)) rfl
theorem lcX0_likestDoing : f_LC mX0_likestDoing := ⟨tw539, tw54⟩
theorem hdX0_likestDoing : f_hd mX0_likestDoing 1 := ⟨⟨by decide +kernel, by decide +kernel, by decide +kernel⟩, by decide⟩
theorem tw536 : Cond.methodLink RX0 65 yX0_likestDoing ∈ tb := tb_in (List.mem_of_getElem? (i := 536) (by decide +kernel)) rfl
theorem tw538 : Cond.instanceMethod yX0_likestDoing ∈ tb := tb_in (List.mem_of_getElem? (i := 538) (by decide +kernel)) rfl
theorem tw6 : Cond.selects yX0_likestDoing.cls yX0_likestDoing yX0_likestDoing ∈ tb := tb_in (List.mem_of_getElem? (i := 6) (by decide +kernel)) rfl
theorem mlX0_65 : f_LV RX0 65 mX0_likestDoing 1 := ⟨lcX0_likestDoing, tw538, tw6, Or.inl tw536, hdX0_likestDoing⟩
theorem tw541 : Cond.methodLink RX0 78 yX1_kinds ∈ tb := tb_in (List.mem_of_getElem? (i := 541) (by decide +kernel)) rfl
theorem mlX0_78 : f_LV RX0 78 mX1_kinds 0 := ⟨lcX1_kinds, tw465, tw466, Or.inl tw541, hdX1_kinds⟩
abbrev mX0_keeps : f_Y := (yX0_keeps, cX0_keeps, 2, (some .boolean))
theorem tw545 : Cond.code yX0_keeps cX0_keeps 2 (some .boolean) ∈ tb := tb_in (List.mem_of_getElem? (i := 545) (by decide +kernel)) rfl
theorem lcX0_keeps : f_LC mX0_keeps := ⟨tw545, tw54⟩
theorem hdX0_keeps : f_hd mX0_keeps 1 := ⟨⟨by decide +kernel, by decide +kernel, by decide +kernel⟩, by decide⟩
theorem tw542 : Cond.methodLink RX0 68 yX0_keeps ∈ tb := tb_in (List.mem_of_getElem? (i := 542) (by decide +kernel)) rfl
theorem tw544 : Cond.instanceMethod yX0_keeps ∈ tb := tb_in (List.mem_of_getElem? (i := 544) (by decide +kernel)) rfl
theorem tw7 : Cond.selects yX0_keeps.cls yX0_keeps yX0_keeps ∈ tb := tb_in (List.mem_of_getElem? (i := 7) (by decide +kernel)) rfl
theorem mlX0_68 : f_LV RX0 68 mX0_keeps 1 := ⟨lcX0_keeps, tw544, tw7, Or.inl tw542, hdX0_keeps⟩
theorem tw546 : Cond.methodLinkNest RX0 81 yX7_marksApart "AsWithTheLast" ∈ nw := nw_in (List.mem_of_getElem? (i := 546) (by decide +kernel)) rfl
theorem mlX0_81 : f_LS RX0 81 mX7_marksApart 2 := ⟨lcX7_marksApart, tw496, Or.inr ⟨_, tw546⟩, hdX7_marksApart⟩
abbrev mX7_hand : f_Y := (yX7_hand, cX7_hand, 3, (some .int))
theorem tw550 : Cond.code yX7_hand cX7_hand 3 (some .int) ∈ tb := tb_in (List.mem_of_getElem? (i := 550) (by decide +kernel)) rfl
theorem lcX7_hand : f_LC mX7_hand := ⟨tw550, tw47⟩
theorem hdX7_hand : f_hd mX7_hand 1 := ⟨⟨by decide +kernel, by decide +kernel, by decide +kernel⟩, by decide⟩
theorem tw547 : Cond.methodLink RL 52 yX7_hand ∈ tb := tb_in (List.mem_of_getElem? (i := 547) (by decide +kernel)) rfl
theorem tw548 : Cond.instanceMethod yX7_hand ∈ tb := tb_in (List.mem_of_getElem? (i := 548) (by decide +kernel)) rfl
theorem tw549 : Cond.selects yX7_hand.cls yX7_hand yX7_hand ∈ tb := tb_in (List.mem_of_getElem? (i := 549) (by decide +kernel)) rfl
theorem mlL_52 : f_LV RL 52 mX7_hand 1 := ⟨lcX7_hand, tw548, tw549, Or.inl tw547, hdX7_hand⟩
abbrev mX6_add : f_Y := (yX6_add, cX6_add, 3, none)
theorem tw554 : Cond.code yX6_add cX6_add 3 none ∈ tb := tb_in (List.mem_of_getElem? (i := 554) (by decide +kernel)) rfl
theorem lcX6_add : f_LC mX6_add := ⟨tw554, tw53⟩
theorem hdX6_add : f_hd mX6_add 1 := ⟨⟨by decide +kernel, by decide +kernel, by decide +kernel⟩, by decide⟩
theorem tw551 : Cond.methodLink RX7 171 yX6_add ∈ tb := tb_in (List.mem_of_getElem? (i := 551) (by decide +kernel)) rfl
theorem tw552 : Cond.instanceMethod yX6_add ∈ tb := tb_in (List.mem_of_getElem? (i := 552) (by decide +kernel)) rfl
theorem tw553 : Cond.selects yX6_add.cls yX6_add yX6_add ∈ tb := tb_in (List.mem_of_getElem? (i := 553) (by decide +kernel)) rfl
theorem mlX7_171 : f_LV RX7 171 mX6_add 1 := ⟨lcX6_add, tw552, tw553, Or.inl tw551, hdX6_add⟩
abbrev mX6_isFull : f_Y := (yX6_isFull, cX6_isFull, 1, (some .boolean))
theorem tw558 : Cond.code yX6_isFull cX6_isFull 1 (some .boolean) ∈ tb := tb_in (List.mem_of_getElem? (i := 558) (by decide +kernel)) rfl
theorem lcX6_isFull : f_LC mX6_isFull := ⟨tw558, tw53⟩
theorem hdX6_isFull : f_hd mX6_isFull 0 := ⟨⟨by decide +kernel, by decide +kernel, by decide +kernel⟩, by decide⟩
theorem tw555 : Cond.methodLink RX6 26 yX6_isFull ∈ tb := tb_in (List.mem_of_getElem? (i := 555) (by decide +kernel)) rfl
theorem tw556 : Cond.instanceMethod yX6_isFull ∈ tb := tb_in (List.mem_of_getElem? (i := 556) (by decide +kernel)) rfl
theorem tw557 : Cond.selects yX6_isFull.cls yX6_isFull yX6_isFull ∈ tb := tb_in (List.mem_of_getElem? (i := 557) (by decide +kernel)) rfl
theorem mlX6_26 : f_LV RX6 26 mX6_isFull 0 := ⟨lcX6_isFull, tw556, tw557, Or.inl tw555, hdX6_isFull⟩
abbrev mX6_dropOldest : f_Y := (yX6_dropOldest, cX6_dropOldest, 3, none)
theorem tw562 : Cond.code yX6_dropOldest cX6_dropOldest 3 none ∈ tb := tb_in (List.mem_of_getElem? (i := 562) (by decide +kernel)) rfl
theorem lcX6_dropOldest : f_LC mX6_dropOldest := ⟨tw562, tw53⟩
theorem hdX6_dropOldest : f_hd mX6_dropOldest 0 := ⟨⟨by decide +kernel, by decide +kernel, by decide +kernel⟩, by decide⟩
theorem tw559 : Cond.methodLink RX6 30 yX6_dropOldest ∈ tb := tb_in (List.mem_of_getElem? (i := 559) (by decide +kernel)) rfl
theorem tw561 : Cond.instanceMethod yX6_dropOldest ∈ tb := tb_in (List.mem_of_getElem? (i := 561) (by decide +kernel)) rfl
theorem tw8 : Cond.selects yX6_dropOldest.cls yX6_dropOldest yX6_dropOldest ∈ tb := tb_in (List.mem_of_getElem? (i := 8) (by decide +kernel)) rfl
theorem mlX6_30 : f_LV RX6 30 mX6_dropOldest 0 := ⟨lcX6_dropOldest, tw561, tw8, Or.inl tw559, hdX6_dropOldest⟩
abbrev mX6_placeAt : f_Y := (yX6_placeAt, cX6_placeAt, 2, (some (.object "AsWithTheLast$Memory")))
theorem tw566 : Cond.code yX6_placeAt cX6_placeAt 2 (some (.object "AsWithTheLast$Memory")) ∈ tb := tb_in (List.mem_of_getElem? (i := 566) (by decide +kernel)) rfl
theorem lcX6_placeAt : f_LC mX6_placeAt := ⟨tw566, tw53⟩
theorem hdX6_placeAt : f_hd mX6_placeAt 1 := ⟨⟨by decide +kernel, by decide +kernel, by decide +kernel⟩, by decide⟩
theorem tw563 : Cond.methodLink RX6 33 yX6_placeAt ∈ tb := tb_in (List.mem_of_getElem? (i := 563) (by decide +kernel)) rfl
theorem tw565 : Cond.instanceMethod yX6_placeAt ∈ tb := tb_in (List.mem_of_getElem? (i := 565) (by decide +kernel)) rfl
theorem tw9 : Cond.selects yX6_placeAt.cls yX6_placeAt yX6_placeAt ∈ tb := tb_in (List.mem_of_getElem? (i := 9) (by decide +kernel)) rfl
theorem mlX6_33 : f_LV RX6 33 mX6_placeAt 1 := ⟨lcX6_placeAt, tw565, tw9, Or.inl tw563, hdX6_placeAt⟩
abbrev mX2_copyFrom : f_Y := (yX2_copyFrom, cX2_copyFrom, 2, none)
theorem tw570 : Cond.code yX2_copyFrom cX2_copyFrom 2 none ∈ tb := tb_in (List.mem_of_getElem? (i := 570) (by decide +kernel)) rfl
theorem lcX2_copyFrom : f_LC mX2_copyFrom := ⟨tw570, tw52⟩
theorem hdX2_copyFrom : f_hd mX2_copyFrom 1 := ⟨⟨by decide +kernel, by decide +kernel, by decide +kernel⟩, by decide⟩
theorem tw567 : Cond.methodLink RX6 37 yX2_copyFrom ∈ tb := tb_in (List.mem_of_getElem? (i := 567) (by decide +kernel)) rfl
theorem tw568 : Cond.instanceMethod yX2_copyFrom ∈ tb := tb_in (List.mem_of_getElem? (i := 568) (by decide +kernel)) rfl
theorem tw569 : Cond.selects yX2_copyFrom.cls yX2_copyFrom yX2_copyFrom ∈ tb := tb_in (List.mem_of_getElem? (i := 569) (by decide +kernel)) rfl
theorem mlX6_37 : f_LV RX6 37 mX2_copyFrom 1 := ⟨lcX2_copyFrom, tw568, tw569, Or.inl tw567, hdX2_copyFrom⟩
theorem tw571 : Cond.methodLink RX2 74 yX3_copyFrom ∈ tb := tb_in (List.mem_of_getElem? (i := 571) (by decide +kernel)) rfl
theorem mlX2_74 : f_LV RX2 74 mX3_copyFrom 1 := ⟨lcX3_copyFrom, tw398, tw399, Or.inl tw571, hdX3_copyFrom⟩
abbrev mX2_addDay : f_Y := (yX2_addDay, cX2_addDay, 4, none)
theorem tw575 : Cond.code yX2_addDay cX2_addDay 4 none ∈ tb := tb_in (List.mem_of_getElem? (i := 575) (by decide +kernel)) rfl
theorem lcX2_addDay : f_LC mX2_addDay := ⟨tw575, tw52⟩
theorem hdX2_addDay : f_hd mX2_addDay 3 := ⟨⟨by decide +kernel, by decide +kernel, by decide +kernel⟩, by decide⟩
theorem tw572 : Cond.methodLink RX7 174 yX2_addDay ∈ tb := tb_in (List.mem_of_getElem? (i := 572) (by decide +kernel)) rfl
theorem tw573 : Cond.instanceMethod yX2_addDay ∈ tb := tb_in (List.mem_of_getElem? (i := 573) (by decide +kernel)) rfl
theorem tw574 : Cond.selects yX2_addDay.cls yX2_addDay yX2_addDay ∈ tb := tb_in (List.mem_of_getElem? (i := 574) (by decide +kernel)) rfl
theorem mlX7_174 : f_LV RX7 174 mX2_addDay 3 := ⟨lcX2_addDay, tw573, tw574, Or.inl tw572, hdX2_addDay⟩
theorem tw576 : Cond.methodLink RX2 54 yX3_at ∈ tb := tb_in (List.mem_of_getElem? (i := 576) (by decide +kernel)) rfl
theorem mlX2_54 : f_LV RX2 54 mX3_at 1 := ⟨lcX3_at, tw347, tw348, Or.inl tw576, hdX3_at⟩
theorem tw577 : Cond.methodLink RX2 58 yX3_put ∈ tb := tb_in (List.mem_of_getElem? (i := 577) (by decide +kernel)) rfl
theorem mlX2_58 : f_LV RX2 58 mX3_put 2 := ⟨lcX3_put, tw529, tw530, Or.inl tw577, hdX3_put⟩
abbrev mX1_lost : f_Y := (yX1_lost, cX1_lost, 3, (some .int))
theorem tw581 : Cond.code yX1_lost cX1_lost 3 (some .int) ∈ tb := tb_in (List.mem_of_getElem? (i := 581) (by decide +kernel)) rfl
theorem lcX1_lost : f_LC mX1_lost := ⟨tw581, tw50⟩
theorem hdX1_lost : f_hd mX1_lost 2 := ⟨⟨by decide +kernel, by decide +kernel, by decide +kernel⟩, by decide⟩
theorem tw578 : Cond.methodLink RX2 61 yX1_lost ∈ tb := tb_in (List.mem_of_getElem? (i := 578) (by decide +kernel)) rfl
theorem tw579 : Cond.instanceMethod yX1_lost ∈ tb := tb_in (List.mem_of_getElem? (i := 579) (by decide +kernel)) rfl
theorem tw580 : Cond.selects yX1_lost.cls yX1_lost yX1_lost ∈ tb := tb_in (List.mem_of_getElem? (i := 580) (by decide +kernel)) rfl
theorem mlX2_61 : f_LV RX2 61 mX1_lost 2 := ⟨lcX1_lost, tw579, tw580, Or.inl tw578, hdX1_lost⟩
abbrev mX1_outcome : f_Y := (yX1_outcome, cX1_outcome, 3, (some .int))
theorem tw585 : Cond.code yX1_outcome cX1_outcome 3 (some .int) ∈ tb := tb_in (List.mem_of_getElem? (i := 585) (by decide +kernel)) rfl
theorem lcX1_outcome : f_LC mX1_outcome := ⟨tw585, tw50⟩
theorem hdX1_outcome : f_hd mX1_outcome 2 := ⟨⟨by decide +kernel, by decide +kernel, by decide +kernel⟩, by decide⟩
theorem tw582 : Cond.methodLink RX1 43 yX1_outcome ∈ tb := tb_in (List.mem_of_getElem? (i := 582) (by decide +kernel)) rfl
theorem tw583 : Cond.instanceMethod yX1_outcome ∈ tb := tb_in (List.mem_of_getElem? (i := 583) (by decide +kernel)) rfl
theorem tw584 : Cond.selects yX1_outcome.cls yX1_outcome yX1_outcome ∈ tb := tb_in (List.mem_of_getElem? (i := 584) (by decide +kernel)) rfl
theorem mlX1_43 : f_LV RX1 43 mX1_outcome 2 := ⟨lcX1_outcome, tw583, tw584, Or.inl tw582, hdX1_outcome⟩
theorem tw586 : Cond.methodLink RX1 39 yX3_at ∈ tb := tb_in (List.mem_of_getElem? (i := 586) (by decide +kernel)) rfl
theorem mlX1_39 : f_LV RX1 39 mX3_at 1 := ⟨lcX3_at, tw347, tw348, Or.inl tw586, hdX3_at⟩
theorem tw587 : Cond.methodLink RX2 65 yX1_outcome ∈ tb := tb_in (List.mem_of_getElem? (i := 587) (by decide +kernel)) rfl
theorem mlX2_65 : f_LV RX2 65 mX1_outcome 2 := ⟨lcX1_outcome, tw583, tw584, Or.inl tw587, hdX1_outcome⟩
abbrev mX2_addWord : f_Y := (yX2_addWord, cX2_addWord, 3, none)
theorem tw591 : Cond.code yX2_addWord cX2_addWord 3 none ∈ tb := tb_in (List.mem_of_getElem? (i := 591) (by decide +kernel)) rfl
theorem lcX2_addWord : f_LC mX2_addWord := ⟨tw591, tw52⟩
theorem hdX2_addWord : f_hd mX2_addWord 2 := ⟨⟨by decide +kernel, by decide +kernel, by decide +kernel⟩, by decide⟩
theorem tw588 : Cond.methodLink RX2 71 yX2_addWord ∈ tb := tb_in (List.mem_of_getElem? (i := 588) (by decide +kernel)) rfl
theorem tw589 : Cond.instanceMethod yX2_addWord ∈ tb := tb_in (List.mem_of_getElem? (i := 589) (by decide +kernel)) rfl
theorem tw590 : Cond.selects yX2_addWord.cls yX2_addWord yX2_addWord ∈ tb := tb_in (List.mem_of_getElem? (i := 590) (by decide +kernel)) rfl
theorem mlX2_71 : f_LV RX2 71 mX2_addWord 2 := ⟨lcX2_addWord, tw589, tw590, Or.inl tw588, hdX2_addWord⟩
theorem tw592 : Cond.methodLink RX2 40 yX3_isFull ∈ tb := tb_in (List.mem_of_getElem? (i := 592) (by decide +kernel)) rfl
theorem mlX2_40 : f_LV RX2 40 mX3_isFull 0 := ⟨lcX3_isFull, tw371, tw372, Or.inl tw592, hdX3_isFull⟩
abbrev mX3_dropFirst : f_Y := (yX3_dropFirst, cX3_dropFirst, 2, none)
theorem tw596 : Cond.code yX3_dropFirst cX3_dropFirst 2 none ∈ tb := tb_in (List.mem_of_getElem? (i := 596) (by decide +kernel)) rfl
theorem lcX3_dropFirst : f_LC mX3_dropFirst := ⟨tw596, tw48⟩
theorem hdX3_dropFirst : f_hd mX3_dropFirst 0 := ⟨⟨by decide +kernel, by decide +kernel, by decide +kernel⟩, by decide⟩
theorem tw593 : Cond.methodLink RX2 44 yX3_dropFirst ∈ tb := tb_in (List.mem_of_getElem? (i := 593) (by decide +kernel)) rfl
theorem tw594 : Cond.instanceMethod yX3_dropFirst ∈ tb := tb_in (List.mem_of_getElem? (i := 594) (by decide +kernel)) rfl
theorem tw595 : Cond.selects yX3_dropFirst.cls yX3_dropFirst yX3_dropFirst ∈ tb := tb_in (List.mem_of_getElem? (i := 595) (by decide +kernel)) rfl
theorem mlX2_44 : f_LV RX2 44 mX3_dropFirst 0 := ⟨lcX3_dropFirst, tw594, tw595, Or.inl tw593, hdX3_dropFirst⟩
theorem tw597 : Cond.methodLink RX3 27 yX3_at ∈ tb := tb_in (List.mem_of_getElem? (i := 597) (by decide +kernel)) rfl
theorem mlX3_27 : f_LV RX3 27 mX3_at 1 := ⟨lcX3_at, tw347, tw348, Or.inl tw597, hdX3_at⟩
theorem tw598 : Cond.methodLink RX3 31 yX3_put ∈ tb := tb_in (List.mem_of_getElem? (i := 598) (by decide +kernel)) rfl
theorem mlX3_31 : f_LV RX3 31 mX3_put 2 := ⟨lcX3_put, tw529, tw530, Or.inl tw598, hdX3_put⟩
abbrev mX7_wordOf : f_Y := (yX7_wordOf, cX7_wordOf, 2, (some .int))
theorem tw601 : Cond.code yX7_wordOf cX7_wordOf 2 (some .int) ∈ tb := tb_in (List.mem_of_getElem? (i := 601) (by decide +kernel)) rfl
theorem lcX7_wordOf : f_LC mX7_wordOf := ⟨tw601, tw47⟩
theorem hdX7_wordOf : f_hd mX7_wordOf 2 := ⟨⟨by decide +kernel, by decide +kernel, by decide +kernel⟩, by decide⟩
theorem tw599 : Cond.methodLinkNest RX2 47 yX7_wordOf "AsWithTheLast" ∈ nw := nw_in (List.mem_of_getElem? (i := 599) (by decide +kernel)) rfl
theorem tw600 : Cond.static yX7_wordOf ∈ tb := tb_in (List.mem_of_getElem? (i := 600) (by decide +kernel)) rfl
theorem mlX2_47 : f_LS RX2 47 mX7_wordOf 2 := ⟨lcX7_wordOf, tw600, Or.inr ⟨_, tw599⟩, hdX7_wordOf⟩
theorem tw602 : Cond.methodLink RX2 51 yX3_add ∈ tb := tb_in (List.mem_of_getElem? (i := 602) (by decide +kernel)) rfl
theorem mlX2_51 : f_LV RX2 51 mX3_add 1 := ⟨lcX3_add, tw173, tw174, Or.inl tw602, hdX3_add⟩
theorem tw603 : Cond.methodLink RX7 178 yX1_outcome ∈ tb := tb_in (List.mem_of_getElem? (i := 603) (by decide +kernel)) rfl
theorem mlX7_178 : f_LV RX7 178 mX1_outcome 2 := ⟨lcX1_outcome, tw583, tw584, Or.inl tw603, hdX1_outcome⟩
abbrev mX7_teach : f_Y := (yX7_teach, cX7_teach, 3, (some .int))
theorem tw607 : Cond.code yX7_teach cX7_teach 3 (some .int) ∈ tb := tb_in (List.mem_of_getElem? (i := 607) (by decide +kernel)) rfl
theorem lcX7_teach : f_LC mX7_teach := ⟨tw607, tw47⟩
theorem hdX7_teach : f_hd mX7_teach 2 := ⟨⟨by decide +kernel, by decide +kernel, by decide +kernel⟩, by decide⟩
theorem tw604 : Cond.methodLink RL 56 yX7_teach ∈ tb := tb_in (List.mem_of_getElem? (i := 604) (by decide +kernel)) rfl
theorem tw605 : Cond.instanceMethod yX7_teach ∈ tb := tb_in (List.mem_of_getElem? (i := 605) (by decide +kernel)) rfl
theorem tw606 : Cond.selects yX7_teach.cls yX7_teach yX7_teach ∈ tb := tb_in (List.mem_of_getElem? (i := 606) (by decide +kernel)) rfl
theorem mlL_56 : f_LV RL 56 mX7_teach 2 := ⟨lcX7_teach, tw605, tw606, Or.inl tw604, hdX7_teach⟩
theorem tw608 : Cond.methodLink RX7 181 yX7_isDoing ∈ tb := tb_in (List.mem_of_getElem? (i := 608) (by decide +kernel)) rfl
theorem mlX7_181 : f_LS RX7 181 mX7_isDoing 1 := ⟨lcX7_isDoing, tw378, Or.inl tw608, hdX7_isDoing⟩
theorem tw609 : Cond.methodLink RX7 184 yX2_addWord ∈ tb := tb_in (List.mem_of_getElem? (i := 609) (by decide +kernel)) rfl
theorem mlX7_184 : f_LV RX7 184 mX2_addWord 2 := ⟨lcX2_addWord, tw589, tw590, Or.inl tw609, hdX2_addWord⟩
abbrev mX7_undo : f_Y := (yX7_undo, cX7_undo, 1, (some .int))
theorem tw613 : Cond.code yX7_undo cX7_undo 1 (some .int) ∈ tb := tb_in (List.mem_of_getElem? (i := 613) (by decide +kernel)) rfl
theorem lcX7_undo : f_LC mX7_undo := ⟨tw613, tw47⟩
theorem hdX7_undo : f_hd mX7_undo 0 := ⟨⟨by decide +kernel, by decide +kernel, by decide +kernel⟩, by decide⟩
theorem tw610 : Cond.methodLink RL 60 yX7_undo ∈ tb := tb_in (List.mem_of_getElem? (i := 610) (by decide +kernel)) rfl
theorem tw611 : Cond.instanceMethod yX7_undo ∈ tb := tb_in (List.mem_of_getElem? (i := 611) (by decide +kernel)) rfl
theorem tw612 : Cond.selects yX7_undo.cls yX7_undo yX7_undo ∈ tb := tb_in (List.mem_of_getElem? (i := 612) (by decide +kernel)) rfl
theorem mlL_60 : f_LV RL 60 mX7_undo 0 := ⟨lcX7_undo, tw611, tw612, Or.inl tw610, hdX7_undo⟩
abbrev mX6_size : f_Y := (yX6_size, cX6_size, 1, (some .int))
theorem tw617 : Cond.code yX6_size cX6_size 1 (some .int) ∈ tb := tb_in (List.mem_of_getElem? (i := 617) (by decide +kernel)) rfl
theorem lcX6_size : f_LC mX6_size := ⟨tw617, tw53⟩
theorem hdX6_size : f_hd mX6_size 0 := ⟨⟨by decide +kernel, by decide +kernel, by decide +kernel⟩, by decide⟩
theorem tw614 : Cond.methodLink RX7 188 yX6_size ∈ tb := tb_in (List.mem_of_getElem? (i := 614) (by decide +kernel)) rfl
theorem tw615 : Cond.instanceMethod yX6_size ∈ tb := tb_in (List.mem_of_getElem? (i := 615) (by decide +kernel)) rfl
theorem tw616 : Cond.selects yX6_size.cls yX6_size yX6_size ∈ tb := tb_in (List.mem_of_getElem? (i := 616) (by decide +kernel)) rfl
theorem mlX7_188 : f_LV RX7 188 mX6_size 0 := ⟨lcX6_size, tw615, tw616, Or.inl tw614, hdX6_size⟩
abbrev mX6_takeLast : f_Y := (yX6_takeLast, cX6_takeLast, 3, none)
theorem tw621 : Cond.code yX6_takeLast cX6_takeLast 3 none ∈ tb := tb_in (List.mem_of_getElem? (i := 621) (by decide +kernel)) rfl
theorem lcX6_takeLast : f_LC mX6_takeLast := ⟨tw621, tw53⟩
theorem hdX6_takeLast : f_hd mX6_takeLast 1 := ⟨⟨by decide +kernel, by decide +kernel, by decide +kernel⟩, by decide⟩
theorem tw618 : Cond.methodLink RX7 189 yX6_takeLast ∈ tb := tb_in (List.mem_of_getElem? (i := 618) (by decide +kernel)) rfl
theorem tw619 : Cond.instanceMethod yX6_takeLast ∈ tb := tb_in (List.mem_of_getElem? (i := 619) (by decide +kernel)) rfl
theorem tw620 : Cond.selects yX6_takeLast.cls yX6_takeLast yX6_takeLast ∈ tb := tb_in (List.mem_of_getElem? (i := 620) (by decide +kernel)) rfl
theorem mlX7_189 : f_LV RX7 189 mX6_takeLast 1 := ⟨lcX6_takeLast, tw619, tw620, Or.inl tw618, hdX6_takeLast⟩
abbrev mX7_tell : f_Y := (yX7_tell, cX7_tell, 2, (some .int))
theorem tw625 : Cond.code yX7_tell cX7_tell 2 (some .int) ∈ tb := tb_in (List.mem_of_getElem? (i := 625) (by decide +kernel)) rfl
theorem lcX7_tell : f_LC mX7_tell := ⟨tw625, tw47⟩
theorem hdX7_tell : f_hd mX7_tell 1 := ⟨⟨by decide +kernel, by decide +kernel, by decide +kernel⟩, by decide⟩
theorem tw622 : Cond.methodLink RL 64 yX7_tell ∈ tb := tb_in (List.mem_of_getElem? (i := 622) (by decide +kernel)) rfl
theorem tw623 : Cond.instanceMethod yX7_tell ∈ tb := tb_in (List.mem_of_getElem? (i := 623) (by decide +kernel)) rfl
theorem tw624 : Cond.selects yX7_tell.cls yX7_tell yX7_tell ∈ tb := tb_in (List.mem_of_getElem? (i := 624) (by decide +kernel)) rfl
theorem mlL_64 : f_LV RL 64 mX7_tell 1 := ⟨lcX7_tell, tw623, tw624, Or.inl tw622, hdX7_tell⟩
abbrev mX7_noRow : f_Y := (yX7_noRow, cX7_noRow, 2, (some .int))
theorem tw629 : Cond.code yX7_noRow cX7_noRow 2 (some .int) ∈ tb := tb_in (List.mem_of_getElem? (i := 629) (by decide +kernel)) rfl
theorem lcX7_noRow : f_LC mX7_noRow := ⟨tw629, tw47⟩
theorem hdX7_noRow : f_hd mX7_noRow 0 := ⟨⟨by decide +kernel, by decide +kernel, by decide +kernel⟩, by decide⟩
theorem tw626 : Cond.methodLink RL 68 yX7_noRow ∈ tb := tb_in (List.mem_of_getElem? (i := 626) (by decide +kernel)) rfl
theorem tw627 : Cond.instanceMethod yX7_noRow ∈ tb := tb_in (List.mem_of_getElem? (i := 627) (by decide +kernel)) rfl
theorem tw628 : Cond.selects yX7_noRow.cls yX7_noRow yX7_noRow ∈ tb := tb_in (List.mem_of_getElem? (i := 628) (by decide +kernel)) rfl
theorem mlL_68 : f_LV RL 68 mX7_noRow 0 := ⟨lcX7_noRow, tw627, tw628, Or.inl tw626, hdX7_noRow⟩
abbrev mX7_run : f_Y := (yX7_run, cX7_run, 7, (some .int))
theorem tw633 : Cond.code yX7_run cX7_run 7 (some .int) ∈ tb := tb_in (List.mem_of_getElem? (i := 633) (by decide +kernel)) rfl
theorem lcX7_run : f_LC mX7_run := ⟨tw633, tw47⟩
theorem hdX7_run : f_hd mX7_run 3 := ⟨⟨by decide +kernel, by decide +kernel, by decide +kernel⟩, by decide⟩
theorem tw630 : Cond.methodLink RL 72 yX7_run ∈ tb := tb_in (List.mem_of_getElem? (i := 630) (by decide +kernel)) rfl
theorem tw631 : Cond.instanceMethod yX7_run ∈ tb := tb_in (List.mem_of_getElem? (i := 631) (by decide +kernel)) rfl
theorem tw632 : Cond.selects yX7_run.cls yX7_run yX7_run ∈ tb := tb_in (List.mem_of_getElem? (i := 632) (by decide +kernel)) rfl
theorem mlL_72 : f_LV RL 72 mX7_run 3 := ⟨lcX7_run, tw631, tw632, Or.inl tw630, hdX7_run⟩
abbrev mX0_lossOfRow : f_Y := (yX0_lossOfRow, cX0_lossOfRow, 4, (some .int))
theorem tw637 : Cond.code yX0_lossOfRow cX0_lossOfRow 4 (some .int) ∈ tb := tb_in (List.mem_of_getElem? (i := 637) (by decide +kernel)) rfl
theorem lcX0_lossOfRow : f_LC mX0_lossOfRow := ⟨tw637, tw54⟩
theorem hdX0_lossOfRow : f_hd mX0_lossOfRow 0 := ⟨⟨by decide +kernel, by decide +kernel, by decide +kernel⟩, by decide⟩
theorem tw634 : Cond.methodLink RX7 192 yX0_lossOfRow ∈ tb := tb_in (List.mem_of_getElem? (i := 634) (by decide +kernel)) rfl
theorem tw635 : Cond.instanceMethod yX0_lossOfRow ∈ tb := tb_in (List.mem_of_getElem? (i := 635) (by decide +kernel)) rfl
theorem tw636 : Cond.selects yX0_lossOfRow.cls yX0_lossOfRow yX0_lossOfRow ∈ tb := tb_in (List.mem_of_getElem? (i := 636) (by decide +kernel)) rfl
theorem mlX7_192 : f_LV RX7 192 mX0_lossOfRow 0 := ⟨lcX0_lossOfRow, tw635, tw636, Or.inl tw634, hdX0_lossOfRow⟩
abbrev mX0_day : f_Y := (yX0_day, cX0_day, 3, (some .int))
theorem tw641 : Cond.code yX0_day cX0_day 3 (some .int) ∈ tb := tb_in (List.mem_of_getElem? (i := 641) (by decide +kernel)) rfl
theorem lcX0_day : f_LC mX0_day := ⟨tw641, tw54⟩
theorem hdX0_day : f_hd mX0_day 1 := ⟨⟨by decide +kernel, by decide +kernel, by decide +kernel⟩, by decide⟩
theorem tw638 : Cond.methodLink RX0 97 yX0_day ∈ tb := tb_in (List.mem_of_getElem? (i := 638) (by decide +kernel)) rfl
theorem tw639 : Cond.instanceMethod yX0_day ∈ tb := tb_in (List.mem_of_getElem? (i := 639) (by decide +kernel)) rfl
theorem tw640 : Cond.selects yX0_day.cls yX0_day yX0_day ∈ tb := tb_in (List.mem_of_getElem? (i := 640) (by decide +kernel)) rfl
theorem mlX0_97 : f_LV RX0 97 mX0_day 1 := ⟨lcX0_day, tw639, tw640, Or.inl tw638, hdX0_day⟩
theorem tw642 : Cond.methodLink RX0 85 yX0_willDo ∈ tb := tb_in (List.mem_of_getElem? (i := 642) (by decide +kernel)) rfl
theorem mlX0_85 : f_LV RX0 85 mX0_willDo 1 := ⟨lcX0_willDo, tw533, tw534, Or.inl tw642, hdX0_willDo⟩
theorem tw643 : Cond.methodLink RX0 88 yX1_outcome ∈ tb := tb_in (List.mem_of_getElem? (i := 643) (by decide +kernel)) rfl
theorem mlX0_88 : f_LV RX0 88 mX1_outcome 2 := ⟨lcX1_outcome, tw583, tw584, Or.inl tw643, hdX1_outcome⟩
theorem tw644 : Cond.methodLink RX0 100 yX1_lost ∈ tb := tb_in (List.mem_of_getElem? (i := 644) (by decide +kernel)) rfl
theorem mlX0_100 : f_LV RX0 100 mX1_lost 2 := ⟨lcX1_lost, tw579, tw580, Or.inl tw644, hdX1_lost⟩
abbrev mX0_firstGoodOfRow : f_Y := (yX0_firstGoodOfRow, cX0_firstGoodOfRow, 3, (some .int))
theorem tw648 : Cond.code yX0_firstGoodOfRow cX0_firstGoodOfRow 3 (some .int) ∈ tb := tb_in (List.mem_of_getElem? (i := 648) (by decide +kernel)) rfl
theorem lcX0_firstGoodOfRow : f_LC mX0_firstGoodOfRow := ⟨tw648, tw54⟩
theorem hdX0_firstGoodOfRow : f_hd mX0_firstGoodOfRow 0 := ⟨⟨by decide +kernel, by decide +kernel, by decide +kernel⟩, by decide⟩
theorem tw645 : Cond.methodLink RX7 195 yX0_firstGoodOfRow ∈ tb := tb_in (List.mem_of_getElem? (i := 645) (by decide +kernel)) rfl
theorem tw646 : Cond.instanceMethod yX0_firstGoodOfRow ∈ tb := tb_in (List.mem_of_getElem? (i := 646) (by decide +kernel)) rfl
theorem tw647 : Cond.selects yX0_firstGoodOfRow.cls yX0_firstGoodOfRow yX0_firstGoodOfRow ∈ tb := tb_in (List.mem_of_getElem? (i := 647) (by decide +kernel)) rfl
theorem mlX7_195 : f_LV RX7 195 mX0_firstGoodOfRow 0 := ⟨lcX0_firstGoodOfRow, tw646, tw647, Or.inl tw645, hdX0_firstGoodOfRow⟩
theorem tw649 : Cond.methodLink RX7 198 yX0_day ∈ tb := tb_in (List.mem_of_getElem? (i := 649) (by decide +kernel)) rfl
theorem mlX7_198 : f_LV RX7 198 mX0_day 1 := ⟨lcX0_day, tw639, tw640, Or.inl tw649, hdX0_day⟩
abbrev mX7_round : f_Y := (yX7_round, cX7_round, 2, (some .int))
theorem tw653 : Cond.code yX7_round cX7_round 2 (some .int) ∈ tb := tb_in (List.mem_of_getElem? (i := 653) (by decide +kernel)) rfl
theorem lcX7_round : f_LC mX7_round := ⟨tw653, tw47⟩
theorem hdX7_round : f_hd mX7_round 0 := ⟨⟨by decide +kernel, by decide +kernel, by decide +kernel⟩, by decide⟩
theorem tw650 : Cond.methodLink RL 77 yX7_round ∈ tb := tb_in (List.mem_of_getElem? (i := 650) (by decide +kernel)) rfl
theorem tw651 : Cond.instanceMethod yX7_round ∈ tb := tb_in (List.mem_of_getElem? (i := 651) (by decide +kernel)) rfl
theorem tw652 : Cond.selects yX7_round.cls yX7_round yX7_round ∈ tb := tb_in (List.mem_of_getElem? (i := 652) (by decide +kernel)) rfl
theorem mlL_77 : f_LV RL 77 mX7_round 0 := ⟨lcX7_round, tw651, tw652, Or.inl tw650, hdX7_round⟩
abbrev mX7_fillTimes : f_Y := (yX7_fillTimes, cX7_fillTimes, 4, none)
theorem tw657 : Cond.code yX7_fillTimes cX7_fillTimes 4 none ∈ tb := tb_in (List.mem_of_getElem? (i := 657) (by decide +kernel)) rfl
theorem lcX7_fillTimes : f_LC mX7_fillTimes := ⟨tw657, tw47⟩
theorem hdX7_fillTimes : f_hd mX7_fillTimes 1 := ⟨⟨by decide +kernel, by decide +kernel, by decide +kernel⟩, by decide⟩
theorem tw654 : Cond.methodLink RX7 201 yX7_fillTimes ∈ tb := tb_in (List.mem_of_getElem? (i := 654) (by decide +kernel)) rfl
theorem tw656 : Cond.instanceMethod yX7_fillTimes ∈ tb := tb_in (List.mem_of_getElem? (i := 656) (by decide +kernel)) rfl
theorem tw10 : Cond.selects yX7_fillTimes.cls yX7_fillTimes yX7_fillTimes ∈ tb := tb_in (List.mem_of_getElem? (i := 10) (by decide +kernel)) rfl
theorem mlX7_201 : f_LV RX7 201 mX7_fillTimes 1 := ⟨lcX7_fillTimes, tw656, tw10, Or.inl tw654, hdX7_fillTimes⟩
abbrev mX0_doingsOfRow : f_Y := (yX0_doingsOfRow, cX0_doingsOfRow, 3, (some .int))
theorem tw661 : Cond.code yX0_doingsOfRow cX0_doingsOfRow 3 (some .int) ∈ tb := tb_in (List.mem_of_getElem? (i := 661) (by decide +kernel)) rfl
theorem lcX0_doingsOfRow : f_LC mX0_doingsOfRow := ⟨tw661, tw54⟩
theorem hdX0_doingsOfRow : f_hd mX0_doingsOfRow 0 := ⟨⟨by decide +kernel, by decide +kernel, by decide +kernel⟩, by decide⟩
theorem tw658 : Cond.methodLink RX7 284 yX0_doingsOfRow ∈ tb := tb_in (List.mem_of_getElem? (i := 658) (by decide +kernel)) rfl
theorem tw659 : Cond.instanceMethod yX0_doingsOfRow ∈ tb := tb_in (List.mem_of_getElem? (i := 659) (by decide +kernel)) rfl
theorem tw660 : Cond.selects yX0_doingsOfRow.cls yX0_doingsOfRow yX0_doingsOfRow ∈ tb := tb_in (List.mem_of_getElem? (i := 660) (by decide +kernel)) rfl
theorem mlX7_284 : f_LV RX7 284 mX0_doingsOfRow 0 := ⟨lcX0_doingsOfRow, tw659, tw660, Or.inl tw658, hdX0_doingsOfRow⟩
abbrev mX7_comesRoundAfter : f_Y := (yX7_comesRoundAfter, cX7_comesRoundAfter, 4, (some .boolean))
theorem tw665 : Cond.code yX7_comesRoundAfter cX7_comesRoundAfter 4 (some .boolean) ∈ tb := tb_in (List.mem_of_getElem? (i := 665) (by decide +kernel)) rfl
theorem lcX7_comesRoundAfter : f_LC mX7_comesRoundAfter := ⟨tw665, tw47⟩
theorem hdX7_comesRoundAfter : f_hd mX7_comesRoundAfter 1 := ⟨⟨by decide +kernel, by decide +kernel, by decide +kernel⟩, by decide⟩
theorem tw662 : Cond.methodLink RX7 205 yX7_comesRoundAfter ∈ tb := tb_in (List.mem_of_getElem? (i := 662) (by decide +kernel)) rfl
theorem tw664 : Cond.instanceMethod yX7_comesRoundAfter ∈ tb := tb_in (List.mem_of_getElem? (i := 664) (by decide +kernel)) rfl
theorem tw11 : Cond.selects yX7_comesRoundAfter.cls yX7_comesRoundAfter yX7_comesRoundAfter ∈ tb := tb_in (List.mem_of_getElem? (i := 11) (by decide +kernel)) rfl
theorem mlX7_205 : f_LV RX7 205 mX7_comesRoundAfter 1 := ⟨lcX7_comesRoundAfter, tw664, tw11, Or.inl tw662, hdX7_comesRoundAfter⟩
abbrev mX7_order : f_Y := (yX7_order, cX7_order, 3, (some .int))
theorem tw669 : Cond.code yX7_order cX7_order 3 (some .int) ∈ tb := tb_in (List.mem_of_getElem? (i := 669) (by decide +kernel)) rfl
theorem lcX7_order : f_LC mX7_order := ⟨tw669, tw47⟩
theorem hdX7_order : f_hd mX7_order 1 := ⟨⟨by decide +kernel, by decide +kernel, by decide +kernel⟩, by decide⟩
theorem tw666 : Cond.methodLink RL 81 yX7_order ∈ tb := tb_in (List.mem_of_getElem? (i := 666) (by decide +kernel)) rfl
theorem tw667 : Cond.instanceMethod yX7_order ∈ tb := tb_in (List.mem_of_getElem? (i := 667) (by decide +kernel)) rfl
theorem tw668 : Cond.selects yX7_order.cls yX7_order yX7_order ∈ tb := tb_in (List.mem_of_getElem? (i := 668) (by decide +kernel)) rfl
theorem mlL_81 : f_LV RL 81 mX7_order 1 := ⟨lcX7_order, tw667, tw668, Or.inl tw666, hdX7_order⟩
abbrev mX4_seek : f_Y := (yX4_seek, cX4_seek, 3, none)
theorem tw673 : Cond.code yX4_seek cX4_seek 3 none ∈ tb := tb_in (List.mem_of_getElem? (i := 673) (by decide +kernel)) rfl
theorem tw55 : Cond.initialized RX4 ∈ tb := tb_in (List.mem_of_getElem? (i := 55) (by decide +kernel)) rfl
theorem lcX4_seek : f_LC mX4_seek := ⟨tw673, tw55⟩
theorem hdX4_seek : f_hd mX4_seek 1 := ⟨⟨by decide +kernel, by decide +kernel, by decide +kernel⟩, by decide⟩
theorem tw670 : Cond.methodLink RX7 208 yX4_seek ∈ tb := tb_in (List.mem_of_getElem? (i := 670) (by decide +kernel)) rfl
theorem tw671 : Cond.instanceMethod yX4_seek ∈ tb := tb_in (List.mem_of_getElem? (i := 671) (by decide +kernel)) rfl
theorem tw672 : Cond.selects yX4_seek.cls yX4_seek yX4_seek ∈ tb := tb_in (List.mem_of_getElem? (i := 672) (by decide +kernel)) rfl
theorem mlX7_208 : f_LV RX7 208 mX4_seek 1 := ⟨lcX4_seek, tw671, tw672, Or.inl tw670, hdX4_seek⟩
theorem tw674 : Cond.methodLink RX4 30 yX3_fill ∈ tb := tb_in (List.mem_of_getElem? (i := 674) (by decide +kernel)) rfl
theorem mlX4_30 : f_LV RX4 30 mX3_fill 2 := ⟨lcX3_fill, tw169, tw170, Or.inl tw674, hdX3_fill⟩
theorem tw675 : Cond.methodLink RX4 39 yX3_size ∈ tb := tb_in (List.mem_of_getElem? (i := 675) (by decide +kernel)) rfl
theorem mlX4_39 : f_LV RX4 39 mX3_size 0 := ⟨lcX3_size, tw339, tw340, Or.inl tw675, hdX3_size⟩
theorem tw676 : Cond.methodLink RX4 43 yX3_at ∈ tb := tb_in (List.mem_of_getElem? (i := 676) (by decide +kernel)) rfl
theorem mlX4_43 : f_LV RX4 43 mX3_at 1 := ⟨lcX3_at, tw347, tw348, Or.inl tw676, hdX3_at⟩
abbrev mX4_addLeft : f_Y := (yX4_addLeft, cX4_addLeft, 3, none)
theorem tw680 : Cond.code yX4_addLeft cX4_addLeft 3 none ∈ tb := tb_in (List.mem_of_getElem? (i := 680) (by decide +kernel)) rfl
theorem lcX4_addLeft : f_LC mX4_addLeft := ⟨tw680, tw55⟩
theorem hdX4_addLeft : f_hd mX4_addLeft 2 := ⟨⟨by decide +kernel, by decide +kernel, by decide +kernel⟩, by decide⟩
theorem tw677 : Cond.methodLink RX4 47 yX4_addLeft ∈ tb := tb_in (List.mem_of_getElem? (i := 677) (by decide +kernel)) rfl
theorem tw679 : Cond.instanceMethod yX4_addLeft ∈ tb := tb_in (List.mem_of_getElem? (i := 679) (by decide +kernel)) rfl
theorem tw12 : Cond.selects yX4_addLeft.cls yX4_addLeft yX4_addLeft ∈ tb := tb_in (List.mem_of_getElem? (i := 12) (by decide +kernel)) rfl
theorem mlX4_47 : f_LV RX4 47 mX4_addLeft 2 := ⟨lcX4_addLeft, tw679, tw12, Or.inl tw677, hdX4_addLeft⟩
theorem tw681 : Cond.methodLink RX4 59 yX3_put ∈ tb := tb_in (List.mem_of_getElem? (i := 681) (by decide +kernel)) rfl
theorem mlX4_59 : f_LV RX4 59 mX3_put 2 := ⟨lcX3_put, tw529, tw530, Or.inl tw681, hdX3_put⟩
abbrev mX4_tryFrom : f_Y := (yX4_tryFrom, cX4_tryFrom, 6, none)
theorem tw686 : Cond.code yX4_tryFrom cX4_tryFrom 6 none ∈ tb := tb_in (List.mem_of_getElem? (i := 686) (by decide +kernel)) rfl
theorem lcX4_tryFrom : f_LC mX4_tryFrom := ⟨tw686, tw55⟩
theorem hdX4_tryFrom : f_hd mX4_tryFrom 3 := ⟨⟨by decide +kernel, by decide +kernel, by decide +kernel⟩, by decide⟩
theorem tw683 : Cond.methodLink RX4 55 yX4_tryFrom ∈ tb := tb_in (List.mem_of_getElem? (i := 683) (by decide +kernel)) rfl
theorem tw685 : Cond.instanceMethod yX4_tryFrom ∈ tb := tb_in (List.mem_of_getElem? (i := 685) (by decide +kernel)) rfl
theorem tw13 : Cond.selects yX4_tryFrom.cls yX4_tryFrom yX4_tryFrom ∈ tb := tb_in (List.mem_of_getElem? (i := 13) (by decide +kernel)) rfl
theorem mlX4_55 : f_LV RX4 55 mX4_tryFrom 3 := ⟨lcX4_tryFrom, tw685, tw13, Or.inl tw683, hdX4_tryFrom⟩
theorem tw687 : Cond.methodLink RX4 62 yX3_copyFrom ∈ tb := tb_in (List.mem_of_getElem? (i := 687) (by decide +kernel)) rfl
theorem mlX4_62 : f_LV RX4 62 mX3_copyFrom 1 := ⟨lcX3_copyFrom, tw398, tw399, Or.inl tw687, hdX3_copyFrom⟩
theorem tw688 : Cond.methodLink RX4 66 yX1_kinds ∈ tb := tb_in (List.mem_of_getElem? (i := 688) (by decide +kernel)) rfl
theorem mlX4_66 : f_LV RX4 66 mX1_kinds 0 := ⟨lcX1_kinds, tw465, tw466, Or.inl tw688, hdX1_kinds⟩
abbrev mX0_stepDown : f_Y := (yX0_stepDown, cX0_stepDown, 1, (some (.object "AsWithTheLast$Learner")))
theorem tw692 : Cond.code yX0_stepDown cX0_stepDown 1 (some (.object "AsWithTheLast$Learner")) ∈ tb := tb_in (List.mem_of_getElem? (i := 692) (by decide +kernel)) rfl
theorem lcX0_stepDown : f_LC mX0_stepDown := ⟨tw692, tw54⟩
theorem hdX0_stepDown : f_hd mX0_stepDown 0 := ⟨⟨by decide +kernel, by decide +kernel, by decide +kernel⟩, by decide⟩
theorem tw689 : Cond.methodLink RX4 69 yX0_stepDown ∈ tb := tb_in (List.mem_of_getElem? (i := 689) (by decide +kernel)) rfl
theorem tw690 : Cond.instanceMethod yX0_stepDown ∈ tb := tb_in (List.mem_of_getElem? (i := 690) (by decide +kernel)) rfl
theorem tw691 : Cond.selects yX0_stepDown.cls yX0_stepDown yX0_stepDown ∈ tb := tb_in (List.mem_of_getElem? (i := 691) (by decide +kernel)) rfl
theorem mlX4_69 : f_LV RX4 69 mX0_stepDown 0 := ⟨lcX0_stepDown, tw690, tw691, Or.inl tw689, hdX0_stepDown⟩
abbrev mX0_copyFrom : f_Y := (yX0_copyFrom, cX0_copyFrom, 2, none)
theorem tw696 : Cond.code yX0_copyFrom cX0_copyFrom 2 none ∈ tb := tb_in (List.mem_of_getElem? (i := 696) (by decide +kernel)) rfl
theorem lcX0_copyFrom : f_LC mX0_copyFrom := ⟨tw696, tw54⟩
theorem hdX0_copyFrom : f_hd mX0_copyFrom 1 := ⟨⟨by decide +kernel, by decide +kernel, by decide +kernel⟩, by decide⟩
theorem tw693 : Cond.methodLink RX0 103 yX0_copyFrom ∈ tb := tb_in (List.mem_of_getElem? (i := 693) (by decide +kernel)) rfl
theorem tw695 : Cond.instanceMethod yX0_copyFrom ∈ tb := tb_in (List.mem_of_getElem? (i := 695) (by decide +kernel)) rfl
theorem tw14 : Cond.selects yX0_copyFrom.cls yX0_copyFrom yX0_copyFrom ∈ tb := tb_in (List.mem_of_getElem? (i := 14) (by decide +kernel)) rfl
theorem mlX0_103 : f_LV RX0 103 mX0_copyFrom 1 := ⟨lcX0_copyFrom, tw695, tw14, Or.inl tw693, hdX0_copyFrom⟩
theorem tw697 : Cond.methodLink RX0 107 yX3_copyFrom ∈ tb := tb_in (List.mem_of_getElem? (i := 697) (by decide +kernel)) rfl
theorem mlX0_107 : f_LV RX0 107 mX3_copyFrom 1 := ⟨lcX3_copyFrom, tw398, tw399, Or.inl tw697, hdX3_copyFrom⟩
theorem tw698 : Cond.methodLink RX4 75 yX0_day ∈ tb := tb_in (List.mem_of_getElem? (i := 698) (by decide +kernel)) rfl
theorem mlX4_75 : f_LV RX4 75 mX0_day 1 := ⟨lcX0_day, tw639, tw640, Or.inl tw698, hdX0_day⟩
theorem tw699 : Cond.methodLink RX4 78 yX1_lost ∈ tb := tb_in (List.mem_of_getElem? (i := 699) (by decide +kernel)) rfl
theorem mlX4_78 : f_LV RX4 78 mX1_lost 2 := ⟨lcX1_lost, tw579, tw580, Or.inl tw699, hdX1_lost⟩
abbrev mX7_best : f_Y := (yX7_best, cX7_best, 8, (some .int))
theorem tw703 : Cond.code yX7_best cX7_best 8 (some .int) ∈ tb := tb_in (List.mem_of_getElem? (i := 703) (by decide +kernel)) rfl
theorem lcX7_best : f_LC mX7_best := ⟨tw703, tw47⟩
theorem hdX7_best : f_hd mX7_best 1 := ⟨⟨by decide +kernel, by decide +kernel, by decide +kernel⟩, by decide⟩
theorem tw700 : Cond.methodLink RL 85 yX7_best ∈ tb := tb_in (List.mem_of_getElem? (i := 700) (by decide +kernel)) rfl
theorem tw701 : Cond.instanceMethod yX7_best ∈ tb := tb_in (List.mem_of_getElem? (i := 701) (by decide +kernel)) rfl
theorem tw702 : Cond.selects yX7_best.cls yX7_best yX7_best ∈ tb := tb_in (List.mem_of_getElem? (i := 702) (by decide +kernel)) rfl
theorem mlL_85 : f_LV RL 85 mX7_best 1 := ⟨lcX7_best, tw701, tw702, Or.inl tw700, hdX7_best⟩
theorem tw704 : Cond.methodLink RX7 217 yX0_hear ∈ tb := tb_in (List.mem_of_getElem? (i := 704) (by decide +kernel)) rfl
theorem mlX7_217 : f_LV RX7 217 mX0_hear 2 := ⟨lcX0_hear, tw525, tw526, Or.inl tw704, hdX0_hear⟩
theorem tw705 : Cond.methodLink RX7 220 yX7_wordOf ∈ tb := tb_in (List.mem_of_getElem? (i := 705) (by decide +kernel)) rfl
theorem mlX7_220 : f_LS RX7 220 mX7_wordOf 2 := ⟨lcX7_wordOf, tw600, Or.inl tw705, hdX7_wordOf⟩
abbrev mX7_seen : f_Y := (yX7_seen, cX7_seen, 3, (some .int))
theorem tw709 : Cond.code yX7_seen cX7_seen 3 (some .int) ∈ tb := tb_in (List.mem_of_getElem? (i := 709) (by decide +kernel)) rfl
theorem lcX7_seen : f_LC mX7_seen := ⟨tw709, tw47⟩
theorem hdX7_seen : f_hd mX7_seen 2 := ⟨⟨by decide +kernel, by decide +kernel, by decide +kernel⟩, by decide⟩
theorem tw706 : Cond.methodLink RL 89 yX7_seen ∈ tb := tb_in (List.mem_of_getElem? (i := 706) (by decide +kernel)) rfl
theorem tw707 : Cond.instanceMethod yX7_seen ∈ tb := tb_in (List.mem_of_getElem? (i := 707) (by decide +kernel)) rfl
theorem tw708 : Cond.selects yX7_seen.cls yX7_seen yX7_seen ∈ tb := tb_in (List.mem_of_getElem? (i := 708) (by decide +kernel)) rfl
theorem mlL_89 : f_LV RL 89 mX7_seen 2 := ⟨lcX7_seen, tw707, tw708, Or.inl tw706, hdX7_seen⟩
abbrev mX7_forget : f_Y := (yX7_forget, cX7_forget, 2, (some .int))
theorem tw713 : Cond.code yX7_forget cX7_forget 2 (some .int) ∈ tb := tb_in (List.mem_of_getElem? (i := 713) (by decide +kernel)) rfl
theorem lcX7_forget : f_LC mX7_forget := ⟨tw713, tw47⟩
theorem hdX7_forget : f_hd mX7_forget 0 := ⟨⟨by decide +kernel, by decide +kernel, by decide +kernel⟩, by decide⟩
theorem tw710 : Cond.methodLink RL 93 yX7_forget ∈ tb := tb_in (List.mem_of_getElem? (i := 710) (by decide +kernel)) rfl
theorem tw711 : Cond.instanceMethod yX7_forget ∈ tb := tb_in (List.mem_of_getElem? (i := 711) (by decide +kernel)) rfl
theorem tw712 : Cond.selects yX7_forget.cls yX7_forget yX7_forget ∈ tb := tb_in (List.mem_of_getElem? (i := 712) (by decide +kernel)) rfl
theorem mlL_93 : f_LV RL 93 mX7_forget 0 := ⟨lcX7_forget, tw711, tw712, Or.inl tw710, hdX7_forget⟩
abbrev mX7_fits : f_Y := (yX7_fits, cX7_fits, 3, (some .int))
theorem tw717 : Cond.code yX7_fits cX7_fits 3 (some .int) ∈ tb := tb_in (List.mem_of_getElem? (i := 717) (by decide +kernel)) rfl
theorem lcX7_fits : f_LC mX7_fits := ⟨tw717, tw47⟩
theorem hdX7_fits : f_hd mX7_fits 0 := ⟨⟨by decide +kernel, by decide +kernel, by decide +kernel⟩, by decide⟩
theorem tw714 : Cond.methodLink RL 97 yX7_fits ∈ tb := tb_in (List.mem_of_getElem? (i := 714) (by decide +kernel)) rfl
theorem tw715 : Cond.instanceMethod yX7_fits ∈ tb := tb_in (List.mem_of_getElem? (i := 715) (by decide +kernel)) rfl
theorem tw716 : Cond.selects yX7_fits.cls yX7_fits yX7_fits ∈ tb := tb_in (List.mem_of_getElem? (i := 716) (by decide +kernel)) rfl
theorem mlL_97 : f_LV RL 97 mX7_fits 0 := ⟨lcX7_fits, tw715, tw716, Or.inl tw714, hdX7_fits⟩
abbrev mX7_canBe : f_Y := (yX7_canBe, cX7_canBe, 5, (some .boolean))
theorem tw721 : Cond.code yX7_canBe cX7_canBe 5 (some .boolean) ∈ tb := tb_in (List.mem_of_getElem? (i := 721) (by decide +kernel)) rfl
theorem lcX7_canBe : f_LC mX7_canBe := ⟨tw721, tw47⟩
theorem hdX7_canBe : f_hd mX7_canBe 2 := ⟨⟨by decide +kernel, by decide +kernel, by decide +kernel⟩, by decide⟩
theorem tw718 : Cond.methodLink RX7 226 yX7_canBe ∈ tb := tb_in (List.mem_of_getElem? (i := 718) (by decide +kernel)) rfl
theorem tw720 : Cond.instanceMethod yX7_canBe ∈ tb := tb_in (List.mem_of_getElem? (i := 720) (by decide +kernel)) rfl
theorem tw15 : Cond.selects yX7_canBe.cls yX7_canBe yX7_canBe ∈ tb := tb_in (List.mem_of_getElem? (i := 15) (by decide +kernel)) rfl
theorem mlX7_226 : f_LV RX7 226 mX7_canBe 2 := ⟨lcX7_canBe, tw720, tw15, Or.inl tw718, hdX7_canBe⟩
abbrev mX7_speaksAgainst : f_Y := (yX7_speaksAgainst, cX7_speaksAgainst, 5, (some .boolean))
theorem tw725 : Cond.code yX7_speaksAgainst cX7_speaksAgainst 5 (some .boolean) ∈ tb := tb_in (List.mem_of_getElem? (i := 725) (by decide +kernel)) rfl
theorem lcX7_speaksAgainst : f_LC mX7_speaksAgainst := ⟨tw725, tw47⟩
theorem hdX7_speaksAgainst : f_hd mX7_speaksAgainst 2 := ⟨⟨by decide +kernel, by decide +kernel, by decide +kernel⟩, by decide⟩
theorem tw722 : Cond.methodLink RX7 287 yX7_speaksAgainst ∈ tb := tb_in (List.mem_of_getElem? (i := 722) (by decide +kernel)) rfl
theorem tw724 : Cond.instanceMethod yX7_speaksAgainst ∈ tb := tb_in (List.mem_of_getElem? (i := 724) (by decide +kernel)) rfl
theorem tw16 : Cond.selects yX7_speaksAgainst.cls yX7_speaksAgainst yX7_speaksAgainst ∈ tb := tb_in (List.mem_of_getElem? (i := 16) (by decide +kernel)) rfl
theorem mlX7_287 : f_LV RX7 287 mX7_speaksAgainst 2 := ⟨lcX7_speaksAgainst, tw724, tw16, Or.inl tw722, hdX7_speaksAgainst⟩
abbrev mX7_firsts : f_Y := (yX7_firsts, cX7_firsts, 4, (some .int))
theorem tw729 : Cond.code yX7_firsts cX7_firsts 4 (some .int) ∈ tb := tb_in (List.mem_of_getElem? (i := 729) (by decide +kernel)) rfl
theorem lcX7_firsts : f_LC mX7_firsts := ⟨tw729, tw47⟩
theorem hdX7_firsts : f_hd mX7_firsts 1 := ⟨⟨by decide +kernel, by decide +kernel, by decide +kernel⟩, by decide⟩
theorem tw726 : Cond.methodLink RL 101 yX7_firsts ∈ tb := tb_in (List.mem_of_getElem? (i := 726) (by decide +kernel)) rfl
theorem tw727 : Cond.instanceMethod yX7_firsts ∈ tb := tb_in (List.mem_of_getElem? (i := 727) (by decide +kernel)) rfl
theorem tw728 : Cond.selects yX7_firsts.cls yX7_firsts yX7_firsts ∈ tb := tb_in (List.mem_of_getElem? (i := 728) (by decide +kernel)) rfl
theorem mlL_101 : f_LV RL 101 mX7_firsts 1 := ⟨lcX7_firsts, tw727, tw728, Or.inl tw726, hdX7_firsts⟩
abbrev mX7_ask : f_Y := (yX7_ask, cX7_ask, 7, (some .int))
theorem tw733 : Cond.code yX7_ask cX7_ask 7 (some .int) ∈ tb := tb_in (List.mem_of_getElem? (i := 733) (by decide +kernel)) rfl
theorem lcX7_ask : f_LC mX7_ask := ⟨tw733, tw47⟩
theorem hdX7_ask : f_hd mX7_ask 1 := ⟨⟨by decide +kernel, by decide +kernel, by decide +kernel⟩, by decide⟩
theorem tw730 : Cond.methodLink RL 105 yX7_ask ∈ tb := tb_in (List.mem_of_getElem? (i := 730) (by decide +kernel)) rfl
theorem tw731 : Cond.instanceMethod yX7_ask ∈ tb := tb_in (List.mem_of_getElem? (i := 731) (by decide +kernel)) rfl
theorem tw732 : Cond.selects yX7_ask.cls yX7_ask yX7_ask ∈ tb := tb_in (List.mem_of_getElem? (i := 732) (by decide +kernel)) rfl
theorem mlL_105 : f_LV RL 105 mX7_ask 1 := ⟨lcX7_ask, tw731, tw732, Or.inl tw730, hdX7_ask⟩
theorem tw734 : Cond.methodLink RX7 230 yX7_fits ∈ tb := tb_in (List.mem_of_getElem? (i := 734) (by decide +kernel)) rfl
theorem mlX7_230 : f_LV RX7 230 mX7_fits 0 := ⟨lcX7_fits, tw715, tw716, Or.inl tw734, hdX7_fits⟩
abbrev mX7_mostAlike : f_Y := (yX7_mostAlike, cX7_mostAlike, 6, (some .int))
theorem tw738 : Cond.code yX7_mostAlike cX7_mostAlike 6 (some .int) ∈ tb := tb_in (List.mem_of_getElem? (i := 738) (by decide +kernel)) rfl
theorem lcX7_mostAlike : f_LC mX7_mostAlike := ⟨tw738, tw47⟩
theorem hdX7_mostAlike : f_hd mX7_mostAlike 2 := ⟨⟨by decide +kernel, by decide +kernel, by decide +kernel⟩, by decide⟩
theorem tw735 : Cond.methodLink RX7 233 yX7_mostAlike ∈ tb := tb_in (List.mem_of_getElem? (i := 735) (by decide +kernel)) rfl
theorem tw737 : Cond.instanceMethod yX7_mostAlike ∈ tb := tb_in (List.mem_of_getElem? (i := 737) (by decide +kernel)) rfl
theorem tw17 : Cond.selects yX7_mostAlike.cls yX7_mostAlike yX7_mostAlike ∈ tb := tb_in (List.mem_of_getElem? (i := 17) (by decide +kernel)) rfl
theorem mlX7_233 : f_LV RX7 233 mX7_mostAlike 2 := ⟨lcX7_mostAlike, tw737, tw17, Or.inl tw735, hdX7_mostAlike⟩
theorem tw739 : Cond.methodLink RX7 290 yX3_fill ∈ tb := tb_in (List.mem_of_getElem? (i := 739) (by decide +kernel)) rfl
theorem mlX7_290 : f_LV RX7 290 mX3_fill 2 := ⟨lcX3_fill, tw169, tw170, Or.inl tw739, hdX3_fill⟩
theorem tw740 : Cond.methodLink RX7 293 yX3_put ∈ tb := tb_in (List.mem_of_getElem? (i := 740) (by decide +kernel)) rfl
theorem mlX7_293 : f_LV RX7 293 mX3_put 2 := ⟨lcX3_put, tw529, tw530, Or.inl tw740, hdX3_put⟩
theorem mlX7_296 : Cond.methodLink RX7 296 Lib.Math.max.name ∈ tb := tb_in (List.mem_of_getElem? (i := 741) (by decide +kernel)) (by decide +kernel)
abbrev mX7_rule : f_Y := (yX7_rule, cX7_rule, 6, (some .int))
theorem tw745 : Cond.code yX7_rule cX7_rule 6 (some .int) ∈ tb := tb_in (List.mem_of_getElem? (i := 745) (by decide +kernel)) rfl
theorem lcX7_rule : f_LC mX7_rule := ⟨tw745, tw47⟩
theorem hdX7_rule : f_hd mX7_rule 1 := ⟨⟨by decide +kernel, by decide +kernel, by decide +kernel⟩, by decide⟩
theorem tw742 : Cond.methodLink RL 109 yX7_rule ∈ tb := tb_in (List.mem_of_getElem? (i := 742) (by decide +kernel)) rfl
theorem tw743 : Cond.instanceMethod yX7_rule ∈ tb := tb_in (List.mem_of_getElem? (i := 743) (by decide +kernel)) rfl
theorem tw744 : Cond.selects yX7_rule.cls yX7_rule yX7_rule ∈ tb := tb_in (List.mem_of_getElem? (i := 744) (by decide +kernel)) rfl
theorem mlL_109 : f_LV RL 109 mX7_rule 1 := ⟨lcX7_rule, tw743, tw744, Or.inl tw742, hdX7_rule⟩
abbrev mX7_firstWrong : f_Y := (yX7_firstWrong, cX7_firstWrong, 7, (some .int))
theorem tw750 : Cond.code yX7_firstWrong cX7_firstWrong 7 (some .int) ∈ tb := tb_in (List.mem_of_getElem? (i := 750) (by decide +kernel)) rfl
theorem lcX7_firstWrong : f_LC mX7_firstWrong := ⟨tw750, tw47⟩
theorem hdX7_firstWrong : f_hd mX7_firstWrong 3 := ⟨⟨by decide +kernel, by decide +kernel, by decide +kernel⟩, by decide⟩
theorem tw747 : Cond.methodLink RX7 242 yX7_firstWrong ∈ tb := tb_in (List.mem_of_getElem? (i := 747) (by decide +kernel)) rfl
theorem tw749 : Cond.instanceMethod yX7_firstWrong ∈ tb := tb_in (List.mem_of_getElem? (i := 749) (by decide +kernel)) rfl
theorem tw18 : Cond.selects yX7_firstWrong.cls yX7_firstWrong yX7_firstWrong ∈ tb := tb_in (List.mem_of_getElem? (i := 18) (by decide +kernel)) rfl
theorem mlX7_242 : f_LV RX7 242 mX7_firstWrong 3 := ⟨lcX7_firstWrong, tw749, tw18, Or.inl tw747, hdX7_firstWrong⟩
abbrev mX7_wrong : f_Y := (yX7_wrong, cX7_wrong, 4, (some .int))
theorem tw754 : Cond.code yX7_wrong cX7_wrong 4 (some .int) ∈ tb := tb_in (List.mem_of_getElem? (i := 754) (by decide +kernel)) rfl
theorem lcX7_wrong : f_LC mX7_wrong := ⟨tw754, tw47⟩
theorem hdX7_wrong : f_hd mX7_wrong 3 := ⟨⟨by decide +kernel, by decide +kernel, by decide +kernel⟩, by decide⟩
theorem tw751 : Cond.methodLink RL 113 yX7_wrong ∈ tb := tb_in (List.mem_of_getElem? (i := 751) (by decide +kernel)) rfl
theorem tw752 : Cond.instanceMethod yX7_wrong ∈ tb := tb_in (List.mem_of_getElem? (i := 752) (by decide +kernel)) rfl
theorem tw753 : Cond.selects yX7_wrong.cls yX7_wrong yX7_wrong ∈ tb := tb_in (List.mem_of_getElem? (i := 753) (by decide +kernel)) rfl
theorem mlL_113 : f_LV RL 113 mX7_wrong 3 := ⟨lcX7_wrong, tw752, tw753, Or.inl tw751, hdX7_wrong⟩
abbrev mX7_byTurns : f_Y := (yX7_byTurns, cX7_byTurns, 2, (some .int))
theorem tw758 : Cond.code yX7_byTurns cX7_byTurns 2 (some .int) ∈ tb := tb_in (List.mem_of_getElem? (i := 758) (by decide +kernel)) rfl
theorem lcX7_byTurns : f_LC mX7_byTurns := ⟨tw758, tw47⟩
theorem hdX7_byTurns : f_hd mX7_byTurns 1 := ⟨⟨by decide +kernel, by decide +kernel, by decide +kernel⟩, by decide⟩
theorem tw755 : Cond.methodLink RL 118 yX7_byTurns ∈ tb := tb_in (List.mem_of_getElem? (i := 755) (by decide +kernel)) rfl
theorem tw756 : Cond.instanceMethod yX7_byTurns ∈ tb := tb_in (List.mem_of_getElem? (i := 756) (by decide +kernel)) rfl
theorem tw757 : Cond.selects yX7_byTurns.cls yX7_byTurns yX7_byTurns ∈ tb := tb_in (List.mem_of_getElem? (i := 757) (by decide +kernel)) rfl
theorem mlL_118 : f_LV RL 118 mX7_byTurns 1 := ⟨lcX7_byTurns, tw756, tw757, Or.inl tw755, hdX7_byTurns⟩
abbrev mX7_lossAtMothersTurn : f_Y := (yX7_lossAtMothersTurn, cX7_lossAtMothersTurn, 7, (some .int))
theorem tw761 : Cond.code yX7_lossAtMothersTurn cX7_lossAtMothersTurn 7 (some .int) ∈ tb := tb_in (List.mem_of_getElem? (i := 761) (by decide +kernel)) rfl
theorem lcX7_lossAtMothersTurn : f_LC mX7_lossAtMothersTurn := ⟨tw761, tw47⟩
theorem hdX7_lossAtMothersTurn : f_hd mX7_lossAtMothersTurn 4 := ⟨⟨by decide +kernel, by decide +kernel, by decide +kernel⟩, by decide⟩
theorem tw759 : Cond.methodLink RX7 246 yX7_lossAtMothersTurn ∈ tb := tb_in (List.mem_of_getElem? (i := 759) (by decide +kernel)) rfl
theorem tw760 : Cond.static yX7_lossAtMothersTurn ∈ tb := tb_in (List.mem_of_getElem? (i := 760) (by decide +kernel)) rfl
theorem mlX7_246 : f_LS RX7 246 mX7_lossAtMothersTurn 4 := ⟨lcX7_lossAtMothersTurn, tw760, Or.inl tw759, hdX7_lossAtMothersTurn⟩
abbrev mX7_lossAtOthersTurn : f_Y := (yX7_lossAtOthersTurn, cX7_lossAtOthersTurn, 8, (some .int))
theorem tw764 : Cond.code yX7_lossAtOthersTurn cX7_lossAtOthersTurn 8 (some .int) ∈ tb := tb_in (List.mem_of_getElem? (i := 764) (by decide +kernel)) rfl
theorem lcX7_lossAtOthersTurn : f_LC mX7_lossAtOthersTurn := ⟨tw764, tw47⟩
theorem hdX7_lossAtOthersTurn : f_hd mX7_lossAtOthersTurn 4 := ⟨⟨by decide +kernel, by decide +kernel, by decide +kernel⟩, by decide⟩
theorem tw762 : Cond.methodLink RX7 309 yX7_lossAtOthersTurn ∈ tb := tb_in (List.mem_of_getElem? (i := 762) (by decide +kernel)) rfl
theorem tw763 : Cond.static yX7_lossAtOthersTurn ∈ tb := tb_in (List.mem_of_getElem? (i := 763) (by decide +kernel)) rfl
theorem mlX7_309 : f_LS RX7 309 mX7_lossAtOthersTurn 4 := ⟨lcX7_lossAtOthersTurn, tw763, Or.inl tw762, hdX7_lossAtOthersTurn⟩
theorem tw765 : Cond.methodLink RX7 265 yX1_lost ∈ tb := tb_in (List.mem_of_getElem? (i := 765) (by decide +kernel)) rfl
theorem mlX7_265 : f_LV RX7 265 mX1_lost 2 := ⟨lcX1_lost, tw579, tw580, Or.inl tw765, hdX1_lost⟩
theorem tw766 : Cond.methodLink RX7 312 yX0_stepDown ∈ tb := tb_in (List.mem_of_getElem? (i := 766) (by decide +kernel)) rfl
theorem mlX7_312 : f_LV RX7 312 mX0_stepDown 0 := ⟨lcX0_stepDown, tw690, tw691, Or.inl tw766, hdX0_stepDown⟩
theorem mlX7_316 : Cond.methodLink RX7 316 Lib.Math.min.name ∈ tb := tb_in (List.mem_of_getElem? (i := 767) (by decide +kernel)) (by decide +kernel)
abbrev mX7_mean : f_Y := (yX7_mean, cX7_mean, 7, (some .int))
theorem tw771 : Cond.code yX7_mean cX7_mean 7 (some .int) ∈ tb := tb_in (List.mem_of_getElem? (i := 771) (by decide +kernel)) rfl
theorem lcX7_mean : f_LC mX7_mean := ⟨tw771, tw47⟩
theorem hdX7_mean : f_hd mX7_mean 2 := ⟨⟨by decide +kernel, by decide +kernel, by decide +kernel⟩, by decide⟩
theorem tw768 : Cond.methodLink RL 122 yX7_mean ∈ tb := tb_in (List.mem_of_getElem? (i := 768) (by decide +kernel)) rfl
theorem tw769 : Cond.instanceMethod yX7_mean ∈ tb := tb_in (List.mem_of_getElem? (i := 769) (by decide +kernel)) rfl
theorem tw770 : Cond.selects yX7_mean.cls yX7_mean yX7_mean ∈ tb := tb_in (List.mem_of_getElem? (i := 770) (by decide +kernel)) rfl
theorem mlL_122 : f_LV RL 122 mX7_mean 2 := ⟨lcX7_mean, tw769, tw770, Or.inl tw768, hdX7_mean⟩
abbrev mX1_allChances : f_Y := (yX1_allChances, cX1_allChances, 3, (some .int))
theorem tw775 : Cond.code yX1_allChances cX1_allChances 3 (some .int) ∈ tb := tb_in (List.mem_of_getElem? (i := 775) (by decide +kernel)) rfl
theorem lcX1_allChances : f_LC mX1_allChances := ⟨tw775, tw50⟩
theorem hdX1_allChances : f_hd mX1_allChances 0 := ⟨⟨by decide +kernel, by decide +kernel, by decide +kernel⟩, by decide⟩
theorem tw772 : Cond.methodLink RX7 250 yX1_allChances ∈ tb := tb_in (List.mem_of_getElem? (i := 772) (by decide +kernel)) rfl
theorem tw773 : Cond.instanceMethod yX1_allChances ∈ tb := tb_in (List.mem_of_getElem? (i := 773) (by decide +kernel)) rfl
theorem tw774 : Cond.selects yX1_allChances.cls yX1_allChances yX1_allChances ∈ tb := tb_in (List.mem_of_getElem? (i := 774) (by decide +kernel)) rfl
theorem mlX7_250 : f_LV RX7 250 mX1_allChances 0 := ⟨lcX1_allChances, tw773, tw774, Or.inl tw772, hdX1_allChances⟩
abbrev mX7_lossByChances : f_Y := (yX7_lossByChances, cX7_lossByChances, 8, (some .int))
theorem tw778 : Cond.code yX7_lossByChances cX7_lossByChances 8 (some .int) ∈ tb := tb_in (List.mem_of_getElem? (i := 778) (by decide +kernel)) rfl
theorem lcX7_lossByChances : f_LC mX7_lossByChances := ⟨tw778, tw47⟩
theorem hdX7_lossByChances : f_hd mX7_lossByChances 4 := ⟨⟨by decide +kernel, by decide +kernel, by decide +kernel⟩, by decide⟩
theorem tw776 : Cond.methodLink RX7 253 yX7_lossByChances ∈ tb := tb_in (List.mem_of_getElem? (i := 776) (by decide +kernel)) rfl
theorem tw777 : Cond.static yX7_lossByChances ∈ tb := tb_in (List.mem_of_getElem? (i := 777) (by decide +kernel)) rfl
theorem mlX7_253 : f_LS RX7 253 mX7_lossByChances 4 := ⟨lcX7_lossByChances, tw777, Or.inl tw776, hdX7_lossByChances⟩
abbrev mX7_power : f_Y := (yX7_power, cX7_power, 4, (some .int))
theorem tw781 : Cond.code yX7_power cX7_power 4 (some .int) ∈ tb := tb_in (List.mem_of_getElem? (i := 781) (by decide +kernel)) rfl
theorem lcX7_power : f_LC mX7_power := ⟨tw781, tw47⟩
theorem hdX7_power : f_hd mX7_power 2 := ⟨⟨by decide +kernel, by decide +kernel, by decide +kernel⟩, by decide⟩
theorem tw779 : Cond.methodLink RX7 256 yX7_power ∈ tb := tb_in (List.mem_of_getElem? (i := 779) (by decide +kernel)) rfl
theorem tw780 : Cond.static yX7_power ∈ tb := tb_in (List.mem_of_getElem? (i := 780) (by decide +kernel)) rfl
theorem mlX7_256 : f_LS RX7 256 mX7_power 2 := ⟨lcX7_power, tw780, Or.inl tw779, hdX7_power⟩
abbrev mX7_greatestDivisor : f_Y := (yX7_greatestDivisor, cX7_greatestDivisor, 6, (some .int))
theorem tw784 : Cond.code yX7_greatestDivisor cX7_greatestDivisor 6 (some .int) ∈ tb := tb_in (List.mem_of_getElem? (i := 784) (by decide +kernel)) rfl
theorem lcX7_greatestDivisor : f_LC mX7_greatestDivisor := ⟨tw784, tw47⟩
theorem hdX7_greatestDivisor : f_hd mX7_greatestDivisor 2 := ⟨⟨by decide +kernel, by decide +kernel, by decide +kernel⟩, by decide⟩
theorem tw782 : Cond.methodLink RX7 259 yX7_greatestDivisor ∈ tb := tb_in (List.mem_of_getElem? (i := 782) (by decide +kernel)) rfl
theorem tw783 : Cond.static yX7_greatestDivisor ∈ tb := tb_in (List.mem_of_getElem? (i := 783) (by decide +kernel)) rfl
theorem mlX7_259 : f_LS RX7 259 mX7_greatestDivisor 2 := ⟨lcX7_greatestDivisor, tw783, Or.inl tw782, hdX7_greatestDivisor⟩
abbrev mX7_year : f_Y := (yX7_year, cX7_year, 10, (some .int))
theorem tw788 : Cond.code yX7_year cX7_year 10 (some .int) ∈ tb := tb_in (List.mem_of_getElem? (i := 788) (by decide +kernel)) rfl
theorem lcX7_year : f_LC mX7_year := ⟨tw788, tw47⟩
theorem hdX7_year : f_hd mX7_year 3 := ⟨⟨by decide +kernel, by decide +kernel, by decide +kernel⟩, by decide⟩
theorem tw785 : Cond.methodLink RL 126 yX7_year ∈ tb := tb_in (List.mem_of_getElem? (i := 785) (by decide +kernel)) rfl
theorem tw786 : Cond.instanceMethod yX7_year ∈ tb := tb_in (List.mem_of_getElem? (i := 786) (by decide +kernel)) rfl
theorem tw787 : Cond.selects yX7_year.cls yX7_year yX7_year ∈ tb := tb_in (List.mem_of_getElem? (i := 787) (by decide +kernel)) rfl
theorem mlL_126 : f_LV RL 126 mX7_year 3 := ⟨lcX7_year, tw786, tw787, Or.inl tw785, hdX7_year⟩
abbrev mX7_drawnKind : f_Y := (yX7_drawnKind, cX7_drawnKind, 6, (some .int))
theorem tw792 : Cond.code yX7_drawnKind cX7_drawnKind 6 (some .int) ∈ tb := tb_in (List.mem_of_getElem? (i := 792) (by decide +kernel)) rfl
theorem lcX7_drawnKind : f_LC mX7_drawnKind := ⟨tw792, tw47⟩
theorem hdX7_drawnKind : f_hd mX7_drawnKind 2 := ⟨⟨by decide +kernel, by decide +kernel, by decide +kernel⟩, by decide⟩
theorem tw789 : Cond.methodLink RX7 262 yX7_drawnKind ∈ tb := tb_in (List.mem_of_getElem? (i := 789) (by decide +kernel)) rfl
theorem tw791 : Cond.instanceMethod yX7_drawnKind ∈ tb := tb_in (List.mem_of_getElem? (i := 791) (by decide +kernel)) rfl
theorem tw19 : Cond.selects yX7_drawnKind.cls yX7_drawnKind yX7_drawnKind ∈ tb := tb_in (List.mem_of_getElem? (i := 19) (by decide +kernel)) rfl
theorem mlX7_262 : f_LV RX7 262 mX7_drawnKind 2 := ⟨lcX7_drawnKind, tw791, tw19, Or.inl tw789, hdX7_drawnKind⟩
abbrev mX7_keep : f_Y := (yX7_keep, cX7_keep, 1, (some .int))
theorem tw800 : Cond.code yX7_keep cX7_keep 1 (some .int) ∈ tb := tb_in (List.mem_of_getElem? (i := 800) (by decide +kernel)) rfl
theorem lcX7_keep : f_LC mX7_keep := ⟨tw800, tw47⟩
theorem hdX7_keep : f_hd mX7_keep 0 := ⟨⟨by decide +kernel, by decide +kernel, by decide +kernel⟩, by decide⟩
theorem tw797 : Cond.methodLink RL 130 yX7_keep ∈ tb := tb_in (List.mem_of_getElem? (i := 797) (by decide +kernel)) rfl
theorem tw798 : Cond.instanceMethod yX7_keep ∈ tb := tb_in (List.mem_of_getElem? (i := 798) (by decide +kernel)) rfl
theorem tw799 : Cond.selects yX7_keep.cls yX7_keep yX7_keep ∈ tb := tb_in (List.mem_of_getElem? (i := 799) (by decide +kernel)) rfl
theorem mlL_130 : f_LV RL 130 mX7_keep 0 := ⟨lcX7_keep, tw798, tw799, Or.inl tw797, hdX7_keep⟩
theorem tw801 : Cond.methodLink RX7 268 yX6_isFull ∈ tb := tb_in (List.mem_of_getElem? (i := 801) (by decide +kernel)) rfl
theorem mlX7_268 : f_LV RX7 268 mX6_isFull 0 := ⟨lcX6_isFull, tw556, tw557, Or.inl tw801, hdX6_isFull⟩
abbrev mX7_back : f_Y := (yX7_back, cX7_back, 1, (some .int))
theorem tw805 : Cond.code yX7_back cX7_back 1 (some .int) ∈ tb := tb_in (List.mem_of_getElem? (i := 805) (by decide +kernel)) rfl
theorem lcX7_back : f_LC mX7_back := ⟨tw805, tw47⟩
theorem hdX7_back : f_hd mX7_back 0 := ⟨⟨by decide +kernel, by decide +kernel, by decide +kernel⟩, by decide⟩
theorem tw802 : Cond.methodLink RL 134 yX7_back ∈ tb := tb_in (List.mem_of_getElem? (i := 802) (by decide +kernel)) rfl
theorem tw803 : Cond.instanceMethod yX7_back ∈ tb := tb_in (List.mem_of_getElem? (i := 803) (by decide +kernel)) rfl
theorem tw804 : Cond.selects yX7_back.cls yX7_back yX7_back ∈ tb := tb_in (List.mem_of_getElem? (i := 804) (by decide +kernel)) rfl
theorem mlL_134 : f_LV RL 134 mX7_back 0 := ⟨lcX7_back, tw803, tw804, Or.inl tw802, hdX7_back⟩
abbrev mX7_count : f_Y := (yX7_count, cX7_count, 2, (some .int))
theorem tw809 : Cond.code yX7_count cX7_count 2 (some .int) ∈ tb := tb_in (List.mem_of_getElem? (i := 809) (by decide +kernel)) rfl
theorem lcX7_count : f_LC mX7_count := ⟨tw809, tw47⟩
theorem hdX7_count : f_hd mX7_count 1 := ⟨⟨by decide +kernel, by decide +kernel, by decide +kernel⟩, by decide⟩
theorem tw806 : Cond.methodLink RL 138 yX7_count ∈ tb := tb_in (List.mem_of_getElem? (i := 806) (by decide +kernel)) rfl
theorem tw807 : Cond.instanceMethod yX7_count ∈ tb := tb_in (List.mem_of_getElem? (i := 807) (by decide +kernel)) rfl
theorem tw808 : Cond.selects yX7_count.cls yX7_count yX7_count ∈ tb := tb_in (List.mem_of_getElem? (i := 808) (by decide +kernel)) rfl
theorem mlL_138 : f_LV RL 138 mX7_count 1 := ⟨lcX7_count, tw807, tw808, Or.inl tw806, hdX7_count⟩
abbrev mX8_tellKind : f_Y := (yX8_tellKind, cX8_tellKind, 6, none)
theorem tw819 : Cond.code yX8_tellKind cX8_tellKind 6 none ∈ tb := tb_in (List.mem_of_getElem? (i := 819) (by decide +kernel)) rfl
theorem tw61 : Cond.initialized RX8 ∈ tb := tb_in (List.mem_of_getElem? (i := 61) (by decide +kernel)) rfl
theorem lcX8_tellKind : f_LC mX8_tellKind := ⟨tw819, tw61⟩
theorem hdX8_tellKind : f_hd mX8_tellKind 5 := ⟨⟨by decide +kernel, by decide +kernel, by decide +kernel⟩, by decide⟩
theorem tw816 : Cond.methodLink RX8 67 yX8_tellKind ∈ tb := tb_in (List.mem_of_getElem? (i := 816) (by decide +kernel)) rfl
theorem tw818 : Cond.instanceMethod yX8_tellKind ∈ tb := tb_in (List.mem_of_getElem? (i := 818) (by decide +kernel)) rfl
theorem tw20 : Cond.selects yX8_tellKind.cls yX8_tellKind yX8_tellKind ∈ tb := tb_in (List.mem_of_getElem? (i := 20) (by decide +kernel)) rfl
theorem mlX8_67 : f_LV RX8 67 mX8_tellKind 5 := ⟨lcX8_tellKind, tw818, tw20, Or.inl tw816, hdX8_tellKind⟩
abbrev mX8_write : f_Y := (yX8_write, cX8_write, 2, (some .int))
theorem tw923 : Cond.code yX8_write cX8_write 2 (some .int) ∈ tb := tb_in (List.mem_of_getElem? (i := 923) (by decide +kernel)) rfl
theorem lcX8_write : f_LC mX8_write := ⟨tw923, tw61⟩
theorem hdX8_write : f_hd mX8_write 1 := ⟨⟨by decide +kernel, by decide +kernel, by decide +kernel⟩, by decide⟩
theorem tw920 : Cond.methodLink RL 17 yX8_write ∈ tb := tb_in (List.mem_of_getElem? (i := 920) (by decide +kernel)) rfl
theorem tw921 : Cond.instanceMethod yX8_write ∈ tb := tb_in (List.mem_of_getElem? (i := 921) (by decide +kernel)) rfl
theorem tw922 : Cond.selects yX8_write.cls yX8_write yX8_write ∈ tb := tb_in (List.mem_of_getElem? (i := 922) (by decide +kernel)) rfl
theorem mlL_17 : f_LV RL 17 mX8_write 1 := ⟨lcX8_write, tw921, tw922, Or.inl tw920, hdX8_write⟩
abbrev mX8_in : f_Y := (yX8_in, cX8_in, 6, (some .boolean))
theorem tw928 : Cond.code yX8_in cX8_in 6 (some .boolean) ∈ tb := tb_in (List.mem_of_getElem? (i := 928) (by decide +kernel)) rfl
theorem lcX8_in : f_LC mX8_in := ⟨tw928, tw61⟩
theorem hdX8_in : f_hd mX8_in 3 := ⟨⟨by decide +kernel, by decide +kernel, by decide +kernel⟩, by decide⟩
theorem tw926 : Cond.methodLink RX8 78 yX8_in ∈ tb := tb_in (List.mem_of_getElem? (i := 926) (by decide +kernel)) rfl
theorem tw927 : Cond.static yX8_in ∈ tb := tb_in (List.mem_of_getElem? (i := 927) (by decide +kernel)) rfl
theorem mlX8_78 : f_LS RX8 78 mX8_in 3 := ⟨lcX8_in, tw927, Or.inl tw926, hdX8_in⟩
abbrev mX8_wipe : f_Y := (yX8_wipe, cX8_wipe, 2, (some .int))
theorem tw932 : Cond.code yX8_wipe cX8_wipe 2 (some .int) ∈ tb := tb_in (List.mem_of_getElem? (i := 932) (by decide +kernel)) rfl
theorem lcX8_wipe : f_LC mX8_wipe := ⟨tw932, tw61⟩
theorem hdX8_wipe : f_hd mX8_wipe 0 := ⟨⟨by decide +kernel, by decide +kernel, by decide +kernel⟩, by decide⟩
theorem tw929 : Cond.methodLink RL 22 yX8_wipe ∈ tb := tb_in (List.mem_of_getElem? (i := 929) (by decide +kernel)) rfl
theorem tw930 : Cond.instanceMethod yX8_wipe ∈ tb := tb_in (List.mem_of_getElem? (i := 930) (by decide +kernel)) rfl
theorem tw931 : Cond.selects yX8_wipe.cls yX8_wipe yX8_wipe ∈ tb := tb_in (List.mem_of_getElem? (i := 931) (by decide +kernel)) rfl
theorem mlL_22 : f_LV RL 22 mX8_wipe 0 := ⟨lcX8_wipe, tw930, tw931, Or.inl tw929, hdX8_wipe⟩
abbrev mX8_fault : f_Y := (yX8_fault, cX8_fault, 2, (some .int))
theorem tw936 : Cond.code yX8_fault cX8_fault 2 (some .int) ∈ tb := tb_in (List.mem_of_getElem? (i := 936) (by decide +kernel)) rfl
theorem lcX8_fault : f_LC mX8_fault := ⟨tw936, tw61⟩
theorem hdX8_fault : f_hd mX8_fault 0 := ⟨⟨by decide +kernel, by decide +kernel, by decide +kernel⟩, by decide⟩
theorem tw933 : Cond.methodLink RL 26 yX8_fault ∈ tb := tb_in (List.mem_of_getElem? (i := 933) (by decide +kernel)) rfl
theorem tw934 : Cond.instanceMethod yX8_fault ∈ tb := tb_in (List.mem_of_getElem? (i := 934) (by decide +kernel)) rfl
theorem tw935 : Cond.selects yX8_fault.cls yX8_fault yX8_fault ∈ tb := tb_in (List.mem_of_getElem? (i := 935) (by decide +kernel)) rfl
theorem mlL_26 : f_LV RL 26 mX8_fault 0 := ⟨lcX8_fault, tw934, tw935, Or.inl tw933, hdX8_fault⟩
abbrev mX8_readItem : f_Y := (yX8_readItem, cX8_readItem, 4, (some .boolean))
theorem tw940 : Cond.code yX8_readItem cX8_readItem 4 (some .boolean) ∈ tb := tb_in (List.mem_of_getElem? (i := 940) (by decide +kernel)) rfl
theorem lcX8_readItem : f_LC mX8_readItem := ⟨tw940, tw61⟩
theorem hdX8_readItem : f_hd mX8_readItem 0 := ⟨⟨by decide +kernel, by decide +kernel, by decide +kernel⟩, by decide⟩
theorem tw937 : Cond.methodLink RX8 129 yX8_readItem ∈ tb := tb_in (List.mem_of_getElem? (i := 937) (by decide +kernel)) rfl
theorem tw939 : Cond.instanceMethod yX8_readItem ∈ tb := tb_in (List.mem_of_getElem? (i := 939) (by decide +kernel)) rfl
theorem tw21 : Cond.selects yX8_readItem.cls yX8_readItem yX8_readItem ∈ tb := tb_in (List.mem_of_getElem? (i := 21) (by decide +kernel)) rfl
theorem mlX8_129 : f_LV RX8 129 mX8_readItem 0 := ⟨lcX8_readItem, tw939, tw21, Or.inl tw937, hdX8_readItem⟩
abbrev mX8_readNumbers : f_Y := (yX8_readNumbers, cX8_readNumbers, 6, (some .boolean))
theorem tw944 : Cond.code yX8_readNumbers cX8_readNumbers 6 (some .boolean) ∈ tb := tb_in (List.mem_of_getElem? (i := 944) (by decide +kernel)) rfl
theorem lcX8_readNumbers : f_LC mX8_readNumbers := ⟨tw944, tw61⟩
theorem hdX8_readNumbers : f_hd mX8_readNumbers 1 := ⟨⟨by decide +kernel, by decide +kernel, by decide +kernel⟩, by decide⟩
theorem tw941 : Cond.methodLink RX8 113 yX8_readNumbers ∈ tb := tb_in (List.mem_of_getElem? (i := 941) (by decide +kernel)) rfl
theorem tw943 : Cond.instanceMethod yX8_readNumbers ∈ tb := tb_in (List.mem_of_getElem? (i := 943) (by decide +kernel)) rfl
theorem tw22 : Cond.selects yX8_readNumbers.cls yX8_readNumbers yX8_readNumbers ∈ tb := tb_in (List.mem_of_getElem? (i := 22) (by decide +kernel)) rfl
theorem mlX8_113 : f_LV RX8 113 mX8_readNumbers 1 := ⟨lcX8_readNumbers, tw943, tw22, Or.inl tw941, hdX8_readNumbers⟩
abbrev mX8_readKind : f_Y := (yX8_readKind, cX8_readKind, 3, (some .boolean))
theorem tw950 : Cond.code yX8_readKind cX8_readKind 3 (some .boolean) ∈ tb := tb_in (List.mem_of_getElem? (i := 950) (by decide +kernel)) rfl
theorem lcX8_readKind : f_LC mX8_readKind := ⟨tw950, tw61⟩
theorem hdX8_readKind : f_hd mX8_readKind 0 := ⟨⟨by decide +kernel, by decide +kernel, by decide +kernel⟩, by decide⟩
theorem tw947 : Cond.methodLink RX8 116 yX8_readKind ∈ tb := tb_in (List.mem_of_getElem? (i := 947) (by decide +kernel)) rfl
theorem tw949 : Cond.instanceMethod yX8_readKind ∈ tb := tb_in (List.mem_of_getElem? (i := 949) (by decide +kernel)) rfl
theorem tw23 : Cond.selects yX8_readKind.cls yX8_readKind yX8_readKind ∈ tb := tb_in (List.mem_of_getElem? (i := 23) (by decide +kernel)) rfl
theorem mlX8_116 : f_LV RX8 116 mX8_readKind 0 := ⟨lcX8_readKind, tw949, tw23, Or.inl tw947, hdX8_readKind⟩
abbrev mX8_isDoing : f_Y := (yX8_isDoing, cX8_isDoing, 1, (some .boolean))
theorem tw954 : Cond.code yX8_isDoing cX8_isDoing 1 (some .boolean) ∈ tb := tb_in (List.mem_of_getElem? (i := 954) (by decide +kernel)) rfl
theorem lcX8_isDoing : f_LC mX8_isDoing := ⟨tw954, tw61⟩
theorem hdX8_isDoing : f_hd mX8_isDoing 1 := ⟨⟨by decide +kernel, by decide +kernel, by decide +kernel⟩, by decide⟩
theorem tw952 : Cond.methodLink RX8 103 yX8_isDoing ∈ tb := tb_in (List.mem_of_getElem? (i := 952) (by decide +kernel)) rfl
theorem tw953 : Cond.static yX8_isDoing ∈ tb := tb_in (List.mem_of_getElem? (i := 953) (by decide +kernel)) rfl
theorem mlX8_103 : f_LS RX8 103 mX8_isDoing 1 := ⟨lcX8_isDoing, tw953, Or.inl tw952, hdX8_isDoing⟩
abbrev mX8_lay : f_Y := (yX8_lay, cX8_lay, 2, (some .int))
theorem tw962 : Cond.code yX8_lay cX8_lay 2 (some .int) ∈ tb := tb_in (List.mem_of_getElem? (i := 962) (by decide +kernel)) rfl
theorem lcX8_lay : f_LC mX8_lay := ⟨tw962, tw61⟩
theorem hdX8_lay : f_hd mX8_lay 0 := ⟨⟨by decide +kernel, by decide +kernel, by decide +kernel⟩, by decide⟩
theorem tw959 : Cond.methodLink RL 30 yX8_lay ∈ tb := tb_in (List.mem_of_getElem? (i := 959) (by decide +kernel)) rfl
theorem tw960 : Cond.instanceMethod yX8_lay ∈ tb := tb_in (List.mem_of_getElem? (i := 960) (by decide +kernel)) rfl
theorem tw961 : Cond.selects yX8_lay.cls yX8_lay yX8_lay ∈ tb := tb_in (List.mem_of_getElem? (i := 961) (by decide +kernel)) rfl
theorem mlL_30 : f_LV RL 30 mX8_lay 0 := ⟨lcX8_lay, tw960, tw961, Or.inl tw959, hdX8_lay⟩
theorem tw963 : Cond.methodLink RX8 132 yX8_fault ∈ tb := tb_in (List.mem_of_getElem? (i := 963) (by decide +kernel)) rfl
theorem mlX8_132 : f_LV RX8 132 mX8_fault 0 := ⟨lcX8_fault, tw934, tw935, Or.inl tw963, hdX8_fault⟩
abbrev mX8_kind : f_Y := (yX8_kind, cX8_kind, 3, (some .int))
theorem tw967 : Cond.code yX8_kind cX8_kind 3 (some .int) ∈ tb := tb_in (List.mem_of_getElem? (i := 967) (by decide +kernel)) rfl
theorem lcX8_kind : f_LC mX8_kind := ⟨tw967, tw61⟩
theorem hdX8_kind : f_hd mX8_kind 2 := ⟨⟨by decide +kernel, by decide +kernel, by decide +kernel⟩, by decide⟩
theorem tw964 : Cond.methodLink RL 35 yX8_kind ∈ tb := tb_in (List.mem_of_getElem? (i := 964) (by decide +kernel)) rfl
theorem tw965 : Cond.instanceMethod yX8_kind ∈ tb := tb_in (List.mem_of_getElem? (i := 965) (by decide +kernel)) rfl
theorem tw966 : Cond.selects yX8_kind.cls yX8_kind yX8_kind ∈ tb := tb_in (List.mem_of_getElem? (i := 966) (by decide +kernel)) rfl
theorem mlL_35 : f_LV RL 35 mX8_kind 2 := ⟨lcX8_kind, tw965, tw966, Or.inl tw964, hdX8_kind⟩
abbrev mX8_isKind : f_Y := (yX8_isKind, cX8_isKind, 2, (some .boolean))
theorem tw971 : Cond.code yX8_isKind cX8_isKind 2 (some .boolean) ∈ tb := tb_in (List.mem_of_getElem? (i := 971) (by decide +kernel)) rfl
theorem lcX8_isKind : f_LC mX8_isKind := ⟨tw971, tw61⟩
theorem hdX8_isKind : f_hd mX8_isKind 1 := ⟨⟨by decide +kernel, by decide +kernel, by decide +kernel⟩, by decide⟩
theorem tw968 : Cond.methodLink RX8 151 yX8_isKind ∈ tb := tb_in (List.mem_of_getElem? (i := 968) (by decide +kernel)) rfl
theorem tw970 : Cond.instanceMethod yX8_isKind ∈ tb := tb_in (List.mem_of_getElem? (i := 970) (by decide +kernel)) rfl
theorem tw24 : Cond.selects yX8_isKind.cls yX8_isKind yX8_isKind ∈ tb := tb_in (List.mem_of_getElem? (i := 24) (by decide +kernel)) rfl
theorem mlX8_151 : f_LV RX8 151 mX8_isKind 1 := ⟨lcX8_isKind, tw970, tw24, Or.inl tw968, hdX8_isKind⟩
abbrev mX8_errand : f_Y := (yX8_errand, cX8_errand, 2, (some .int))
theorem tw975 : Cond.code yX8_errand cX8_errand 2 (some .int) ∈ tb := tb_in (List.mem_of_getElem? (i := 975) (by decide +kernel)) rfl
theorem lcX8_errand : f_LC mX8_errand := ⟨tw975, tw61⟩
theorem hdX8_errand : f_hd mX8_errand 1 := ⟨⟨by decide +kernel, by decide +kernel, by decide +kernel⟩, by decide⟩
theorem tw972 : Cond.methodLink RL 39 yX8_errand ∈ tb := tb_in (List.mem_of_getElem? (i := 972) (by decide +kernel)) rfl
theorem tw973 : Cond.instanceMethod yX8_errand ∈ tb := tb_in (List.mem_of_getElem? (i := 973) (by decide +kernel)) rfl
theorem tw974 : Cond.selects yX8_errand.cls yX8_errand yX8_errand ∈ tb := tb_in (List.mem_of_getElem? (i := 974) (by decide +kernel)) rfl
theorem mlL_39 : f_LV RL 39 mX8_errand 1 := ⟨lcX8_errand, tw973, tw974, Or.inl tw972, hdX8_errand⟩
abbrev mX8_word : f_Y := (yX8_word, cX8_word, 2, (some .int))
theorem tw979 : Cond.code yX8_word cX8_word 2 (some .int) ∈ tb := tb_in (List.mem_of_getElem? (i := 979) (by decide +kernel)) rfl
theorem lcX8_word : f_LC mX8_word := ⟨tw979, tw61⟩
theorem hdX8_word : f_hd mX8_word 1 := ⟨⟨by decide +kernel, by decide +kernel, by decide +kernel⟩, by decide⟩
theorem tw976 : Cond.methodLink RL 43 yX8_word ∈ tb := tb_in (List.mem_of_getElem? (i := 976) (by decide +kernel)) rfl
theorem tw977 : Cond.instanceMethod yX8_word ∈ tb := tb_in (List.mem_of_getElem? (i := 977) (by decide +kernel)) rfl
theorem tw978 : Cond.selects yX8_word.cls yX8_word yX8_word ∈ tb := tb_in (List.mem_of_getElem? (i := 978) (by decide +kernel)) rfl
theorem mlL_43 : f_LV RL 43 mX8_word 1 := ⟨lcX8_word, tw977, tw978, Or.inl tw976, hdX8_word⟩
abbrev mX8_unlike : f_Y := (yX8_unlike, cX8_unlike, 3, (some .int))
theorem tw983 : Cond.code yX8_unlike cX8_unlike 3 (some .int) ∈ tb := tb_in (List.mem_of_getElem? (i := 983) (by decide +kernel)) rfl
theorem lcX8_unlike : f_LC mX8_unlike := ⟨tw983, tw61⟩
theorem hdX8_unlike : f_hd mX8_unlike 2 := ⟨⟨by decide +kernel, by decide +kernel, by decide +kernel⟩, by decide⟩
theorem tw980 : Cond.methodLink RL 47 yX8_unlike ∈ tb := tb_in (List.mem_of_getElem? (i := 980) (by decide +kernel)) rfl
theorem tw981 : Cond.instanceMethod yX8_unlike ∈ tb := tb_in (List.mem_of_getElem? (i := 981) (by decide +kernel)) rfl
theorem tw982 : Cond.selects yX8_unlike.cls yX8_unlike yX8_unlike ∈ tb := tb_in (List.mem_of_getElem? (i := 982) (by decide +kernel)) rfl
theorem mlL_47 : f_LV RL 47 mX8_unlike 2 := ⟨lcX8_unlike, tw981, tw982, Or.inl tw980, hdX8_unlike⟩
abbrev mX8_unlikeOf : f_Y := (yX8_unlikeOf, cX8_unlikeOf, 3, (some .int))
theorem tw987 : Cond.code yX8_unlikeOf cX8_unlikeOf 3 (some .int) ∈ tb := tb_in (List.mem_of_getElem? (i := 987) (by decide +kernel)) rfl
theorem lcX8_unlikeOf : f_LC mX8_unlikeOf := ⟨tw987, tw61⟩
theorem hdX8_unlikeOf : f_hd mX8_unlikeOf 2 := ⟨⟨by decide +kernel, by decide +kernel, by decide +kernel⟩, by decide⟩
theorem tw984 : Cond.methodLink RX8 158 yX8_unlikeOf ∈ tb := tb_in (List.mem_of_getElem? (i := 984) (by decide +kernel)) rfl
theorem tw986 : Cond.instanceMethod yX8_unlikeOf ∈ tb := tb_in (List.mem_of_getElem? (i := 986) (by decide +kernel)) rfl
theorem tw25 : Cond.selects yX8_unlikeOf.cls yX8_unlikeOf yX8_unlikeOf ∈ tb := tb_in (List.mem_of_getElem? (i := 25) (by decide +kernel)) rfl
theorem mlX8_158 : f_LV RX8 158 mX8_unlikeOf 2 := ⟨lcX8_unlikeOf, tw986, tw25, Or.inl tw984, hdX8_unlikeOf⟩
abbrev mX8_ones : f_Y := (yX8_ones, cX8_ones, 3, (some .int))
theorem tw990 : Cond.code yX8_ones cX8_ones 3 (some .int) ∈ tb := tb_in (List.mem_of_getElem? (i := 990) (by decide +kernel)) rfl
theorem lcX8_ones : f_LC mX8_ones := ⟨tw990, tw61⟩
theorem hdX8_ones : f_hd mX8_ones 1 := ⟨⟨by decide +kernel, by decide +kernel, by decide +kernel⟩, by decide⟩
theorem tw988 : Cond.methodLink RX8 154 yX8_ones ∈ tb := tb_in (List.mem_of_getElem? (i := 988) (by decide +kernel)) rfl
theorem tw989 : Cond.static yX8_ones ∈ tb := tb_in (List.mem_of_getElem? (i := 989) (by decide +kernel)) rfl
theorem mlX8_154 : f_LS RX8 154 mX8_ones 1 := ⟨lcX8_ones, tw989, Or.inl tw988, hdX8_ones⟩
abbrev mX8_does : f_Y := (yX8_does, cX8_does, 3, (some .int))
theorem tw994 : Cond.code yX8_does cX8_does 3 (some .int) ∈ tb := tb_in (List.mem_of_getElem? (i := 994) (by decide +kernel)) rfl
theorem lcX8_does : f_LC mX8_does := ⟨tw994, tw61⟩
theorem hdX8_does : f_hd mX8_does 2 := ⟨⟨by decide +kernel, by decide +kernel, by decide +kernel⟩, by decide⟩
theorem tw991 : Cond.methodLink RL 51 yX8_does ∈ tb := tb_in (List.mem_of_getElem? (i := 991) (by decide +kernel)) rfl
theorem tw992 : Cond.instanceMethod yX8_does ∈ tb := tb_in (List.mem_of_getElem? (i := 992) (by decide +kernel)) rfl
theorem tw993 : Cond.selects yX8_does.cls yX8_does yX8_does ∈ tb := tb_in (List.mem_of_getElem? (i := 993) (by decide +kernel)) rfl
theorem mlL_51 : f_LV RL 51 mX8_does 2 := ⟨lcX8_does, tw992, tw993, Or.inl tw991, hdX8_does⟩
abbrev mX8_doesBy : f_Y := (yX8_doesBy, cX8_doesBy, 9, (some .int))
theorem tw999 : Cond.code yX8_doesBy cX8_doesBy 9 (some .int) ∈ tb := tb_in (List.mem_of_getElem? (i := 999) (by decide +kernel)) rfl
theorem lcX8_doesBy : f_LC mX8_doesBy := ⟨tw999, tw61⟩
theorem hdX8_doesBy : f_hd mX8_doesBy 3 := ⟨⟨by decide +kernel, by decide +kernel, by decide +kernel⟩, by decide⟩
theorem tw996 : Cond.methodLink RX8 166 yX8_doesBy ∈ tb := tb_in (List.mem_of_getElem? (i := 996) (by decide +kernel)) rfl
theorem tw998 : Cond.instanceMethod yX8_doesBy ∈ tb := tb_in (List.mem_of_getElem? (i := 998) (by decide +kernel)) rfl
theorem tw26 : Cond.selects yX8_doesBy.cls yX8_doesBy yX8_doesBy ∈ tb := tb_in (List.mem_of_getElem? (i := 26) (by decide +kernel)) rfl
theorem mlX8_166 : f_LV RX8 166 mX8_doesBy 3 := ⟨lcX8_doesBy, tw998, tw26, Or.inl tw996, hdX8_doesBy⟩
abbrev mX8_hand : f_Y := (yX8_hand, cX8_hand, 2, (some .int))
theorem tw1003 : Cond.code yX8_hand cX8_hand 2 (some .int) ∈ tb := tb_in (List.mem_of_getElem? (i := 1003) (by decide +kernel)) rfl
theorem lcX8_hand : f_LC mX8_hand := ⟨tw1003, tw61⟩
theorem hdX8_hand : f_hd mX8_hand 1 := ⟨⟨by decide +kernel, by decide +kernel, by decide +kernel⟩, by decide⟩
theorem tw1000 : Cond.methodLink RL 55 yX8_hand ∈ tb := tb_in (List.mem_of_getElem? (i := 1000) (by decide +kernel)) rfl
theorem tw1001 : Cond.instanceMethod yX8_hand ∈ tb := tb_in (List.mem_of_getElem? (i := 1001) (by decide +kernel)) rfl
theorem tw1002 : Cond.selects yX8_hand.cls yX8_hand yX8_hand ∈ tb := tb_in (List.mem_of_getElem? (i := 1002) (by decide +kernel)) rfl
theorem mlL_55 : f_LV RL 55 mX8_hand 1 := ⟨lcX8_hand, tw1001, tw1002, Or.inl tw1000, hdX8_hand⟩
abbrev mX8_note : f_Y := (yX8_note, cX8_note, 2, none)
theorem tw1007 : Cond.code yX8_note cX8_note 2 none ∈ tb := tb_in (List.mem_of_getElem? (i := 1007) (by decide +kernel)) rfl
theorem lcX8_note : f_LC mX8_note := ⟨tw1007, tw61⟩
theorem hdX8_note : f_hd mX8_note 0 := ⟨⟨by decide +kernel, by decide +kernel, by decide +kernel⟩, by decide⟩
theorem tw1004 : Cond.methodLink RX8 182 yX8_note ∈ tb := tb_in (List.mem_of_getElem? (i := 1004) (by decide +kernel)) rfl
theorem tw1006 : Cond.instanceMethod yX8_note ∈ tb := tb_in (List.mem_of_getElem? (i := 1006) (by decide +kernel)) rfl
theorem tw27 : Cond.selects yX8_note.cls yX8_note yX8_note ∈ tb := tb_in (List.mem_of_getElem? (i := 27) (by decide +kernel)) rfl
theorem mlX8_182 : f_LV RX8 182 mX8_note 0 := ⟨lcX8_note, tw1006, tw27, Or.inl tw1004, hdX8_note⟩
abbrev mX8_day : f_Y := (yX8_day, cX8_day, 5, (some .int))
theorem tw1011 : Cond.code yX8_day cX8_day 5 (some .int) ∈ tb := tb_in (List.mem_of_getElem? (i := 1011) (by decide +kernel)) rfl
theorem lcX8_day : f_LC mX8_day := ⟨tw1011, tw61⟩
theorem hdX8_day : f_hd mX8_day 3 := ⟨⟨by decide +kernel, by decide +kernel, by decide +kernel⟩, by decide⟩
theorem tw1008 : Cond.methodLink RX8 185 yX8_day ∈ tb := tb_in (List.mem_of_getElem? (i := 1008) (by decide +kernel)) rfl
theorem tw1010 : Cond.instanceMethod yX8_day ∈ tb := tb_in (List.mem_of_getElem? (i := 1010) (by decide +kernel)) rfl
theorem tw28 : Cond.selects yX8_day.cls yX8_day yX8_day ∈ tb := tb_in (List.mem_of_getElem? (i := 28) (by decide +kernel)) rfl
theorem mlX8_185 : f_LV RX8 185 mX8_day 3 := ⟨lcX8_day, tw1010, tw28, Or.inl tw1008, hdX8_day⟩
abbrev mX8_goes : f_Y := (yX8_goes, cX8_goes, 3, (some .int))
theorem tw1015 : Cond.code yX8_goes cX8_goes 3 (some .int) ∈ tb := tb_in (List.mem_of_getElem? (i := 1015) (by decide +kernel)) rfl
theorem lcX8_goes : f_LC mX8_goes := ⟨tw1015, tw61⟩
theorem hdX8_goes : f_hd mX8_goes 2 := ⟨⟨by decide +kernel, by decide +kernel, by decide +kernel⟩, by decide⟩
theorem tw1012 : Cond.methodLink RX8 173 yX8_goes ∈ tb := tb_in (List.mem_of_getElem? (i := 1012) (by decide +kernel)) rfl
theorem tw1014 : Cond.instanceMethod yX8_goes ∈ tb := tb_in (List.mem_of_getElem? (i := 1014) (by decide +kernel)) rfl
theorem tw29 : Cond.selects yX8_goes.cls yX8_goes yX8_goes ∈ tb := tb_in (List.mem_of_getElem? (i := 29) (by decide +kernel)) rfl
theorem mlX8_173 : f_LV RX8 173 mX8_goes 2 := ⟨lcX8_goes, tw1014, tw29, Or.inl tw1012, hdX8_goes⟩
abbrev mX8_has : f_Y := (yX8_has, cX8_has, 2, (some .boolean))
theorem tw1018 : Cond.code yX8_has cX8_has 2 (some .boolean) ∈ tb := tb_in (List.mem_of_getElem? (i := 1018) (by decide +kernel)) rfl
theorem lcX8_has : f_LC mX8_has := ⟨tw1018, tw61⟩
theorem hdX8_has : f_hd mX8_has 2 := ⟨⟨by decide +kernel, by decide +kernel, by decide +kernel⟩, by decide⟩
theorem tw1016 : Cond.methodLink RX8 162 yX8_has ∈ tb := tb_in (List.mem_of_getElem? (i := 1016) (by decide +kernel)) rfl
theorem tw1017 : Cond.static yX8_has ∈ tb := tb_in (List.mem_of_getElem? (i := 1017) (by decide +kernel)) rfl
theorem mlX8_162 : f_LS RX8 162 mX8_has 2 := ⟨lcX8_has, tw1017, Or.inl tw1016, hdX8_has⟩
abbrev mX8_hear : f_Y := (yX8_hear, cX8_hear, 4, none)
theorem tw1022 : Cond.code yX8_hear cX8_hear 4 none ∈ tb := tb_in (List.mem_of_getElem? (i := 1022) (by decide +kernel)) rfl
theorem lcX8_hear : f_LC mX8_hear := ⟨tw1022, tw61⟩
theorem hdX8_hear : f_hd mX8_hear 2 := ⟨⟨by decide +kernel, by decide +kernel, by decide +kernel⟩, by decide⟩
theorem tw1019 : Cond.methodLink RX8 176 yX8_hear ∈ tb := tb_in (List.mem_of_getElem? (i := 1019) (by decide +kernel)) rfl
theorem tw1021 : Cond.instanceMethod yX8_hear ∈ tb := tb_in (List.mem_of_getElem? (i := 1021) (by decide +kernel)) rfl
theorem tw30 : Cond.selects yX8_hear.cls yX8_hear yX8_hear ∈ tb := tb_in (List.mem_of_getElem? (i := 30) (by decide +kernel)) rfl
theorem mlX8_176 : f_LV RX8 176 mX8_hear 2 := ⟨lcX8_hear, tw1021, tw30, Or.inl tw1019, hdX8_hear⟩
abbrev mX8_teach : f_Y := (yX8_teach, cX8_teach, 3, (some .int))
theorem tw1026 : Cond.code yX8_teach cX8_teach 3 (some .int) ∈ tb := tb_in (List.mem_of_getElem? (i := 1026) (by decide +kernel)) rfl
theorem lcX8_teach : f_LC mX8_teach := ⟨tw1026, tw61⟩
theorem hdX8_teach : f_hd mX8_teach 2 := ⟨⟨by decide +kernel, by decide +kernel, by decide +kernel⟩, by decide⟩
theorem tw1023 : Cond.methodLink RL 59 yX8_teach ∈ tb := tb_in (List.mem_of_getElem? (i := 1023) (by decide +kernel)) rfl
theorem tw1024 : Cond.instanceMethod yX8_teach ∈ tb := tb_in (List.mem_of_getElem? (i := 1024) (by decide +kernel)) rfl
theorem tw1025 : Cond.selects yX8_teach.cls yX8_teach yX8_teach ∈ tb := tb_in (List.mem_of_getElem? (i := 1025) (by decide +kernel)) rfl
theorem mlL_59 : f_LV RL 59 mX8_teach 2 := ⟨lcX8_teach, tw1024, tw1025, Or.inl tw1023, hdX8_teach⟩
abbrev mX8_undo : f_Y := (yX8_undo, cX8_undo, 2, (some .int))
theorem tw1030 : Cond.code yX8_undo cX8_undo 2 (some .int) ∈ tb := tb_in (List.mem_of_getElem? (i := 1030) (by decide +kernel)) rfl
theorem lcX8_undo : f_LC mX8_undo := ⟨tw1030, tw61⟩
theorem hdX8_undo : f_hd mX8_undo 0 := ⟨⟨by decide +kernel, by decide +kernel, by decide +kernel⟩, by decide⟩
theorem tw1027 : Cond.methodLink RL 63 yX8_undo ∈ tb := tb_in (List.mem_of_getElem? (i := 1027) (by decide +kernel)) rfl
theorem tw1028 : Cond.instanceMethod yX8_undo ∈ tb := tb_in (List.mem_of_getElem? (i := 1028) (by decide +kernel)) rfl
theorem tw1029 : Cond.selects yX8_undo.cls yX8_undo yX8_undo ∈ tb := tb_in (List.mem_of_getElem? (i := 1029) (by decide +kernel)) rfl
theorem mlL_63 : f_LV RL 63 mX8_undo 0 := ⟨lcX8_undo, tw1028, tw1029, Or.inl tw1027, hdX8_undo⟩
abbrev mX8_tell : f_Y := (yX8_tell, cX8_tell, 2, (some .int))
theorem tw1034 : Cond.code yX8_tell cX8_tell 2 (some .int) ∈ tb := tb_in (List.mem_of_getElem? (i := 1034) (by decide +kernel)) rfl
theorem lcX8_tell : f_LC mX8_tell := ⟨tw1034, tw61⟩
theorem hdX8_tell : f_hd mX8_tell 1 := ⟨⟨by decide +kernel, by decide +kernel, by decide +kernel⟩, by decide⟩
theorem tw1031 : Cond.methodLink RL 67 yX8_tell ∈ tb := tb_in (List.mem_of_getElem? (i := 1031) (by decide +kernel)) rfl
theorem tw1032 : Cond.instanceMethod yX8_tell ∈ tb := tb_in (List.mem_of_getElem? (i := 1032) (by decide +kernel)) rfl
theorem tw1033 : Cond.selects yX8_tell.cls yX8_tell yX8_tell ∈ tb := tb_in (List.mem_of_getElem? (i := 1033) (by decide +kernel)) rfl
theorem mlL_67 : f_LV RL 67 mX8_tell 1 := ⟨lcX8_tell, tw1032, tw1033, Or.inl tw1031, hdX8_tell⟩
abbrev mX8_noRow : f_Y := (yX8_noRow, cX8_noRow, 2, (some .int))
theorem tw1038 : Cond.code yX8_noRow cX8_noRow 2 (some .int) ∈ tb := tb_in (List.mem_of_getElem? (i := 1038) (by decide +kernel)) rfl
theorem lcX8_noRow : f_LC mX8_noRow := ⟨tw1038, tw61⟩
theorem hdX8_noRow : f_hd mX8_noRow 0 := ⟨⟨by decide +kernel, by decide +kernel, by decide +kernel⟩, by decide⟩
theorem tw1035 : Cond.methodLink RL 71 yX8_noRow ∈ tb := tb_in (List.mem_of_getElem? (i := 1035) (by decide +kernel)) rfl
theorem tw1036 : Cond.instanceMethod yX8_noRow ∈ tb := tb_in (List.mem_of_getElem? (i := 1036) (by decide +kernel)) rfl
theorem tw1037 : Cond.selects yX8_noRow.cls yX8_noRow yX8_noRow ∈ tb := tb_in (List.mem_of_getElem? (i := 1037) (by decide +kernel)) rfl
theorem mlL_71 : f_LV RL 71 mX8_noRow 0 := ⟨lcX8_noRow, tw1036, tw1037, Or.inl tw1035, hdX8_noRow⟩
abbrev mX8_run : f_Y := (yX8_run, cX8_run, 7, (some .int))
theorem tw1042 : Cond.code yX8_run cX8_run 7 (some .int) ∈ tb := tb_in (List.mem_of_getElem? (i := 1042) (by decide +kernel)) rfl
theorem lcX8_run : f_LC mX8_run := ⟨tw1042, tw61⟩
theorem hdX8_run : f_hd mX8_run 3 := ⟨⟨by decide +kernel, by decide +kernel, by decide +kernel⟩, by decide⟩
theorem tw1039 : Cond.methodLink RL 76 yX8_run ∈ tb := tb_in (List.mem_of_getElem? (i := 1039) (by decide +kernel)) rfl
theorem tw1040 : Cond.instanceMethod yX8_run ∈ tb := tb_in (List.mem_of_getElem? (i := 1040) (by decide +kernel)) rfl
theorem tw1041 : Cond.selects yX8_run.cls yX8_run yX8_run ∈ tb := tb_in (List.mem_of_getElem? (i := 1041) (by decide +kernel)) rfl
theorem mlL_76 : f_LV RL 76 mX8_run 3 := ⟨lcX8_run, tw1040, tw1041, Or.inl tw1039, hdX8_run⟩
abbrev mX8_tryRow : f_Y := (yX8_tryRow, cX8_tryRow, 3, (some .int))
theorem tw1047 : Cond.code yX8_tryRow cX8_tryRow 3 (some .int) ∈ tb := tb_in (List.mem_of_getElem? (i := 1047) (by decide +kernel)) rfl
theorem lcX8_tryRow : f_LC mX8_tryRow := ⟨tw1047, tw61⟩
theorem hdX8_tryRow : f_hd mX8_tryRow 1 := ⟨⟨by decide +kernel, by decide +kernel, by decide +kernel⟩, by decide⟩
theorem tw1044 : Cond.methodLink RX8 199 yX8_tryRow ∈ tb := tb_in (List.mem_of_getElem? (i := 1044) (by decide +kernel)) rfl
theorem tw1046 : Cond.instanceMethod yX8_tryRow ∈ tb := tb_in (List.mem_of_getElem? (i := 1046) (by decide +kernel)) rfl
theorem tw31 : Cond.selects yX8_tryRow.cls yX8_tryRow yX8_tryRow ∈ tb := tb_in (List.mem_of_getElem? (i := 31) (by decide +kernel)) rfl
theorem mlX8_199 : f_LV RX8 199 mX8_tryRow 1 := ⟨lcX8_tryRow, tw1046, tw31, Or.inl tw1044, hdX8_tryRow⟩
abbrev mX8_putAside : f_Y := (yX8_putAside, cX8_putAside, 2, none)
theorem tw1051 : Cond.code yX8_putAside cX8_putAside 2 none ∈ tb := tb_in (List.mem_of_getElem? (i := 1051) (by decide +kernel)) rfl
theorem lcX8_putAside : f_LC mX8_putAside := ⟨tw1051, tw61⟩
theorem hdX8_putAside : f_hd mX8_putAside 0 := ⟨⟨by decide +kernel, by decide +kernel, by decide +kernel⟩, by decide⟩
theorem tw1048 : Cond.methodLink RX8 188 yX8_putAside ∈ tb := tb_in (List.mem_of_getElem? (i := 1048) (by decide +kernel)) rfl
theorem tw1050 : Cond.instanceMethod yX8_putAside ∈ tb := tb_in (List.mem_of_getElem? (i := 1050) (by decide +kernel)) rfl
theorem tw32 : Cond.selects yX8_putAside.cls yX8_putAside yX8_putAside ∈ tb := tb_in (List.mem_of_getElem? (i := 32) (by decide +kernel)) rfl
theorem mlX8_188 : f_LV RX8 188 mX8_putAside 0 := ⟨lcX8_putAside, tw1050, tw32, Or.inl tw1048, hdX8_putAside⟩
abbrev mX8_runRow : f_Y := (yX8_runRow, cX8_runRow, 5, (some .int))
theorem tw1055 : Cond.code yX8_runRow cX8_runRow 5 (some .int) ∈ tb := tb_in (List.mem_of_getElem? (i := 1055) (by decide +kernel)) rfl
theorem lcX8_runRow : f_LC mX8_runRow := ⟨tw1055, tw61⟩
theorem hdX8_runRow : f_hd mX8_runRow 2 := ⟨⟨by decide +kernel, by decide +kernel, by decide +kernel⟩, by decide⟩
theorem tw1052 : Cond.methodLink RX8 191 yX8_runRow ∈ tb := tb_in (List.mem_of_getElem? (i := 1052) (by decide +kernel)) rfl
theorem tw1054 : Cond.instanceMethod yX8_runRow ∈ tb := tb_in (List.mem_of_getElem? (i := 1054) (by decide +kernel)) rfl
theorem tw33 : Cond.selects yX8_runRow.cls yX8_runRow yX8_runRow ∈ tb := tb_in (List.mem_of_getElem? (i := 33) (by decide +kernel)) rfl
theorem mlX8_191 : f_LV RX8 191 mX8_runRow 2 := ⟨lcX8_runRow, tw1054, tw33, Or.inl tw1052, hdX8_runRow⟩
abbrev mX8_takeBack : f_Y := (yX8_takeBack, cX8_takeBack, 2, none)
theorem tw1059 : Cond.code yX8_takeBack cX8_takeBack 2 none ∈ tb := tb_in (List.mem_of_getElem? (i := 1059) (by decide +kernel)) rfl
theorem lcX8_takeBack : f_LC mX8_takeBack := ⟨tw1059, tw61⟩
theorem hdX8_takeBack : f_hd mX8_takeBack 0 := ⟨⟨by decide +kernel, by decide +kernel, by decide +kernel⟩, by decide⟩
theorem tw1056 : Cond.methodLink RX8 194 yX8_takeBack ∈ tb := tb_in (List.mem_of_getElem? (i := 1056) (by decide +kernel)) rfl
theorem tw1058 : Cond.instanceMethod yX8_takeBack ∈ tb := tb_in (List.mem_of_getElem? (i := 1058) (by decide +kernel)) rfl
theorem tw34 : Cond.selects yX8_takeBack.cls yX8_takeBack yX8_takeBack ∈ tb := tb_in (List.mem_of_getElem? (i := 34) (by decide +kernel)) rfl
theorem mlX8_194 : f_LV RX8 194 mX8_takeBack 0 := ⟨lcX8_takeBack, tw1058, tw34, Or.inl tw1056, hdX8_takeBack⟩
abbrev mX8_round : f_Y := (yX8_round, cX8_round, 3, (some .int))
theorem tw1063 : Cond.code yX8_round cX8_round 3 (some .int) ∈ tb := tb_in (List.mem_of_getElem? (i := 1063) (by decide +kernel)) rfl
theorem lcX8_round : f_LC mX8_round := ⟨tw1063, tw61⟩
theorem hdX8_round : f_hd mX8_round 0 := ⟨⟨by decide +kernel, by decide +kernel, by decide +kernel⟩, by decide⟩
theorem tw1060 : Cond.methodLink RL 80 yX8_round ∈ tb := tb_in (List.mem_of_getElem? (i := 1060) (by decide +kernel)) rfl
theorem tw1061 : Cond.instanceMethod yX8_round ∈ tb := tb_in (List.mem_of_getElem? (i := 1061) (by decide +kernel)) rfl
theorem tw1062 : Cond.selects yX8_round.cls yX8_round yX8_round ∈ tb := tb_in (List.mem_of_getElem? (i := 1062) (by decide +kernel)) rfl
theorem mlL_80 : f_LV RL 80 mX8_round 0 := ⟨lcX8_round, tw1061, tw1062, Or.inl tw1060, hdX8_round⟩
abbrev mX8_isRound : f_Y := (yX8_isRound, cX8_isRound, 5, (some .boolean))
theorem tw1067 : Cond.code yX8_isRound cX8_isRound 5 (some .boolean) ∈ tb := tb_in (List.mem_of_getElem? (i := 1067) (by decide +kernel)) rfl
theorem lcX8_isRound : f_LC mX8_isRound := ⟨tw1067, tw61⟩
theorem hdX8_isRound : f_hd mX8_isRound 1 := ⟨⟨by decide +kernel, by decide +kernel, by decide +kernel⟩, by decide⟩
theorem tw1064 : Cond.methodLink RX8 202 yX8_isRound ∈ tb := tb_in (List.mem_of_getElem? (i := 1064) (by decide +kernel)) rfl
theorem tw1066 : Cond.instanceMethod yX8_isRound ∈ tb := tb_in (List.mem_of_getElem? (i := 1066) (by decide +kernel)) rfl
theorem tw35 : Cond.selects yX8_isRound.cls yX8_isRound yX8_isRound ∈ tb := tb_in (List.mem_of_getElem? (i := 35) (by decide +kernel)) rfl
theorem mlX8_202 : f_LV RX8 202 mX8_isRound 1 := ⟨lcX8_isRound, tw1066, tw35, Or.inl tw1064, hdX8_isRound⟩
abbrev mX8_order : f_Y := (yX8_order, cX8_order, 7, (some .int))
theorem tw1071 : Cond.code yX8_order cX8_order 7 (some .int) ∈ tb := tb_in (List.mem_of_getElem? (i := 1071) (by decide +kernel)) rfl
theorem lcX8_order : f_LC mX8_order := ⟨tw1071, tw61⟩
theorem hdX8_order : f_hd mX8_order 1 := ⟨⟨by decide +kernel, by decide +kernel, by decide +kernel⟩, by decide⟩
theorem tw1068 : Cond.methodLink RL 84 yX8_order ∈ tb := tb_in (List.mem_of_getElem? (i := 1068) (by decide +kernel)) rfl
theorem tw1069 : Cond.instanceMethod yX8_order ∈ tb := tb_in (List.mem_of_getElem? (i := 1069) (by decide +kernel)) rfl
theorem tw1070 : Cond.selects yX8_order.cls yX8_order yX8_order ∈ tb := tb_in (List.mem_of_getElem? (i := 1070) (by decide +kernel)) rfl
theorem mlL_84 : f_LV RL 84 mX8_order 1 := ⟨lcX8_order, tw1069, tw1070, Or.inl tw1068, hdX8_order⟩
abbrev mX8_exchange : f_Y := (yX8_exchange, cX8_exchange, 4, none)
theorem tw1075 : Cond.code yX8_exchange cX8_exchange 4 none ∈ tb := tb_in (List.mem_of_getElem? (i := 1075) (by decide +kernel)) rfl
theorem lcX8_exchange : f_LC mX8_exchange := ⟨tw1075, tw61⟩
theorem hdX8_exchange : f_hd mX8_exchange 2 := ⟨⟨by decide +kernel, by decide +kernel, by decide +kernel⟩, by decide⟩
theorem tw1072 : Cond.methodLink RX8 205 yX8_exchange ∈ tb := tb_in (List.mem_of_getElem? (i := 1072) (by decide +kernel)) rfl
theorem tw1074 : Cond.instanceMethod yX8_exchange ∈ tb := tb_in (List.mem_of_getElem? (i := 1074) (by decide +kernel)) rfl
theorem tw36 : Cond.selects yX8_exchange.cls yX8_exchange yX8_exchange ∈ tb := tb_in (List.mem_of_getElem? (i := 36) (by decide +kernel)) rfl
theorem mlX8_205 : f_LV RX8 205 mX8_exchange 2 := ⟨lcX8_exchange, tw1074, tw36, Or.inl tw1072, hdX8_exchange⟩
abbrev mX8_nextRow : f_Y := (yX8_nextRow, cX8_nextRow, 5, (some .boolean))
theorem tw1079 : Cond.code yX8_nextRow cX8_nextRow 5 (some .boolean) ∈ tb := tb_in (List.mem_of_getElem? (i := 1079) (by decide +kernel)) rfl
theorem lcX8_nextRow : f_LC mX8_nextRow := ⟨tw1079, tw61⟩
theorem hdX8_nextRow : f_hd mX8_nextRow 0 := ⟨⟨by decide +kernel, by decide +kernel, by decide +kernel⟩, by decide⟩
theorem tw1076 : Cond.methodLink RX8 208 yX8_nextRow ∈ tb := tb_in (List.mem_of_getElem? (i := 1076) (by decide +kernel)) rfl
theorem tw1078 : Cond.instanceMethod yX8_nextRow ∈ tb := tb_in (List.mem_of_getElem? (i := 1078) (by decide +kernel)) rfl
theorem tw37 : Cond.selects yX8_nextRow.cls yX8_nextRow yX8_nextRow ∈ tb := tb_in (List.mem_of_getElem? (i := 37) (by decide +kernel)) rfl
theorem mlX8_208 : f_LV RX8 208 mX8_nextRow 0 := ⟨lcX8_nextRow, tw1078, tw37, Or.inl tw1076, hdX8_nextRow⟩
abbrev mX8_best : f_Y := (yX8_best, cX8_best, 6, (some .int))
theorem tw1083 : Cond.code yX8_best cX8_best 6 (some .int) ∈ tb := tb_in (List.mem_of_getElem? (i := 1083) (by decide +kernel)) rfl
theorem lcX8_best : f_LC mX8_best := ⟨tw1083, tw61⟩
theorem hdX8_best : f_hd mX8_best 1 := ⟨⟨by decide +kernel, by decide +kernel, by decide +kernel⟩, by decide⟩
theorem tw1080 : Cond.methodLink RL 88 yX8_best ∈ tb := tb_in (List.mem_of_getElem? (i := 1080) (by decide +kernel)) rfl
theorem tw1081 : Cond.instanceMethod yX8_best ∈ tb := tb_in (List.mem_of_getElem? (i := 1081) (by decide +kernel)) rfl
theorem tw1082 : Cond.selects yX8_best.cls yX8_best yX8_best ∈ tb := tb_in (List.mem_of_getElem? (i := 1082) (by decide +kernel)) rfl
theorem mlL_88 : f_LV RL 88 mX8_best 1 := ⟨lcX8_best, tw1081, tw1082, Or.inl tw1080, hdX8_best⟩
abbrev mX8_tryTaught : f_Y := (yX8_tryTaught, cX8_tryTaught, 4, (some .int))
theorem tw1087 : Cond.code yX8_tryTaught cX8_tryTaught 4 (some .int) ∈ tb := tb_in (List.mem_of_getElem? (i := 1087) (by decide +kernel)) rfl
theorem lcX8_tryTaught : f_LC mX8_tryTaught := ⟨tw1087, tw61⟩
theorem hdX8_tryTaught : f_hd mX8_tryTaught 2 := ⟨⟨by decide +kernel, by decide +kernel, by decide +kernel⟩, by decide⟩
theorem tw1084 : Cond.methodLink RX8 211 yX8_tryTaught ∈ tb := tb_in (List.mem_of_getElem? (i := 1084) (by decide +kernel)) rfl
theorem tw1086 : Cond.instanceMethod yX8_tryTaught ∈ tb := tb_in (List.mem_of_getElem? (i := 1086) (by decide +kernel)) rfl
theorem tw38 : Cond.selects yX8_tryTaught.cls yX8_tryTaught yX8_tryTaught ∈ tb := tb_in (List.mem_of_getElem? (i := 38) (by decide +kernel)) rfl
theorem mlX8_211 : f_LV RX8 211 mX8_tryTaught 2 := ⟨lcX8_tryTaught, tw1086, tw38, Or.inl tw1084, hdX8_tryTaught⟩
abbrev mX8_seen : f_Y := (yX8_seen, cX8_seen, 3, (some .int))
theorem tw1091 : Cond.code yX8_seen cX8_seen 3 (some .int) ∈ tb := tb_in (List.mem_of_getElem? (i := 1091) (by decide +kernel)) rfl
theorem lcX8_seen : f_LC mX8_seen := ⟨tw1091, tw61⟩
theorem hdX8_seen : f_hd mX8_seen 2 := ⟨⟨by decide +kernel, by decide +kernel, by decide +kernel⟩, by decide⟩
theorem tw1088 : Cond.methodLink RL 92 yX8_seen ∈ tb := tb_in (List.mem_of_getElem? (i := 1088) (by decide +kernel)) rfl
theorem tw1089 : Cond.instanceMethod yX8_seen ∈ tb := tb_in (List.mem_of_getElem? (i := 1089) (by decide +kernel)) rfl
theorem tw1090 : Cond.selects yX8_seen.cls yX8_seen yX8_seen ∈ tb := tb_in (List.mem_of_getElem? (i := 1090) (by decide +kernel)) rfl
theorem mlL_92 : f_LV RL 92 mX8_seen 2 := ⟨lcX8_seen, tw1089, tw1090, Or.inl tw1088, hdX8_seen⟩
abbrev mX8_forget : f_Y := (yX8_forget, cX8_forget, 2, (some .int))
theorem tw1095 : Cond.code yX8_forget cX8_forget 2 (some .int) ∈ tb := tb_in (List.mem_of_getElem? (i := 1095) (by decide +kernel)) rfl
theorem lcX8_forget : f_LC mX8_forget := ⟨tw1095, tw61⟩
theorem hdX8_forget : f_hd mX8_forget 0 := ⟨⟨by decide +kernel, by decide +kernel, by decide +kernel⟩, by decide⟩
theorem tw1092 : Cond.methodLink RL 96 yX8_forget ∈ tb := tb_in (List.mem_of_getElem? (i := 1092) (by decide +kernel)) rfl
theorem tw1093 : Cond.instanceMethod yX8_forget ∈ tb := tb_in (List.mem_of_getElem? (i := 1093) (by decide +kernel)) rfl
theorem tw1094 : Cond.selects yX8_forget.cls yX8_forget yX8_forget ∈ tb := tb_in (List.mem_of_getElem? (i := 1094) (by decide +kernel)) rfl
theorem mlL_96 : f_LV RL 96 mX8_forget 0 := ⟨lcX8_forget, tw1093, tw1094, Or.inl tw1092, hdX8_forget⟩
abbrev mX8_fits : f_Y := (yX8_fits, cX8_fits, 3, (some .int))
theorem tw1099 : Cond.code yX8_fits cX8_fits 3 (some .int) ∈ tb := tb_in (List.mem_of_getElem? (i := 1099) (by decide +kernel)) rfl
theorem lcX8_fits : f_LC mX8_fits := ⟨tw1099, tw61⟩
theorem hdX8_fits : f_hd mX8_fits 0 := ⟨⟨by decide +kernel, by decide +kernel, by decide +kernel⟩, by decide⟩
theorem tw1096 : Cond.methodLink RL 100 yX8_fits ∈ tb := tb_in (List.mem_of_getElem? (i := 1096) (by decide +kernel)) rfl
theorem tw1097 : Cond.instanceMethod yX8_fits ∈ tb := tb_in (List.mem_of_getElem? (i := 1097) (by decide +kernel)) rfl
theorem tw1098 : Cond.selects yX8_fits.cls yX8_fits yX8_fits ∈ tb := tb_in (List.mem_of_getElem? (i := 1098) (by decide +kernel)) rfl
theorem mlL_100 : f_LV RL 100 mX8_fits 0 := ⟨lcX8_fits, tw1097, tw1098, Or.inl tw1096, hdX8_fits⟩
abbrev mX8_isFit : f_Y := (yX8_isFit, cX8_isFit, 5, (some .boolean))
theorem tw1103 : Cond.code yX8_isFit cX8_isFit 5 (some .boolean) ∈ tb := tb_in (List.mem_of_getElem? (i := 1103) (by decide +kernel)) rfl
theorem lcX8_isFit : f_LC mX8_isFit := ⟨tw1103, tw61⟩
theorem hdX8_isFit : f_hd mX8_isFit 2 := ⟨⟨by decide +kernel, by decide +kernel, by decide +kernel⟩, by decide⟩
theorem tw1100 : Cond.methodLink RX8 214 yX8_isFit ∈ tb := tb_in (List.mem_of_getElem? (i := 1100) (by decide +kernel)) rfl
theorem tw1102 : Cond.instanceMethod yX8_isFit ∈ tb := tb_in (List.mem_of_getElem? (i := 1102) (by decide +kernel)) rfl
theorem tw39 : Cond.selects yX8_isFit.cls yX8_isFit yX8_isFit ∈ tb := tb_in (List.mem_of_getElem? (i := 39) (by decide +kernel)) rfl
theorem mlX8_214 : f_LV RX8 214 mX8_isFit 2 := ⟨lcX8_isFit, tw1102, tw39, Or.inl tw1100, hdX8_isFit⟩
abbrev mX8_firsts : f_Y := (yX8_firsts, cX8_firsts, 4, (some .int))
theorem tw1107 : Cond.code yX8_firsts cX8_firsts 4 (some .int) ∈ tb := tb_in (List.mem_of_getElem? (i := 1107) (by decide +kernel)) rfl
theorem lcX8_firsts : f_LC mX8_firsts := ⟨tw1107, tw61⟩
theorem hdX8_firsts : f_hd mX8_firsts 1 := ⟨⟨by decide +kernel, by decide +kernel, by decide +kernel⟩, by decide⟩
theorem tw1104 : Cond.methodLink RL 104 yX8_firsts ∈ tb := tb_in (List.mem_of_getElem? (i := 1104) (by decide +kernel)) rfl
theorem tw1105 : Cond.instanceMethod yX8_firsts ∈ tb := tb_in (List.mem_of_getElem? (i := 1105) (by decide +kernel)) rfl
theorem tw1106 : Cond.selects yX8_firsts.cls yX8_firsts yX8_firsts ∈ tb := tb_in (List.mem_of_getElem? (i := 1106) (by decide +kernel)) rfl
theorem mlL_104 : f_LV RL 104 mX8_firsts 1 := ⟨lcX8_firsts, tw1105, tw1106, Or.inl tw1104, hdX8_firsts⟩
abbrev mX8_ask : f_Y := (yX8_ask, cX8_ask, 10, (some .int))
theorem tw1111 : Cond.code yX8_ask cX8_ask 10 (some .int) ∈ tb := tb_in (List.mem_of_getElem? (i := 1111) (by decide +kernel)) rfl
theorem lcX8_ask : f_LC mX8_ask := ⟨tw1111, tw61⟩
theorem hdX8_ask : f_hd mX8_ask 1 := ⟨⟨by decide +kernel, by decide +kernel, by decide +kernel⟩, by decide⟩
theorem tw1108 : Cond.methodLink RL 108 yX8_ask ∈ tb := tb_in (List.mem_of_getElem? (i := 1108) (by decide +kernel)) rfl
theorem tw1109 : Cond.instanceMethod yX8_ask ∈ tb := tb_in (List.mem_of_getElem? (i := 1109) (by decide +kernel)) rfl
theorem tw1110 : Cond.selects yX8_ask.cls yX8_ask yX8_ask ∈ tb := tb_in (List.mem_of_getElem? (i := 1110) (by decide +kernel)) rfl
theorem mlL_108 : f_LV RL 108 mX8_ask 1 := ⟨lcX8_ask, tw1109, tw1110, Or.inl tw1108, hdX8_ask⟩
theorem tw1112 : Cond.methodLink RX8 217 yX8_fits ∈ tb := tb_in (List.mem_of_getElem? (i := 1112) (by decide +kernel)) rfl
theorem mlX8_217 : f_LV RX8 217 mX8_fits 0 := ⟨lcX8_fits, tw1097, tw1098, Or.inl tw1112, hdX8_fits⟩
abbrev mX8_rule : f_Y := (yX8_rule, cX8_rule, 6, (some .int))
theorem tw1116 : Cond.code yX8_rule cX8_rule 6 (some .int) ∈ tb := tb_in (List.mem_of_getElem? (i := 1116) (by decide +kernel)) rfl
theorem lcX8_rule : f_LC mX8_rule := ⟨tw1116, tw61⟩
theorem hdX8_rule : f_hd mX8_rule 1 := ⟨⟨by decide +kernel, by decide +kernel, by decide +kernel⟩, by decide⟩
theorem tw1113 : Cond.methodLink RL 112 yX8_rule ∈ tb := tb_in (List.mem_of_getElem? (i := 1113) (by decide +kernel)) rfl
theorem tw1114 : Cond.instanceMethod yX8_rule ∈ tb := tb_in (List.mem_of_getElem? (i := 1114) (by decide +kernel)) rfl
theorem tw1115 : Cond.selects yX8_rule.cls yX8_rule yX8_rule ∈ tb := tb_in (List.mem_of_getElem? (i := 1115) (by decide +kernel)) rfl
theorem mlL_112 : f_LV RL 112 mX8_rule 1 := ⟨lcX8_rule, tw1114, tw1115, Or.inl tw1113, hdX8_rule⟩
abbrev mX8_holds : f_Y := (yX8_holds, cX8_holds, 3, (some .boolean))
theorem tw1120 : Cond.code yX8_holds cX8_holds 3 (some .boolean) ∈ tb := tb_in (List.mem_of_getElem? (i := 1120) (by decide +kernel)) rfl
theorem lcX8_holds : f_LC mX8_holds := ⟨tw1120, tw61⟩
theorem hdX8_holds : f_hd mX8_holds 2 := ⟨⟨by decide +kernel, by decide +kernel, by decide +kernel⟩, by decide⟩
theorem tw1117 : Cond.methodLink RX8 220 yX8_holds ∈ tb := tb_in (List.mem_of_getElem? (i := 1117) (by decide +kernel)) rfl
theorem tw1119 : Cond.instanceMethod yX8_holds ∈ tb := tb_in (List.mem_of_getElem? (i := 1119) (by decide +kernel)) rfl
theorem tw40 : Cond.selects yX8_holds.cls yX8_holds yX8_holds ∈ tb := tb_in (List.mem_of_getElem? (i := 40) (by decide +kernel)) rfl
theorem mlX8_220 : f_LV RX8 220 mX8_holds 2 := ⟨lcX8_holds, tw1119, tw40, Or.inl tw1117, hdX8_holds⟩
abbrev mX8_wrong : f_Y := (yX8_wrong, cX8_wrong, 8, (some .int))
theorem tw1124 : Cond.code yX8_wrong cX8_wrong 8 (some .int) ∈ tb := tb_in (List.mem_of_getElem? (i := 1124) (by decide +kernel)) rfl
theorem lcX8_wrong : f_LC mX8_wrong := ⟨tw1124, tw61⟩
theorem hdX8_wrong : f_hd mX8_wrong 3 := ⟨⟨by decide +kernel, by decide +kernel, by decide +kernel⟩, by decide⟩
theorem tw1121 : Cond.methodLink RL 117 yX8_wrong ∈ tb := tb_in (List.mem_of_getElem? (i := 1121) (by decide +kernel)) rfl
theorem tw1122 : Cond.instanceMethod yX8_wrong ∈ tb := tb_in (List.mem_of_getElem? (i := 1122) (by decide +kernel)) rfl
theorem tw1123 : Cond.selects yX8_wrong.cls yX8_wrong yX8_wrong ∈ tb := tb_in (List.mem_of_getElem? (i := 1123) (by decide +kernel)) rfl
theorem mlL_117 : f_LV RL 117 mX8_wrong 3 := ⟨lcX8_wrong, tw1122, tw1123, Or.inl tw1121, hdX8_wrong⟩
abbrev mX8_byTurns : f_Y := (yX8_byTurns, cX8_byTurns, 2, (some .int))
theorem tw1128 : Cond.code yX8_byTurns cX8_byTurns 2 (some .int) ∈ tb := tb_in (List.mem_of_getElem? (i := 1128) (by decide +kernel)) rfl
theorem lcX8_byTurns : f_LC mX8_byTurns := ⟨tw1128, tw61⟩
theorem hdX8_byTurns : f_hd mX8_byTurns 1 := ⟨⟨by decide +kernel, by decide +kernel, by decide +kernel⟩, by decide⟩
theorem tw1125 : Cond.methodLink RL 121 yX8_byTurns ∈ tb := tb_in (List.mem_of_getElem? (i := 1125) (by decide +kernel)) rfl
theorem tw1126 : Cond.instanceMethod yX8_byTurns ∈ tb := tb_in (List.mem_of_getElem? (i := 1126) (by decide +kernel)) rfl
theorem tw1127 : Cond.selects yX8_byTurns.cls yX8_byTurns yX8_byTurns ∈ tb := tb_in (List.mem_of_getElem? (i := 1127) (by decide +kernel)) rfl
theorem mlL_121 : f_LV RL 121 mX8_byTurns 1 := ⟨lcX8_byTurns, tw1126, tw1127, Or.inl tw1125, hdX8_byTurns⟩
abbrev mX8_oneRound : f_Y := (yX8_oneRound, cX8_oneRound, 4, (some .int))
theorem tw1133 : Cond.code yX8_oneRound cX8_oneRound 4 (some .int) ∈ tb := tb_in (List.mem_of_getElem? (i := 1133) (by decide +kernel)) rfl
theorem lcX8_oneRound : f_LC mX8_oneRound := ⟨tw1133, tw61⟩
theorem hdX8_oneRound : f_hd mX8_oneRound 0 := ⟨⟨by decide +kernel, by decide +kernel, by decide +kernel⟩, by decide⟩
theorem tw1130 : Cond.methodLink RX8 230 yX8_oneRound ∈ tb := tb_in (List.mem_of_getElem? (i := 1130) (by decide +kernel)) rfl
theorem tw1132 : Cond.instanceMethod yX8_oneRound ∈ tb := tb_in (List.mem_of_getElem? (i := 1132) (by decide +kernel)) rfl
theorem tw41 : Cond.selects yX8_oneRound.cls yX8_oneRound yX8_oneRound ∈ tb := tb_in (List.mem_of_getElem? (i := 41) (by decide +kernel)) rfl
theorem mlX8_230 : f_LV RX8 230 mX8_oneRound 0 := ⟨lcX8_oneRound, tw1132, tw41, Or.inl tw1130, hdX8_oneRound⟩
abbrev mX8_copyTo : f_Y := (yX8_copyTo, cX8_copyTo, 4, none)
theorem tw1137 : Cond.code yX8_copyTo cX8_copyTo 4 none ∈ tb := tb_in (List.mem_of_getElem? (i := 1137) (by decide +kernel)) rfl
theorem lcX8_copyTo : f_LC mX8_copyTo := ⟨tw1137, tw61⟩
theorem hdX8_copyTo : f_hd mX8_copyTo 2 := ⟨⟨by decide +kernel, by decide +kernel, by decide +kernel⟩, by decide⟩
theorem tw1134 : Cond.methodLink RX8 223 yX8_copyTo ∈ tb := tb_in (List.mem_of_getElem? (i := 1134) (by decide +kernel)) rfl
theorem tw1136 : Cond.instanceMethod yX8_copyTo ∈ tb := tb_in (List.mem_of_getElem? (i := 1136) (by decide +kernel)) rfl
theorem tw42 : Cond.selects yX8_copyTo.cls yX8_copyTo yX8_copyTo ∈ tb := tb_in (List.mem_of_getElem? (i := 42) (by decide +kernel)) rfl
theorem mlX8_223 : f_LV RX8 223 mX8_copyTo 2 := ⟨lcX8_copyTo, tw1136, tw42, Or.inl tw1134, hdX8_copyTo⟩
abbrev mX8_worstDay : f_Y := (yX8_worstDay, cX8_worstDay, 5, (some .int))
theorem tw1141 : Cond.code yX8_worstDay cX8_worstDay 5 (some .int) ∈ tb := tb_in (List.mem_of_getElem? (i := 1141) (by decide +kernel)) rfl
theorem lcX8_worstDay : f_LC mX8_worstDay := ⟨tw1141, tw61⟩
theorem hdX8_worstDay : f_hd mX8_worstDay 0 := ⟨⟨by decide +kernel, by decide +kernel, by decide +kernel⟩, by decide⟩
theorem tw1138 : Cond.methodLink RX8 227 yX8_worstDay ∈ tb := tb_in (List.mem_of_getElem? (i := 1138) (by decide +kernel)) rfl
theorem tw1140 : Cond.instanceMethod yX8_worstDay ∈ tb := tb_in (List.mem_of_getElem? (i := 1140) (by decide +kernel)) rfl
theorem tw43 : Cond.selects yX8_worstDay.cls yX8_worstDay yX8_worstDay ∈ tb := tb_in (List.mem_of_getElem? (i := 43) (by decide +kernel)) rfl
theorem mlX8_227 : f_LV RX8 227 mX8_worstDay 0 := ⟨lcX8_worstDay, tw1140, tw43, Or.inl tw1138, hdX8_worstDay⟩
abbrev mX8_twoRounds : f_Y := (yX8_twoRounds, cX8_twoRounds, 4, (some .int))
theorem tw1145 : Cond.code yX8_twoRounds cX8_twoRounds 4 (some .int) ∈ tb := tb_in (List.mem_of_getElem? (i := 1145) (by decide +kernel)) rfl
theorem lcX8_twoRounds : f_LC mX8_twoRounds := ⟨tw1145, tw61⟩
theorem hdX8_twoRounds : f_hd mX8_twoRounds 0 := ⟨⟨by decide +kernel, by decide +kernel, by decide +kernel⟩, by decide⟩
theorem tw1142 : Cond.methodLink RX8 238 yX8_twoRounds ∈ tb := tb_in (List.mem_of_getElem? (i := 1142) (by decide +kernel)) rfl
theorem tw1144 : Cond.instanceMethod yX8_twoRounds ∈ tb := tb_in (List.mem_of_getElem? (i := 1144) (by decide +kernel)) rfl
theorem tw44 : Cond.selects yX8_twoRounds.cls yX8_twoRounds yX8_twoRounds ∈ tb := tb_in (List.mem_of_getElem? (i := 44) (by decide +kernel)) rfl
theorem mlX8_238 : f_LV RX8 238 mX8_twoRounds 0 := ⟨lcX8_twoRounds, tw1144, tw44, Or.inl tw1142, hdX8_twoRounds⟩
abbrev mX8_worstTwo : f_Y := (yX8_worstTwo, cX8_worstTwo, 5, (some .int))
theorem tw1149 : Cond.code yX8_worstTwo cX8_worstTwo 5 (some .int) ∈ tb := tb_in (List.mem_of_getElem? (i := 1149) (by decide +kernel)) rfl
theorem lcX8_worstTwo : f_LC mX8_worstTwo := ⟨tw1149, tw61⟩
theorem hdX8_worstTwo : f_hd mX8_worstTwo 0 := ⟨⟨by decide +kernel, by decide +kernel, by decide +kernel⟩, by decide⟩
theorem tw1146 : Cond.methodLink RX8 233 yX8_worstTwo ∈ tb := tb_in (List.mem_of_getElem? (i := 1146) (by decide +kernel)) rfl
theorem tw1148 : Cond.instanceMethod yX8_worstTwo ∈ tb := tb_in (List.mem_of_getElem? (i := 1148) (by decide +kernel)) rfl
theorem tw45 : Cond.selects yX8_worstTwo.cls yX8_worstTwo yX8_worstTwo ∈ tb := tb_in (List.mem_of_getElem? (i := 45) (by decide +kernel)) rfl
theorem mlX8_233 : f_LV RX8 233 mX8_worstTwo 0 := ⟨lcX8_worstTwo, tw1148, tw45, Or.inl tw1146, hdX8_worstTwo⟩
abbrev mX8_mean : f_Y := (yX8_mean, cX8_mean, 14, (some .int))
theorem tw1153 : Cond.code yX8_mean cX8_mean 14 (some .int) ∈ tb := tb_in (List.mem_of_getElem? (i := 1153) (by decide +kernel)) rfl
theorem lcX8_mean : f_LC mX8_mean := ⟨tw1153, tw61⟩
theorem hdX8_mean : f_hd mX8_mean 2 := ⟨⟨by decide +kernel, by decide +kernel, by decide +kernel⟩, by decide⟩
theorem tw1150 : Cond.methodLink RL 125 yX8_mean ∈ tb := tb_in (List.mem_of_getElem? (i := 1150) (by decide +kernel)) rfl
theorem tw1151 : Cond.instanceMethod yX8_mean ∈ tb := tb_in (List.mem_of_getElem? (i := 1151) (by decide +kernel)) rfl
theorem tw1152 : Cond.selects yX8_mean.cls yX8_mean yX8_mean ∈ tb := tb_in (List.mem_of_getElem? (i := 1152) (by decide +kernel)) rfl
theorem mlL_125 : f_LV RL 125 mX8_mean 2 := ⟨lcX8_mean, tw1151, tw1152, Or.inl tw1150, hdX8_mean⟩
abbrev mX8_common : f_Y := (yX8_common, cX8_common, 10, (some .long))
theorem tw1156 : Cond.code yX8_common cX8_common 10 (some .long) ∈ tb := tb_in (List.mem_of_getElem? (i := 1156) (by decide +kernel)) rfl
theorem lcX8_common : f_LC mX8_common := ⟨tw1156, tw61⟩
theorem hdX8_common : f_hd mX8_common 2 := ⟨⟨by decide +kernel, by decide +kernel, by decide +kernel⟩, by decide⟩
theorem tw1154 : Cond.methodLink RX8 241 yX8_common ∈ tb := tb_in (List.mem_of_getElem? (i := 1154) (by decide +kernel)) rfl
theorem tw1155 : Cond.static yX8_common ∈ tb := tb_in (List.mem_of_getElem? (i := 1155) (by decide +kernel)) rfl
theorem mlX8_241 : f_LS RX8 241 mX8_common 2 := ⟨lcX8_common, tw1155, Or.inl tw1154, hdX8_common⟩
abbrev mX8_year : f_Y := (yX8_year, cX8_year, 7, (some .int))
theorem tw1160 : Cond.code yX8_year cX8_year 7 (some .int) ∈ tb := tb_in (List.mem_of_getElem? (i := 1160) (by decide +kernel)) rfl
theorem lcX8_year : f_LC mX8_year := ⟨tw1160, tw61⟩
theorem hdX8_year : f_hd mX8_year 3 := ⟨⟨by decide +kernel, by decide +kernel, by decide +kernel⟩, by decide⟩
theorem tw1157 : Cond.methodLink RL 129 yX8_year ∈ tb := tb_in (List.mem_of_getElem? (i := 1157) (by decide +kernel)) rfl
theorem tw1158 : Cond.instanceMethod yX8_year ∈ tb := tb_in (List.mem_of_getElem? (i := 1158) (by decide +kernel)) rfl
theorem tw1159 : Cond.selects yX8_year.cls yX8_year yX8_year ∈ tb := tb_in (List.mem_of_getElem? (i := 1159) (by decide +kernel)) rfl
theorem mlL_129 : f_LV RL 129 mX8_year 3 := ⟨lcX8_year, tw1158, tw1159, Or.inl tw1157, hdX8_year⟩
abbrev mX8_keep : f_Y := (yX8_keep, cX8_keep, 2, (some .int))
theorem tw1170 : Cond.code yX8_keep cX8_keep 2 (some .int) ∈ tb := tb_in (List.mem_of_getElem? (i := 1170) (by decide +kernel)) rfl
theorem lcX8_keep : f_LC mX8_keep := ⟨tw1170, tw61⟩
theorem hdX8_keep : f_hd mX8_keep 0 := ⟨⟨by decide +kernel, by decide +kernel, by decide +kernel⟩, by decide⟩
theorem tw1167 : Cond.methodLink RL 133 yX8_keep ∈ tb := tb_in (List.mem_of_getElem? (i := 1167) (by decide +kernel)) rfl
theorem tw1168 : Cond.instanceMethod yX8_keep ∈ tb := tb_in (List.mem_of_getElem? (i := 1168) (by decide +kernel)) rfl
theorem tw1169 : Cond.selects yX8_keep.cls yX8_keep yX8_keep ∈ tb := tb_in (List.mem_of_getElem? (i := 1169) (by decide +kernel)) rfl
theorem mlL_133 : f_LV RL 133 mX8_keep 0 := ⟨lcX8_keep, tw1168, tw1169, Or.inl tw1167, hdX8_keep⟩
abbrev mX8_back : f_Y := (yX8_back, cX8_back, 2, (some .int))
theorem tw1174 : Cond.code yX8_back cX8_back 2 (some .int) ∈ tb := tb_in (List.mem_of_getElem? (i := 1174) (by decide +kernel)) rfl
theorem lcX8_back : f_LC mX8_back := ⟨tw1174, tw61⟩
theorem hdX8_back : f_hd mX8_back 0 := ⟨⟨by decide +kernel, by decide +kernel, by decide +kernel⟩, by decide⟩
theorem tw1171 : Cond.methodLink RL 137 yX8_back ∈ tb := tb_in (List.mem_of_getElem? (i := 1171) (by decide +kernel)) rfl
theorem tw1172 : Cond.instanceMethod yX8_back ∈ tb := tb_in (List.mem_of_getElem? (i := 1172) (by decide +kernel)) rfl
theorem tw1173 : Cond.selects yX8_back.cls yX8_back yX8_back ∈ tb := tb_in (List.mem_of_getElem? (i := 1173) (by decide +kernel)) rfl
theorem mlL_137 : f_LV RL 137 mX8_back 0 := ⟨lcX8_back, tw1172, tw1173, Or.inl tw1171, hdX8_back⟩
abbrev mX8_count : f_Y := (yX8_count, cX8_count, 2, (some .int))
theorem tw1178 : Cond.code yX8_count cX8_count 2 (some .int) ∈ tb := tb_in (List.mem_of_getElem? (i := 1178) (by decide +kernel)) rfl
theorem lcX8_count : f_LC mX8_count := ⟨tw1178, tw61⟩
theorem hdX8_count : f_hd mX8_count 1 := ⟨⟨by decide +kernel, by decide +kernel, by decide +kernel⟩, by decide⟩
theorem tw1175 : Cond.methodLink RL 141 yX8_count ∈ tb := tb_in (List.mem_of_getElem? (i := 1175) (by decide +kernel)) rfl
theorem tw1176 : Cond.instanceMethod yX8_count ∈ tb := tb_in (List.mem_of_getElem? (i := 1176) (by decide +kernel)) rfl
theorem tw1177 : Cond.selects yX8_count.cls yX8_count yX8_count ∈ tb := tb_in (List.mem_of_getElem? (i := 1177) (by decide +kernel)) rfl
theorem mlL_141 : f_LV RL 141 mX8_count 1 := ⟨lcX8_count, tw1176, tw1177, Or.inl tw1175, hdX8_count⟩
theorem kcJ6_265 : Cond.constant RJ6 265 (1431655765) ∈ tb := tb_in (List.mem_of_getElem? (i := 501) (by decide +kernel)) (by decide +kernel)
theorem kcJ6_266 : Cond.constant RJ6 266 (858993459) ∈ tb := tb_in (List.mem_of_getElem? (i := 502) (by decide +kernel)) (by decide +kernel)
theorem kcJ6_267 : Cond.constant RJ6 267 (252645135) ∈ tb := tb_in (List.mem_of_getElem? (i := 503) (by decide +kernel)) (by decide +kernel)
theorem kcX0_77 : Cond.constant RX0 77 (1000000) ∈ tb := tb_in (List.mem_of_getElem? (i := 540) (by decide +kernel)) (by decide +kernel)
theorem kcX4_50 : Cond.constant RX4 50 (1000000) ∈ tb := tb_in (List.mem_of_getElem? (i := 682) (by decide +kernel)) (by decide +kernel)
theorem kcX7_236 : Cond.constant RX7 236 (1000000) ∈ tb := tb_in (List.mem_of_getElem? (i := 746) (by decide +kernel)) (by decide +kernel)
theorem kcX7_301 : Cond.constantLong RX7 301 (7919) ∈ tb := tb_in (List.mem_of_getElem? (i := 793) (by decide +kernel)) (by decide +kernel)
theorem kcX7_303 : Cond.constantLong RX7 303 (6151) ∈ tb := tb_in (List.mem_of_getElem? (i := 794) (by decide +kernel)) (by decide +kernel)
theorem kcX7_305 : Cond.constantLong RX7 305 (65521) ∈ tb := tb_in (List.mem_of_getElem? (i := 795) (by decide +kernel)) (by decide +kernel)
theorem kcX7_307 : Cond.constantLong RX7 307 (8) ∈ tb := tb_in (List.mem_of_getElem? (i := 796) (by decide +kernel)) (by decide +kernel)
theorem kcX8_84 : Cond.constantLong RX8 84 (32) ∈ tb := tb_in (List.mem_of_getElem? (i := 924) (by decide +kernel)) (by decide +kernel)
theorem kcX8_86 : Cond.constantLong RX8 86 (126) ∈ tb := tb_in (List.mem_of_getElem? (i := 925) (by decide +kernel)) (by decide +kernel)
theorem kcX8_94 : Cond.constantLong RX8 94 (48) ∈ tb := tb_in (List.mem_of_getElem? (i := 945) (by decide +kernel)) (by decide +kernel)
theorem kcX8_96 : Cond.constantLong RX8 96 (57) ∈ tb := tb_in (List.mem_of_getElem? (i := 946) (by decide +kernel)) (by decide +kernel)
theorem kcX8_101 : Cond.constantLong RX8 101 (31) ∈ tb := tb_in (List.mem_of_getElem? (i := 951) (by decide +kernel)) (by decide +kernel)
theorem kcX8_82 : Cond.constantLong RX8 82 (5) ∈ tb := tb_in (List.mem_of_getElem? (i := 955) (by decide +kernel)) (by decide +kernel)
theorem kcX8_107 : Cond.constantLong RX8 107 (63) ∈ tb := tb_in (List.mem_of_getElem? (i := 956) (by decide +kernel)) (by decide +kernel)
theorem kcX8_109 : Cond.constantLong RX8 109 (20) ∈ tb := tb_in (List.mem_of_getElem? (i := 957) (by decide +kernel)) (by decide +kernel)
theorem kcX8_111 : Cond.constantLong RX8 111 (9) ∈ tb := tb_in (List.mem_of_getElem? (i := 958) (by decide +kernel)) (by decide +kernel)
theorem kcX8_180 : Cond.constantLong RX8 180 (3) ∈ tb := tb_in (List.mem_of_getElem? (i := 995) (by decide +kernel)) (by decide +kernel)
theorem kcX8_197 : Cond.constantLong RX8 197 (-1) ∈ tb := tb_in (List.mem_of_getElem? (i := 1043) (by decide +kernel)) (by decide +kernel)
theorem kcX8_236 : Cond.constantLong RX8 236 (2) ∈ tb := tb_in (List.mem_of_getElem? (i := 1129) (by decide +kernel)) (by decide +kernel)
theorem kcX8_245 : Cond.constantLong RX8 245 (9999) ∈ tb := tb_in (List.mem_of_getElem? (i := 1161) (by decide +kernel)) (by decide +kernel)
theorem kcX8_247 : Cond.constantLong RX8 247 (60) ∈ tb := tb_in (List.mem_of_getElem? (i := 1162) (by decide +kernel)) (by decide +kernel)
theorem kcX8_249 : Cond.constantLong RX8 249 (7919) ∈ tb := tb_in (List.mem_of_getElem? (i := 1163) (by decide +kernel)) (by decide +kernel)
theorem kcX8_251 : Cond.constantLong RX8 251 (6151) ∈ tb := tb_in (List.mem_of_getElem? (i := 1164) (by decide +kernel)) (by decide +kernel)
theorem kcX8_253 : Cond.constantLong RX8 253 (65521) ∈ tb := tb_in (List.mem_of_getElem? (i := 1165) (by decide +kernel)) (by decide +kernel)
theorem kcX8_255 : Cond.constantLong RX8 255 (8) ∈ tb := tb_in (List.mem_of_getElem? (i := 1166) (by decide +kernel)) (by decide +kernel)
end
