section
-- ===== PART A: goes FIRST, ahead of the names: the tables' words, and 'selects' of the private methods out of them =====
/-- a private method of a class that the tables say can be made, by its rows of tables_1 -/
def lw_okq (q : MethodName × Nat) : Prop := (q.1.cls ≠ "java/lang/invoke/MethodHandle" ∧ q.1.cls ≠ "java/lang/invoke/VarHandle") ∧ Cond.instantiable q.1.cls q.2 ∈ tables_1 ∧ Cond.privateMethod q.1 ∈ tables_1 ∧ Cond.instanceMethod q.1 ∈ tables_1
theorem lw_p0 : lw_okq (⟨"AsWithTheLast$Reader", "readItem", "(I)I"⟩, 3) := ⟨⟨by decide +kernel, by decide +kernel⟩, List.mem_of_getElem? (i := 97) (by decide +kernel), List.mem_of_getElem? (i := 297) (by decide +kernel), List.mem_of_getElem? (i := 298) (by decide +kernel)⟩
theorem lw_p1 : lw_okq (⟨"AsWithTheLast$Reader", "readNumber", "(I)I"⟩, 3) := ⟨⟨by decide +kernel, by decide +kernel⟩, List.mem_of_getElem? (i := 97) (by decide +kernel), List.mem_of_getElem? (i := 309) (by decide +kernel), List.mem_of_getElem? (i := 310) (by decide +kernel)⟩
theorem lw_p2 : lw_okq (⟨"AsWithTheLast$Reader", "takeItem", "(I)Z"⟩, 3) := ⟨⟨by decide +kernel, by decide +kernel⟩, List.mem_of_getElem? (i := 97) (by decide +kernel), List.mem_of_getElem? (i := 317) (by decide +kernel), List.mem_of_getElem? (i := 318) (by decide +kernel)⟩
theorem lw_p3 : lw_okq (⟨"AsWithTheLast$Reader", "takeKind", "()Z"⟩, 3) := ⟨⟨by decide +kernel, by decide +kernel⟩, List.mem_of_getElem? (i := 97) (by decide +kernel), List.mem_of_getElem? (i := 321) (by decide +kernel), List.mem_of_getElem? (i := 322) (by decide +kernel)⟩
theorem lw_p4 : lw_okq (⟨"AsWithTheLast$Reader", "takeErrand", "(I)Z"⟩, 3) := ⟨⟨by decide +kernel, by decide +kernel⟩, List.mem_of_getElem? (i := 97) (by decide +kernel), List.mem_of_getElem? (i := 339) (by decide +kernel), List.mem_of_getElem? (i := 340) (by decide +kernel)⟩
theorem lw_p5 : lw_okq (⟨"AsWithTheLast", "learnerNow", "(I)LAsWithTheLast$Learner;"⟩, 12) := ⟨⟨by decide +kernel, by decide +kernel⟩, List.mem_of_getElem? (i := 18) (by decide +kernel), List.mem_of_getElem? (i := 464) (by decide +kernel), List.mem_of_getElem? (i := 465) (by decide +kernel)⟩
theorem lw_p6 : lw_okq (⟨"AsWithTheLast$Learner", "likestDoing", "(I)I"⟩, 9) := ⟨⟨by decide +kernel, by decide +kernel⟩, List.mem_of_getElem? (i := 169) (by decide +kernel), List.mem_of_getElem? (i := 491) (by decide +kernel), List.mem_of_getElem? (i := 492) (by decide +kernel)⟩
theorem lw_p7 : lw_okq (⟨"AsWithTheLast$Learner", "keeps", "(I)Z"⟩, 9) := ⟨⟨by decide +kernel, by decide +kernel⟩, List.mem_of_getElem? (i := 169) (by decide +kernel), List.mem_of_getElem? (i := 497) (by decide +kernel), List.mem_of_getElem? (i := 498) (by decide +kernel)⟩
theorem lw_p8 : lw_okq (⟨"AsWithTheLast$Shelf", "dropOldest", "()V"⟩, 2) := ⟨⟨by decide +kernel, by decide +kernel⟩, List.mem_of_getElem? (i := 152) (by decide +kernel), List.mem_of_getElem? (i := 514) (by decide +kernel), List.mem_of_getElem? (i := 515) (by decide +kernel)⟩
theorem lw_p9 : lw_okq (⟨"AsWithTheLast$Shelf", "placeAt", "(I)LAsWithTheLast$Memory;"⟩, 2) := ⟨⟨by decide +kernel, by decide +kernel⟩, List.mem_of_getElem? (i := 152) (by decide +kernel), List.mem_of_getElem? (i := 518) (by decide +kernel), List.mem_of_getElem? (i := 519) (by decide +kernel)⟩
theorem lw_p10 : lw_okq (⟨"AsWithTheLast", "fillTimes", "(LAsWithTheLast$Learner;)V"⟩, 12) := ⟨⟨by decide +kernel, by decide +kernel⟩, List.mem_of_getElem? (i := 18) (by decide +kernel), List.mem_of_getElem? (i := 609) (by decide +kernel), List.mem_of_getElem? (i := 610) (by decide +kernel)⟩
theorem lw_p11 : lw_okq (⟨"AsWithTheLast", "comesRoundAfter", "(I)Z"⟩, 12) := ⟨⟨by decide +kernel, by decide +kernel⟩, List.mem_of_getElem? (i := 18) (by decide +kernel), List.mem_of_getElem? (i := 617) (by decide +kernel), List.mem_of_getElem? (i := 618) (by decide +kernel)⟩
theorem lw_p12 : lw_okq (⟨"AsWithTheLast$Orders", "addLeft", "(II)V"⟩, 5) := ⟨⟨by decide +kernel, by decide +kernel⟩, List.mem_of_getElem? (i := 205) (by decide +kernel), List.mem_of_getElem? (i := 632) (by decide +kernel), List.mem_of_getElem? (i := 633) (by decide +kernel)⟩
theorem lw_p13 : lw_okq (⟨"AsWithTheLast$Orders", "tryFrom", "(LAsWithTheLast$Learner;II)V"⟩, 5) := ⟨⟨by decide +kernel, by decide +kernel⟩, List.mem_of_getElem? (i := 205) (by decide +kernel), List.mem_of_getElem? (i := 638) (by decide +kernel), List.mem_of_getElem? (i := 639) (by decide +kernel)⟩
theorem lw_p14 : lw_okq (⟨"AsWithTheLast$Learner", "copyFrom", "(LAsWithTheLast$Learner;)V"⟩, 9) := ⟨⟨by decide +kernel, by decide +kernel⟩, List.mem_of_getElem? (i := 169) (by decide +kernel), List.mem_of_getElem? (i := 648) (by decide +kernel), List.mem_of_getElem? (i := 649) (by decide +kernel)⟩
theorem lw_p15 : lw_okq (⟨"AsWithTheLast", "canBe", "(II)Z"⟩, 12) := ⟨⟨by decide +kernel, by decide +kernel⟩, List.mem_of_getElem? (i := 18) (by decide +kernel), List.mem_of_getElem? (i := 673) (by decide +kernel), List.mem_of_getElem? (i := 674) (by decide +kernel)⟩
def lw_privs_1 : List (MethodName × Nat) := [(⟨"AsWithTheLast$Reader", "readItem", "(I)I"⟩, 3), (⟨"AsWithTheLast$Reader", "readNumber", "(I)I"⟩, 3), (⟨"AsWithTheLast$Reader", "takeItem", "(I)Z"⟩, 3), (⟨"AsWithTheLast$Reader", "takeKind", "()Z"⟩, 3), (⟨"AsWithTheLast$Reader", "takeErrand", "(I)Z"⟩, 3), (⟨"AsWithTheLast", "learnerNow", "(I)LAsWithTheLast$Learner;"⟩, 12), (⟨"AsWithTheLast$Learner", "likestDoing", "(I)I"⟩, 9), (⟨"AsWithTheLast$Learner", "keeps", "(I)Z"⟩, 9), (⟨"AsWithTheLast$Shelf", "dropOldest", "()V"⟩, 2), (⟨"AsWithTheLast$Shelf", "placeAt", "(I)LAsWithTheLast$Memory;"⟩, 2), (⟨"AsWithTheLast", "fillTimes", "(LAsWithTheLast$Learner;)V"⟩, 12), (⟨"AsWithTheLast", "comesRoundAfter", "(I)Z"⟩, 12), (⟨"AsWithTheLast$Orders", "addLeft", "(II)V"⟩, 5), (⟨"AsWithTheLast$Orders", "tryFrom", "(LAsWithTheLast$Learner;II)V"⟩, 5), (⟨"AsWithTheLast$Learner", "copyFrom", "(LAsWithTheLast$Learner;)V"⟩, 9), (⟨"AsWithTheLast", "canBe", "(II)Z"⟩, 12)]
theorem lw_r1 : ∀ q ∈ lw_privs_1, lw_okq q := List.forall_mem_cons.mpr ⟨lw_p0, List.forall_mem_cons.mpr ⟨lw_p1, List.forall_mem_cons.mpr ⟨lw_p2, List.forall_mem_cons.mpr ⟨lw_p3, List.forall_mem_cons.mpr ⟨lw_p4, List.forall_mem_cons.mpr ⟨lw_p5, List.forall_mem_cons.mpr ⟨lw_p6, List.forall_mem_cons.mpr ⟨lw_p7, List.forall_mem_cons.mpr ⟨lw_p8, List.forall_mem_cons.mpr ⟨lw_p9, List.forall_mem_cons.mpr ⟨lw_p10, List.forall_mem_cons.mpr ⟨lw_p11, List.forall_mem_cons.mpr ⟨lw_p12, List.forall_mem_cons.mpr ⟨lw_p13, List.forall_mem_cons.mpr ⟨lw_p14, List.forall_mem_cons.mpr ⟨lw_p15, fun _ h => absurd h List.not_mem_nil⟩⟩⟩⟩⟩⟩⟩⟩⟩⟩⟩⟩⟩⟩⟩⟩
theorem lw_p16 : lw_okq (⟨"AsWithTheLast", "speaksAgainst", "(II)Z"⟩, 12) := ⟨⟨by decide +kernel, by decide +kernel⟩, List.mem_of_getElem? (i := 18) (by decide +kernel), List.mem_of_getElem? (i := 677) (by decide +kernel), List.mem_of_getElem? (i := 678) (by decide +kernel)⟩
theorem lw_p17 : lw_okq (⟨"AsWithTheLast", "mostAlike", "(II)I"⟩, 12) := ⟨⟨by decide +kernel, by decide +kernel⟩, List.mem_of_getElem? (i := 18) (by decide +kernel), List.mem_of_getElem? (i := 690) (by decide +kernel), List.mem_of_getElem? (i := 691) (by decide +kernel)⟩
theorem lw_p18 : lw_okq (⟨"AsWithTheLast", "firstWrong", "(IIZ)I"⟩, 12) := ⟨⟨by decide +kernel, by decide +kernel⟩, List.mem_of_getElem? (i := 18) (by decide +kernel), List.mem_of_getElem? (i := 702) (by decide +kernel), List.mem_of_getElem? (i := 703) (by decide +kernel)⟩
theorem lw_p19 : lw_okq (⟨"AsWithTheLast", "drawnKind", "(II)I"⟩, 12) := ⟨⟨by decide +kernel, by decide +kernel⟩, List.mem_of_getElem? (i := 18) (by decide +kernel), List.mem_of_getElem? (i := 744) (by decide +kernel), List.mem_of_getElem? (i := 745) (by decide +kernel)⟩
theorem lw_p20 : lw_okq (⟨"AsWithTheLastModel", "tellKind", "(IIIII)V"⟩, 33) := ⟨⟨by decide +kernel, by decide +kernel⟩, List.mem_of_getElem? (i := 765) (by decide +kernel), List.mem_of_getElem? (i := 771) (by decide +kernel), List.mem_of_getElem? (i := 772) (by decide +kernel)⟩
theorem lw_p21 : lw_okq (⟨"AsWithTheLastModel", "readItem", "()Z"⟩, 33) := ⟨⟨by decide +kernel, by decide +kernel⟩, List.mem_of_getElem? (i := 765) (by decide +kernel), List.mem_of_getElem? (i := 892) (by decide +kernel), List.mem_of_getElem? (i := 893) (by decide +kernel)⟩
theorem lw_p22 : lw_okq (⟨"AsWithTheLastModel", "readNumbers", "(I)Z"⟩, 33) := ⟨⟨by decide +kernel, by decide +kernel⟩, List.mem_of_getElem? (i := 765) (by decide +kernel), List.mem_of_getElem? (i := 896) (by decide +kernel), List.mem_of_getElem? (i := 897) (by decide +kernel)⟩
theorem lw_p23 : lw_okq (⟨"AsWithTheLastModel", "readKind", "()Z"⟩, 33) := ⟨⟨by decide +kernel, by decide +kernel⟩, List.mem_of_getElem? (i := 765) (by decide +kernel), List.mem_of_getElem? (i := 902) (by decide +kernel), List.mem_of_getElem? (i := 903) (by decide +kernel)⟩
theorem lw_p24 : lw_okq (⟨"AsWithTheLastModel", "isKind", "(I)Z"⟩, 33) := ⟨⟨by decide +kernel, by decide +kernel⟩, List.mem_of_getElem? (i := 765) (by decide +kernel), List.mem_of_getElem? (i := 923) (by decide +kernel), List.mem_of_getElem? (i := 924) (by decide +kernel)⟩
theorem lw_p25 : lw_okq (⟨"AsWithTheLastModel", "unlikeOf", "(II)I"⟩, 33) := ⟨⟨by decide +kernel, by decide +kernel⟩, List.mem_of_getElem? (i := 765) (by decide +kernel), List.mem_of_getElem? (i := 939) (by decide +kernel), List.mem_of_getElem? (i := 940) (by decide +kernel)⟩
theorem lw_p26 : lw_okq (⟨"AsWithTheLastModel", "doesBy", "(III)I"⟩, 33) := ⟨⟨by decide +kernel, by decide +kernel⟩, List.mem_of_getElem? (i := 765) (by decide +kernel), List.mem_of_getElem? (i := 951) (by decide +kernel), List.mem_of_getElem? (i := 952) (by decide +kernel)⟩
theorem lw_p27 : lw_okq (⟨"AsWithTheLastModel", "note", "()V"⟩, 33) := ⟨⟨by decide +kernel, by decide +kernel⟩, List.mem_of_getElem? (i := 765) (by decide +kernel), List.mem_of_getElem? (i := 959) (by decide +kernel), List.mem_of_getElem? (i := 960) (by decide +kernel)⟩
theorem lw_p28 : lw_okq (⟨"AsWithTheLastModel", "day", "(III)I"⟩, 33) := ⟨⟨by decide +kernel, by decide +kernel⟩, List.mem_of_getElem? (i := 765) (by decide +kernel), List.mem_of_getElem? (i := 963) (by decide +kernel), List.mem_of_getElem? (i := 964) (by decide +kernel)⟩
theorem lw_p29 : lw_okq (⟨"AsWithTheLastModel", "goes", "(II)I"⟩, 33) := ⟨⟨by decide +kernel, by decide +kernel⟩, List.mem_of_getElem? (i := 765) (by decide +kernel), List.mem_of_getElem? (i := 967) (by decide +kernel), List.mem_of_getElem? (i := 968) (by decide +kernel)⟩
theorem lw_p30 : lw_okq (⟨"AsWithTheLastModel", "hear", "(II)V"⟩, 33) := ⟨⟨by decide +kernel, by decide +kernel⟩, List.mem_of_getElem? (i := 765) (by decide +kernel), List.mem_of_getElem? (i := 974) (by decide +kernel), List.mem_of_getElem? (i := 975) (by decide +kernel)⟩
theorem lw_p31 : lw_okq (⟨"AsWithTheLastModel", "tryRow", "(I)I"⟩, 33) := ⟨⟨by decide +kernel, by decide +kernel⟩, List.mem_of_getElem? (i := 765) (by decide +kernel), List.mem_of_getElem? (i := 999) (by decide +kernel), List.mem_of_getElem? (i := 1000) (by decide +kernel)⟩
def lw_privs_2 : List (MethodName × Nat) := [(⟨"AsWithTheLast", "speaksAgainst", "(II)Z"⟩, 12), (⟨"AsWithTheLast", "mostAlike", "(II)I"⟩, 12), (⟨"AsWithTheLast", "firstWrong", "(IIZ)I"⟩, 12), (⟨"AsWithTheLast", "drawnKind", "(II)I"⟩, 12), (⟨"AsWithTheLastModel", "tellKind", "(IIIII)V"⟩, 33), (⟨"AsWithTheLastModel", "readItem", "()Z"⟩, 33), (⟨"AsWithTheLastModel", "readNumbers", "(I)Z"⟩, 33), (⟨"AsWithTheLastModel", "readKind", "()Z"⟩, 33), (⟨"AsWithTheLastModel", "isKind", "(I)Z"⟩, 33), (⟨"AsWithTheLastModel", "unlikeOf", "(II)I"⟩, 33), (⟨"AsWithTheLastModel", "doesBy", "(III)I"⟩, 33), (⟨"AsWithTheLastModel", "note", "()V"⟩, 33), (⟨"AsWithTheLastModel", "day", "(III)I"⟩, 33), (⟨"AsWithTheLastModel", "goes", "(II)I"⟩, 33), (⟨"AsWithTheLastModel", "hear", "(II)V"⟩, 33), (⟨"AsWithTheLastModel", "tryRow", "(I)I"⟩, 33)]
theorem lw_r2 : ∀ q ∈ lw_privs_2, lw_okq q := List.forall_mem_cons.mpr ⟨lw_p16, List.forall_mem_cons.mpr ⟨lw_p17, List.forall_mem_cons.mpr ⟨lw_p18, List.forall_mem_cons.mpr ⟨lw_p19, List.forall_mem_cons.mpr ⟨lw_p20, List.forall_mem_cons.mpr ⟨lw_p21, List.forall_mem_cons.mpr ⟨lw_p22, List.forall_mem_cons.mpr ⟨lw_p23, List.forall_mem_cons.mpr ⟨lw_p24, List.forall_mem_cons.mpr ⟨lw_p25, List.forall_mem_cons.mpr ⟨lw_p26, List.forall_mem_cons.mpr ⟨lw_p27, List.forall_mem_cons.mpr ⟨lw_p28, List.forall_mem_cons.mpr ⟨lw_p29, List.forall_mem_cons.mpr ⟨lw_p30, List.forall_mem_cons.mpr ⟨lw_p31, fun _ h => absurd h List.not_mem_nil⟩⟩⟩⟩⟩⟩⟩⟩⟩⟩⟩⟩⟩⟩⟩⟩
theorem lw_p32 : lw_okq (⟨"AsWithTheLastModel", "putAside", "()V"⟩, 33) := ⟨⟨by decide +kernel, by decide +kernel⟩, List.mem_of_getElem? (i := 765) (by decide +kernel), List.mem_of_getElem? (i := 1003) (by decide +kernel), List.mem_of_getElem? (i := 1004) (by decide +kernel)⟩
theorem lw_p33 : lw_okq (⟨"AsWithTheLastModel", "runRow", "(II)I"⟩, 33) := ⟨⟨by decide +kernel, by decide +kernel⟩, List.mem_of_getElem? (i := 765) (by decide +kernel), List.mem_of_getElem? (i := 1007) (by decide +kernel), List.mem_of_getElem? (i := 1008) (by decide +kernel)⟩
theorem lw_p34 : lw_okq (⟨"AsWithTheLastModel", "takeBack", "()V"⟩, 33) := ⟨⟨by decide +kernel, by decide +kernel⟩, List.mem_of_getElem? (i := 765) (by decide +kernel), List.mem_of_getElem? (i := 1011) (by decide +kernel), List.mem_of_getElem? (i := 1012) (by decide +kernel)⟩
theorem lw_p35 : lw_okq (⟨"AsWithTheLastModel", "isRound", "(I)Z"⟩, 33) := ⟨⟨by decide +kernel, by decide +kernel⟩, List.mem_of_getElem? (i := 765) (by decide +kernel), List.mem_of_getElem? (i := 1019) (by decide +kernel), List.mem_of_getElem? (i := 1020) (by decide +kernel)⟩
theorem lw_p36 : lw_okq (⟨"AsWithTheLastModel", "exchange", "(II)V"⟩, 33) := ⟨⟨by decide +kernel, by decide +kernel⟩, List.mem_of_getElem? (i := 765) (by decide +kernel), List.mem_of_getElem? (i := 1027) (by decide +kernel), List.mem_of_getElem? (i := 1028) (by decide +kernel)⟩
theorem lw_p37 : lw_okq (⟨"AsWithTheLastModel", "nextRow", "()Z"⟩, 33) := ⟨⟨by decide +kernel, by decide +kernel⟩, List.mem_of_getElem? (i := 765) (by decide +kernel), List.mem_of_getElem? (i := 1031) (by decide +kernel), List.mem_of_getElem? (i := 1032) (by decide +kernel)⟩
theorem lw_p38 : lw_okq (⟨"AsWithTheLastModel", "tryTaught", "(II)I"⟩, 33) := ⟨⟨by decide +kernel, by decide +kernel⟩, List.mem_of_getElem? (i := 765) (by decide +kernel), List.mem_of_getElem? (i := 1039) (by decide +kernel), List.mem_of_getElem? (i := 1040) (by decide +kernel)⟩
theorem lw_p39 : lw_okq (⟨"AsWithTheLastModel", "isFit", "(II)Z"⟩, 33) := ⟨⟨by decide +kernel, by decide +kernel⟩, List.mem_of_getElem? (i := 765) (by decide +kernel), List.mem_of_getElem? (i := 1055) (by decide +kernel), List.mem_of_getElem? (i := 1056) (by decide +kernel)⟩
theorem lw_p40 : lw_okq (⟨"AsWithTheLastModel", "holds", "(II)Z"⟩, 33) := ⟨⟨by decide +kernel, by decide +kernel⟩, List.mem_of_getElem? (i := 765) (by decide +kernel), List.mem_of_getElem? (i := 1072) (by decide +kernel), List.mem_of_getElem? (i := 1073) (by decide +kernel)⟩
theorem lw_p41 : lw_okq (⟨"AsWithTheLastModel", "oneRound", "()I"⟩, 33) := ⟨⟨by decide +kernel, by decide +kernel⟩, List.mem_of_getElem? (i := 765) (by decide +kernel), List.mem_of_getElem? (i := 1085) (by decide +kernel), List.mem_of_getElem? (i := 1086) (by decide +kernel)⟩
theorem lw_p42 : lw_okq (⟨"AsWithTheLastModel", "copyTo", "([I[I)V"⟩, 33) := ⟨⟨by decide +kernel, by decide +kernel⟩, List.mem_of_getElem? (i := 765) (by decide +kernel), List.mem_of_getElem? (i := 1089) (by decide +kernel), List.mem_of_getElem? (i := 1090) (by decide +kernel)⟩
theorem lw_p43 : lw_okq (⟨"AsWithTheLastModel", "worstDay", "()I"⟩, 33) := ⟨⟨by decide +kernel, by decide +kernel⟩, List.mem_of_getElem? (i := 765) (by decide +kernel), List.mem_of_getElem? (i := 1093) (by decide +kernel), List.mem_of_getElem? (i := 1094) (by decide +kernel)⟩
theorem lw_p44 : lw_okq (⟨"AsWithTheLastModel", "twoRounds", "()I"⟩, 33) := ⟨⟨by decide +kernel, by decide +kernel⟩, List.mem_of_getElem? (i := 765) (by decide +kernel), List.mem_of_getElem? (i := 1097) (by decide +kernel), List.mem_of_getElem? (i := 1098) (by decide +kernel)⟩
theorem lw_p45 : lw_okq (⟨"AsWithTheLastModel", "worstTwo", "()I"⟩, 33) := ⟨⟨by decide +kernel, by decide +kernel⟩, List.mem_of_getElem? (i := 765) (by decide +kernel), List.mem_of_getElem? (i := 1101) (by decide +kernel), List.mem_of_getElem? (i := 1102) (by decide +kernel)⟩
def lw_privs_3 : List (MethodName × Nat) := [(⟨"AsWithTheLastModel", "putAside", "()V"⟩, 33), (⟨"AsWithTheLastModel", "runRow", "(II)I"⟩, 33), (⟨"AsWithTheLastModel", "takeBack", "()V"⟩, 33), (⟨"AsWithTheLastModel", "isRound", "(I)Z"⟩, 33), (⟨"AsWithTheLastModel", "exchange", "(II)V"⟩, 33), (⟨"AsWithTheLastModel", "nextRow", "()Z"⟩, 33), (⟨"AsWithTheLastModel", "tryTaught", "(II)I"⟩, 33), (⟨"AsWithTheLastModel", "isFit", "(II)Z"⟩, 33), (⟨"AsWithTheLastModel", "holds", "(II)Z"⟩, 33), (⟨"AsWithTheLastModel", "oneRound", "()I"⟩, 33), (⟨"AsWithTheLastModel", "copyTo", "([I[I)V"⟩, 33), (⟨"AsWithTheLastModel", "worstDay", "()I"⟩, 33), (⟨"AsWithTheLastModel", "twoRounds", "()I"⟩, 33), (⟨"AsWithTheLastModel", "worstTwo", "()I"⟩, 33)]
theorem lw_r3 : ∀ q ∈ lw_privs_3, lw_okq q := List.forall_mem_cons.mpr ⟨lw_p32, List.forall_mem_cons.mpr ⟨lw_p33, List.forall_mem_cons.mpr ⟨lw_p34, List.forall_mem_cons.mpr ⟨lw_p35, List.forall_mem_cons.mpr ⟨lw_p36, List.forall_mem_cons.mpr ⟨lw_p37, List.forall_mem_cons.mpr ⟨lw_p38, List.forall_mem_cons.mpr ⟨lw_p39, List.forall_mem_cons.mpr ⟨lw_p40, List.forall_mem_cons.mpr ⟨lw_p41, List.forall_mem_cons.mpr ⟨lw_p42, List.forall_mem_cons.mpr ⟨lw_p43, List.forall_mem_cons.mpr ⟨lw_p44, List.forall_mem_cons.mpr ⟨lw_p45, fun _ h => absurd h List.not_mem_nil⟩⟩⟩⟩⟩⟩⟩⟩⟩⟩⟩⟩⟩⟩
def lw_privs : List (MethodName × Nat) := lw_privs_1 ++ (lw_privs_2 ++ (lw_privs_3))
def lw_tbl : List Cond := k2_sels lw_privs ++ tables_1
theorem lw_privs_ok : ∀ q ∈ lw_privs, lw_okq q := by
  show ∀ q ∈ lw_privs_1 ++ (lw_privs_2 ++ (lw_privs_3)), lw_okq q
  exact List.forall_mem_append.mpr ⟨lw_r1, List.forall_mem_append.mpr ⟨lw_r2, lw_r3⟩⟩
-- ===== end of PART A; then your names; then what follows =====
def RX0 : String := "AsWithTheLast$Learner"
def TX0 : u_T := fun k => match k with
  | 0 => ("AsWithTheLast$Learner", "lesson", "LAsWithTheLast$Lesson;", true)
  | 1 => ("AsWithTheLast$Learner", "below", "LAsWithTheLast$Learner;", true)
  | 2 => ("AsWithTheLast$Learner", "latest", "LAsWithTheLast$Numbers;", true)
  | 3 => ("AsWithTheLast$Learner", "latestDoing", "LAsWithTheLast$Numbers;", true)
  | 4 => ("AsWithTheLast$Learner", "sort", "I", false)
  | 5 => ("AsWithTheLast$Learner", "first", "I", false)
  | 6 => ("AsWithTheLast$Learner", "heard", "I", false)
  | 7 => ("AsWithTheLast$Learner", "last", "I", false)
  | _ => ("AsWithTheLast$Learner", "before", "I", false)
def tyX0 : Nat → FieldType := fun k => match k with
  | 0 => .object "AsWithTheLast$Lesson"
  | 1 => .object "AsWithTheLast$Learner"
  | 2 => .object "AsWithTheLast$Numbers"
  | 3 => .object "AsWithTheLast$Numbers"
  | 4 => .int
  | 5 => .int
  | 6 => .int
  | 7 => .int
  | _ => .int
abbrev wsX00 : List Cond := u_ws RX0 TX0 9
theorem nmX0 : ∀ a, a < 9 → ∀ b, b < 9 → a ≠ b → (TX0 a).2.1 ≠ (TX0 b).2.1 := by decide +kernel
theorem tyX0_ok : ∀ k, k < 9 → parseFieldDescriptor (TX0 k).2.2.1 = some (tyX0 k) := by decide +kernel
abbrev cX0_init : ByteArray := prog_2_method_1_code
def yX0_init : MethodName := ⟨RX0, "<init>", "(LAsWithTheLast$Lesson;LAsWithTheLast$Learner;)V"⟩
abbrev cX0_begin : ByteArray := prog_2_method_2_code
def yX0_begin : MethodName := ⟨RX0, "begin", "(II)V"⟩
abbrev cX0_hear : ByteArray := prog_2_method_3_code
def yX0_hear : MethodName := ⟨RX0, "hear", "(II)V"⟩
abbrev cX0_hearAll : ByteArray := prog_2_method_4_code
def yX0_hearAll : MethodName := ⟨RX0, "hearAll", "(LAsWithTheLast$Numbers;)V"⟩
abbrev cX0_willDo : ByteArray := prog_2_method_5_code
def yX0_willDo : MethodName := ⟨RX0, "willDo", "(I)I"⟩
abbrev cX0_keeps : ByteArray := prog_2_method_6_code
def yX0_keeps : MethodName := ⟨RX0, "keeps", "(I)Z"⟩
abbrev cX0_likestDoing : ByteArray := prog_2_method_7_code
def yX0_likestDoing : MethodName := ⟨RX0, "likestDoing", "(I)I"⟩
abbrev cX0_day : ByteArray := prog_2_method_8_code
def yX0_day : MethodName := ⟨RX0, "day", "(I)I"⟩
abbrev cX0_lossOfRow : ByteArray := prog_2_method_9_code
def yX0_lossOfRow : MethodName := ⟨RX0, "lossOfRow", "()I"⟩
abbrev cX0_firstGoodOfRow : ByteArray := prog_2_method_10_code
def yX0_firstGoodOfRow : MethodName := ⟨RX0, "firstGoodOfRow", "()I"⟩
abbrev cX0_doingsOfRow : ByteArray := prog_2_method_11_code
def yX0_doingsOfRow : MethodName := ⟨RX0, "doingsOfRow", "()I"⟩
abbrev cX0_stepDown : ByteArray := prog_2_method_12_code
def yX0_stepDown : MethodName := ⟨RX0, "stepDown", "()LAsWithTheLast$Learner;"⟩
abbrev cX0_copyFrom : ByteArray := prog_2_method_13_code
def yX0_copyFrom : MethodName := ⟨RX0, "copyFrom", "(LAsWithTheLast$Learner;)V"⟩
def RX1 : String := "AsWithTheLast$Lesson"
def TX1 : u_T := fun k => match k with
  | 0 => ("AsWithTheLast$Lesson", "marks", "LAsWithTheLast$Numbers;", true)
  | 1 => ("AsWithTheLast$Lesson", "right", "LAsWithTheLast$Numbers;", true)
  | 2 => ("AsWithTheLast$Lesson", "spoilers", "LAsWithTheLast$Numbers;", true)
  | 3 => ("AsWithTheLast$Lesson", "worth", "LAsWithTheLast$Numbers;", true)
  | 4 => ("AsWithTheLast$Lesson", "chance", "LAsWithTheLast$Numbers;", true)
  | 5 => ("AsWithTheLast$Lesson", "errands", "LAsWithTheLast$Numbers;", true)
  | 6 => ("AsWithTheLast$Lesson", "sort", "I", false)
  | _ => ("AsWithTheLast$Lesson", "first", "I", false)
def tyX1 : Nat → FieldType := fun k => match k with
  | 0 => .object "AsWithTheLast$Numbers"
  | 1 => .object "AsWithTheLast$Numbers"
  | 2 => .object "AsWithTheLast$Numbers"
  | 3 => .object "AsWithTheLast$Numbers"
  | 4 => .object "AsWithTheLast$Numbers"
  | 5 => .object "AsWithTheLast$Numbers"
  | 6 => .int
  | _ => .int
abbrev wsX10 : List Cond := u_ws RX1 TX1 8
theorem nmX1 : ∀ a, a < 8 → ∀ b, b < 8 → a ≠ b → (TX1 a).2.1 ≠ (TX1 b).2.1 := by decide +kernel
theorem tyX1_ok : ∀ k, k < 8 → parseFieldDescriptor (TX1 k).2.2.1 = some (tyX1 k) := by decide +kernel
abbrev cX1_init : ByteArray := prog_3_method_1_code
def yX1_init : MethodName := ⟨RX1, "<init>", "()V"⟩
abbrev cX1_kinds : ByteArray := prog_3_method_2_code
def yX1_kinds : MethodName := ⟨RX1, "kinds", "()I"⟩
abbrev cX1_isKind : ByteArray := prog_3_method_3_code
def yX1_isKind : MethodName := ⟨RX1, "isKind", "(I)Z"⟩
abbrev cX1_allChances : ByteArray := prog_3_method_4_code
def yX1_allChances : MethodName := ⟨RX1, "allChances", "()I"⟩
abbrev cX1_outcome : ByteArray := prog_3_method_5_code
def yX1_outcome : MethodName := ⟨RX1, "outcome", "(II)I"⟩
abbrev cX1_lost : ByteArray := prog_3_method_6_code
def yX1_lost : MethodName := ⟨RX1, "lost", "(II)I"⟩
abbrev cX1_clear : ByteArray := prog_3_method_7_code
def yX1_clear : MethodName := ⟨RX1, "clear", "()V"⟩
abbrev cX1_copyFrom : ByteArray := prog_3_method_8_code
def yX1_copyFrom : MethodName := ⟨RX1, "copyFrom", "(LAsWithTheLast$Lesson;)V"⟩
def RX2 : String := "AsWithTheLast$Memory"
def TX2 : u_T := fun k => match k with
  | 0 => ("AsWithTheLast$Memory", "words", "LAsWithTheLast$Numbers;", true)
  | 1 => ("AsWithTheLast$Memory", "handed", "LAsWithTheLast$Numbers;", true)
  | 2 => ("AsWithTheLast$Memory", "days", "I", false)
  | 3 => ("AsWithTheLast$Memory", "lost", "I", false)
  | _ => ("AsWithTheLast$Memory", "good", "I", false)
def tyX2 : Nat → FieldType := fun k => match k with
  | 0 => .object "AsWithTheLast$Numbers"
  | 1 => .object "AsWithTheLast$Numbers"
  | 2 => .int
  | 3 => .int
  | _ => .int
abbrev wsX20 : List Cond := u_ws RX2 TX2 5
theorem nmX2 : ∀ a, a < 5 → ∀ b, b < 5 → a ≠ b → (TX2 a).2.1 ≠ (TX2 b).2.1 := by decide +kernel
theorem tyX2_ok : ∀ k, k < 5 → parseFieldDescriptor (TX2 k).2.2.1 = some (tyX2 k) := by decide +kernel
abbrev cX2_init : ByteArray := prog_4_method_1_code
def yX2_init : MethodName := ⟨RX2, "<init>", "()V"⟩
abbrev cX2_clear : ByteArray := prog_4_method_2_code
def yX2_clear : MethodName := ⟨RX2, "clear", "()V"⟩
abbrev cX2_addWord : ByteArray := prog_4_method_3_code
def yX2_addWord : MethodName := ⟨RX2, "addWord", "(II)V"⟩
abbrev cX2_addDay : ByteArray := prog_4_method_4_code
def yX2_addDay : MethodName := ⟨RX2, "addDay", "(LAsWithTheLast$Lesson;II)V"⟩
abbrev cX2_copyFrom : ByteArray := prog_4_method_5_code
def yX2_copyFrom : MethodName := ⟨RX2, "copyFrom", "(LAsWithTheLast$Memory;)V"⟩
def RX3 : String := "AsWithTheLast$Numbers"
def TX3 : u_T := fun k => match k with
  | 0 => ("AsWithTheLast$Numbers", "items", "[I", true)
  | _ => ("AsWithTheLast$Numbers", "size", "I", false)
def tyX3 : Nat → FieldType := fun k => match k with
  | 0 => .array .int
  | _ => .int
abbrev wsX30 : List Cond := u_ws RX3 TX3 2
theorem nmX3 : ∀ a, a < 2 → ∀ b, b < 2 → a ≠ b → (TX3 a).2.1 ≠ (TX3 b).2.1 := by decide +kernel
theorem tyX3_ok : ∀ k, k < 2 → parseFieldDescriptor (TX3 k).2.2.1 = some (tyX3 k) := by decide +kernel
abbrev cX3_init : ByteArray := prog_5_method_1_code
def yX3_init : MethodName := ⟨RX3, "<init>", "(I)V"⟩
abbrev cX3_size : ByteArray := prog_5_method_2_code
def yX3_size : MethodName := ⟨RX3, "size", "()I"⟩
abbrev cX3_isFull : ByteArray := prog_5_method_3_code
def yX3_isFull : MethodName := ⟨RX3, "isFull", "()Z"⟩
abbrev cX3_at : ByteArray := prog_5_method_4_code
def yX3_at : MethodName := ⟨RX3, "at", "(I)I"⟩
abbrev cX3_put : ByteArray := prog_5_method_5_code
def yX3_put : MethodName := ⟨RX3, "put", "(II)V"⟩
abbrev cX3_add : ByteArray := prog_5_method_6_code
def yX3_add : MethodName := ⟨RX3, "add", "(I)V"⟩
abbrev cX3_clear : ByteArray := prog_5_method_7_code
def yX3_clear : MethodName := ⟨RX3, "clear", "()V"⟩
abbrev cX3_fill : ByteArray := prog_5_method_8_code
def yX3_fill : MethodName := ⟨RX3, "fill", "(II)V"⟩
abbrev cX3_dropFirst : ByteArray := prog_5_method_9_code
def yX3_dropFirst : MethodName := ⟨RX3, "dropFirst", "()V"⟩
abbrev cX3_copyFrom : ByteArray := prog_5_method_10_code
def yX3_copyFrom : MethodName := ⟨RX3, "copyFrom", "(LAsWithTheLast$Numbers;)V"⟩
def RX4 : String := "AsWithTheLast$Orders"
def TX4 : u_T := fun k => match k with
  | 0 => ("AsWithTheLast$Orders", "lesson", "LAsWithTheLast$Lesson;", true)
  | 1 => ("AsWithTheLast$Orders", "left", "LAsWithTheLast$Numbers;", true)
  | 2 => ("AsWithTheLast$Orders", "tried", "LAsWithTheLast$Numbers;", true)
  | 3 => ("AsWithTheLast$Orders", "best", "LAsWithTheLast$Numbers;", true)
  | _ => ("AsWithTheLast$Orders", "least", "I", false)
def tyX4 : Nat → FieldType := fun k => match k with
  | 0 => .object "AsWithTheLast$Lesson"
  | 1 => .object "AsWithTheLast$Numbers"
  | 2 => .object "AsWithTheLast$Numbers"
  | 3 => .object "AsWithTheLast$Numbers"
  | _ => .int
abbrev wsX40 : List Cond := u_ws RX4 TX4 5
theorem nmX4 : ∀ a, a < 5 → ∀ b, b < 5 → a ≠ b → (TX4 a).2.1 ≠ (TX4 b).2.1 := by decide +kernel
theorem tyX4_ok : ∀ k, k < 5 → parseFieldDescriptor (TX4 k).2.2.1 = some (tyX4 k) := by decide +kernel
abbrev cX4_init : ByteArray := prog_6_method_1_code
def yX4_init : MethodName := ⟨RX4, "<init>", "(LAsWithTheLast$Lesson;)V"⟩
abbrev cX4_seek : ByteArray := prog_6_method_2_code
def yX4_seek : MethodName := ⟨RX4, "seek", "(LAsWithTheLast$Learner;)V"⟩
abbrev cX4_addLeft : ByteArray := prog_6_method_3_code
def yX4_addLeft : MethodName := ⟨RX4, "addLeft", "(II)V"⟩
abbrev cX4_tryFrom : ByteArray := prog_6_method_4_code
def yX4_tryFrom : MethodName := ⟨RX4, "tryFrom", "(LAsWithTheLast$Learner;II)V"⟩
def RX5 : String := "AsWithTheLast$Reader"
def TX5 : u_T := fun k => match k with
  | 0 => ("AsWithTheLast$Reader", "text", "LAsWithTheLast$Numbers;", true)
  | 1 => ("AsWithTheLast$Reader", "lesson", "LAsWithTheLast$Lesson;", true)
  | _ => ("AsWithTheLast$Reader", "numbers", "LAsWithTheLast$Numbers;", true)
def tyX5 : Nat → FieldType := fun k => match k with
  | 0 => .object "AsWithTheLast$Numbers"
  | 1 => .object "AsWithTheLast$Lesson"
  | _ => .object "AsWithTheLast$Numbers"
abbrev wsX50 : List Cond := u_ws RX5 TX5 3
theorem nmX5 : ∀ a, a < 3 → ∀ b, b < 3 → a ≠ b → (TX5 a).2.1 ≠ (TX5 b).2.1 := by decide +kernel
theorem tyX5_ok : ∀ k, k < 3 → parseFieldDescriptor (TX5 k).2.2.1 = some (tyX5 k) := by decide +kernel
abbrev cX5_init : ByteArray := prog_7_method_1_code
def yX5_init : MethodName := ⟨RX5, "<init>", "(LAsWithTheLast$Numbers;LAsWithTheLast$Lesson;)V"⟩
abbrev cX5_readAll : ByteArray := prog_7_method_2_code
def yX5_readAll : MethodName := ⟨RX5, "readAll", "()I"⟩
abbrev cX5_readItem : ByteArray := prog_7_method_3_code
def yX5_readItem : MethodName := ⟨RX5, "readItem", "(I)I"⟩
abbrev cX5_numbersBehind : ByteArray := prog_7_method_4_code
def yX5_numbersBehind : MethodName := ⟨RX5, "numbersBehind", "(I)I"⟩
abbrev cX5_readNumber : ByteArray := prog_7_method_5_code
def yX5_readNumber : MethodName := ⟨RX5, "readNumber", "(I)I"⟩
abbrev cX5_isFigure : ByteArray := prog_7_method_6_code
def yX5_isFigure : MethodName := ⟨RX5, "isFigure", "(I)Z"⟩
abbrev cX5_takeItem : ByteArray := prog_7_method_7_code
def yX5_takeItem : MethodName := ⟨RX5, "takeItem", "(I)Z"⟩
abbrev cX5_takeKind : ByteArray := prog_7_method_8_code
def yX5_takeKind : MethodName := ⟨RX5, "takeKind", "()Z"⟩
abbrev cX5_takeErrand : ByteArray := prog_7_method_9_code
def yX5_takeErrand : MethodName := ⟨RX5, "takeErrand", "(I)Z"⟩
def RX6 : String := "AsWithTheLast$Shelf"
def TX6 : u_T := fun k => match k with
  | 0 => ("AsWithTheLast$Shelf", "places", "[LAsWithTheLast$Memory;", true)
  | _ => ("AsWithTheLast$Shelf", "size", "I", false)
def tyX6 : Nat → FieldType := fun k => match k with
  | 0 => .array (.object "AsWithTheLast$Memory")
  | _ => .int
abbrev wsX60 : List Cond := u_ws RX6 TX6 2
theorem nmX6 : ∀ a, a < 2 → ∀ b, b < 2 → a ≠ b → (TX6 a).2.1 ≠ (TX6 b).2.1 := by decide +kernel
theorem tyX6_ok : ∀ k, k < 2 → parseFieldDescriptor (TX6 k).2.2.1 = some (tyX6 k) := by decide +kernel
abbrev cX6_init : ByteArray := prog_8_method_1_code
def yX6_init : MethodName := ⟨RX6, "<init>", "(I)V"⟩
abbrev cX6_size : ByteArray := prog_8_method_2_code
def yX6_size : MethodName := ⟨RX6, "size", "()I"⟩
abbrev cX6_isFull : ByteArray := prog_8_method_3_code
def yX6_isFull : MethodName := ⟨RX6, "isFull", "()Z"⟩
abbrev cX6_clear : ByteArray := prog_8_method_4_code
def yX6_clear : MethodName := ⟨RX6, "clear", "()V"⟩
abbrev cX6_add : ByteArray := prog_8_method_5_code
def yX6_add : MethodName := ⟨RX6, "add", "(LAsWithTheLast$Memory;)V"⟩
abbrev cX6_takeLast : ByteArray := prog_8_method_6_code
def yX6_takeLast : MethodName := ⟨RX6, "takeLast", "(LAsWithTheLast$Memory;)V"⟩
abbrev cX6_placeAt : ByteArray := prog_8_method_7_code
def yX6_placeAt : MethodName := ⟨RX6, "placeAt", "(I)LAsWithTheLast$Memory;"⟩
abbrev cX6_dropOldest : ByteArray := prog_8_method_8_code
def yX6_dropOldest : MethodName := ⟨RX6, "dropOldest", "()V"⟩
def RX7 : String := "AsWithTheLast"
def TX7 : u_T := fun k => match k with
  | 0 => ("AsWithTheLast", "text", "LAsWithTheLast$Numbers;", true)
  | 1 => ("AsWithTheLast", "told", "LAsWithTheLast$Lesson;", true)
  | 2 => ("AsWithTheLast", "reader", "LAsWithTheLast$Reader;", true)
  | 3 => ("AsWithTheLast", "laid", "LAsWithTheLast$Lesson;", true)
  | 4 => ("AsWithTheLast", "memory", "LAsWithTheLast$Memory;", true)
  | 5 => ("AsWithTheLast", "past", "LAsWithTheLast$Shelf;", true)
  | 6 => ("AsWithTheLast", "kept", "LAsWithTheLast$Shelf;", true)
  | 7 => ("AsWithTheLast", "seenThings", "LAsWithTheLast$Numbers;", true)
  | 8 => ("AsWithTheLast", "times", "LAsWithTheLast$Numbers;", true)
  | 9 => ("AsWithTheLast", "alike", "LAsWithTheLast$Numbers;", true)
  | 10 => ("AsWithTheLast", "learner", "LAsWithTheLast$Learner;", true)
  | _ => ("AsWithTheLast", "orders", "LAsWithTheLast$Orders;", true)
def tyX7 : Nat → FieldType := fun k => match k with
  | 0 => .object "AsWithTheLast$Numbers"
  | 1 => .object "AsWithTheLast$Lesson"
  | 2 => .object "AsWithTheLast$Reader"
  | 3 => .object "AsWithTheLast$Lesson"
  | 4 => .object "AsWithTheLast$Memory"
  | 5 => .object "AsWithTheLast$Shelf"
  | 6 => .object "AsWithTheLast$Shelf"
  | 7 => .object "AsWithTheLast$Numbers"
  | 8 => .object "AsWithTheLast$Numbers"
  | 9 => .object "AsWithTheLast$Numbers"
  | 10 => .object "AsWithTheLast$Learner"
  | _ => .object "AsWithTheLast$Orders"
abbrev wsX70 : List Cond := u_ws RX7 TX7 12
theorem nmX7 : ∀ a, a < 12 → ∀ b, b < 12 → a ≠ b → (TX7 a).2.1 ≠ (TX7 b).2.1 := by decide +kernel
theorem tyX7_ok : ∀ k, k < 12 → parseFieldDescriptor (TX7 k).2.2.1 = some (tyX7 k) := by decide +kernel
abbrev cX7_init : ByteArray := prog_1_method_1_code
def yX7_init : MethodName := ⟨RX7, "<init>", "()V"⟩
abbrev cX7_write : ByteArray := prog_1_method_2_code
def yX7_write : MethodName := ⟨RX7, "write", "(I)I"⟩
abbrev cX7_wipe : ByteArray := prog_1_method_3_code
def yX7_wipe : MethodName := ⟨RX7, "wipe", "()I"⟩
abbrev cX7_fault : ByteArray := prog_1_method_4_code
def yX7_fault : MethodName := ⟨RX7, "fault", "()I"⟩
abbrev cX7_lay : ByteArray := prog_1_method_5_code
def yX7_lay : MethodName := ⟨RX7, "lay", "()I"⟩
abbrev cX7_kind : ByteArray := prog_1_method_6_code
def yX7_kind : MethodName := ⟨RX7, "kind", "(II)I"⟩
abbrev cX7_errand : ByteArray := prog_1_method_7_code
def yX7_errand : MethodName := ⟨RX7, "errand", "(I)I"⟩
abbrev cX7_word : ByteArray := prog_1_method_8_code
def yX7_word : MethodName := ⟨RX7, "word", "(I)I"⟩
abbrev cX7_unlike : ByteArray := prog_1_method_9_code
def yX7_unlike : MethodName := ⟨RX7, "unlike", "(II)I"⟩
abbrev cX7_does : ByteArray := prog_1_method_10_code
def yX7_does : MethodName := ⟨RX7, "does", "(II)I"⟩
abbrev cX7_hand : ByteArray := prog_1_method_11_code
def yX7_hand : MethodName := ⟨RX7, "hand", "(I)I"⟩
abbrev cX7_teach : ByteArray := prog_1_method_12_code
def yX7_teach : MethodName := ⟨RX7, "teach", "(II)I"⟩
abbrev cX7_undo : ByteArray := prog_1_method_13_code
def yX7_undo : MethodName := ⟨RX7, "undo", "()I"⟩
abbrev cX7_tell : ByteArray := prog_1_method_14_code
def yX7_tell : MethodName := ⟨RX7, "tell", "(I)I"⟩
abbrev cX7_noRow : ByteArray := prog_1_method_15_code
def yX7_noRow : MethodName := ⟨RX7, "noRow", "()I"⟩
abbrev cX7_run : ByteArray := prog_1_method_16_code
def yX7_run : MethodName := ⟨RX7, "run", "(III)I"⟩
abbrev cX7_round : ByteArray := prog_1_method_17_code
def yX7_round : MethodName := ⟨RX7, "round", "()I"⟩
abbrev cX7_order : ByteArray := prog_1_method_18_code
def yX7_order : MethodName := ⟨RX7, "order", "(I)I"⟩
abbrev cX7_best : ByteArray := prog_1_method_19_code
def yX7_best : MethodName := ⟨RX7, "best", "(I)I"⟩
abbrev cX7_seen : ByteArray := prog_1_method_20_code
def yX7_seen : MethodName := ⟨RX7, "seen", "(II)I"⟩
abbrev cX7_forget : ByteArray := prog_1_method_21_code
def yX7_forget : MethodName := ⟨RX7, "forget", "()I"⟩
abbrev cX7_fits : ByteArray := prog_1_method_22_code
def yX7_fits : MethodName := ⟨RX7, "fits", "()I"⟩
abbrev cX7_firsts : ByteArray := prog_1_method_23_code
def yX7_firsts : MethodName := ⟨RX7, "firsts", "(I)I"⟩
abbrev cX7_ask : ByteArray := prog_1_method_24_code
def yX7_ask : MethodName := ⟨RX7, "ask", "(I)I"⟩
abbrev cX7_rule : ByteArray := prog_1_method_25_code
def yX7_rule : MethodName := ⟨RX7, "rule", "(I)I"⟩
abbrev cX7_wrong : ByteArray := prog_1_method_26_code
def yX7_wrong : MethodName := ⟨RX7, "wrong", "(IIZ)I"⟩
abbrev cX7_byTurns : ByteArray := prog_1_method_27_code
def yX7_byTurns : MethodName := ⟨RX7, "byTurns", "(I)I"⟩
abbrev cX7_mean : ByteArray := prog_1_method_28_code
def yX7_mean : MethodName := ⟨RX7, "mean", "(II)I"⟩
abbrev cX7_year : ByteArray := prog_1_method_29_code
def yX7_year : MethodName := ⟨RX7, "year", "(III)I"⟩
abbrev cX7_keep : ByteArray := prog_1_method_30_code
def yX7_keep : MethodName := ⟨RX7, "keep", "()I"⟩
abbrev cX7_back : ByteArray := prog_1_method_31_code
def yX7_back : MethodName := ⟨RX7, "back", "()I"⟩
abbrev cX7_count : ByteArray := prog_1_method_32_code
def yX7_count : MethodName := ⟨RX7, "count", "(I)I"⟩
abbrev cX7_isWithin : ByteArray := prog_1_method_33_code
def yX7_isWithin : MethodName := ⟨RX7, "isWithin", "(III)Z"⟩
abbrev cX7_isSort : ByteArray := prog_1_method_34_code
def yX7_isSort : MethodName := ⟨RX7, "isSort", "(I)Z"⟩
abbrev cX7_isDoing : ByteArray := prog_1_method_35_code
def yX7_isDoing : MethodName := ⟨RX7, "isDoing", "(I)Z"⟩
abbrev cX7_wordOf : ByteArray := prog_1_method_36_code
def yX7_wordOf : MethodName := ⟨RX7, "wordOf", "(II)I"⟩
abbrev cX7_marksApart : ByteArray := prog_1_method_37_code
def yX7_marksApart : MethodName := ⟨RX7, "marksApart", "(II)I"⟩
abbrev cX7_learnerNow : ByteArray := prog_1_method_38_code
def yX7_learnerNow : MethodName := ⟨RX7, "learnerNow", "(I)LAsWithTheLast$Learner;"⟩
abbrev cX7_fillTimes : ByteArray := prog_1_method_39_code
def yX7_fillTimes : MethodName := ⟨RX7, "fillTimes", "(LAsWithTheLast$Learner;)V"⟩
abbrev cX7_comesRoundAfter : ByteArray := prog_1_method_40_code
def yX7_comesRoundAfter : MethodName := ⟨RX7, "comesRoundAfter", "(I)Z"⟩
abbrev cX7_canBe : ByteArray := prog_1_method_41_code
def yX7_canBe : MethodName := ⟨RX7, "canBe", "(II)Z"⟩
abbrev cX7_speaksAgainst : ByteArray := prog_1_method_42_code
def yX7_speaksAgainst : MethodName := ⟨RX7, "speaksAgainst", "(II)Z"⟩
abbrev cX7_mostAlike : ByteArray := prog_1_method_43_code
def yX7_mostAlike : MethodName := ⟨RX7, "mostAlike", "(II)I"⟩
abbrev cX7_firstWrong : ByteArray := prog_1_method_44_code
def yX7_firstWrong : MethodName := ⟨RX7, "firstWrong", "(IIZ)I"⟩
abbrev cX7_drawnKind : ByteArray := prog_1_method_45_code
def yX7_drawnKind : MethodName := ⟨RX7, "drawnKind", "(II)I"⟩
abbrev cX7_lossAtMothersTurn : ByteArray := prog_1_method_46_code
def yX7_lossAtMothersTurn : MethodName := ⟨RX7, "lossAtMothersTurn", "(LAsWithTheLast$Lesson;LAsWithTheLast$Learner;II)I"⟩
abbrev cX7_lossAtOthersTurn : ByteArray := prog_1_method_47_code
def yX7_lossAtOthersTurn : MethodName := ⟨RX7, "lossAtOthersTurn", "(LAsWithTheLast$Lesson;LAsWithTheLast$Learner;II)I"⟩
abbrev cX7_lossByChances : ByteArray := prog_1_method_48_code
def yX7_lossByChances : MethodName := ⟨RX7, "lossByChances", "(LAsWithTheLast$Lesson;LAsWithTheLast$Learner;II)I"⟩
abbrev cX7_power : ByteArray := prog_1_method_49_code
def yX7_power : MethodName := ⟨RX7, "power", "(II)I"⟩
abbrev cX7_greatestDivisor : ByteArray := prog_1_method_50_code
def yX7_greatestDivisor : MethodName := ⟨RX7, "greatestDivisor", "(II)I"⟩
def RX8 : String := "AsWithTheLastModel"
def TX8 : u_T := fun k => match k with
  | 0 => ("AsWithTheLastModel", "told", "[I", true)
  | 1 => ("AsWithTheLastModel", "kinds", "I", false)
  | 2 => ("AsWithTheLastModel", "sort", "I", false)
  | 3 => ("AsWithTheLastModel", "firstDoing", "I", false)
  | 4 => ("AsWithTheLastModel", "errands", "[I", true)
  | 5 => ("AsWithTheLastModel", "rowLong", "I", false)
  | 6 => ("AsWithTheLastModel", "st", "[I", true)
  | 7 => ("AsWithTheLastModel", "text", "[I", true)
  | 8 => ("AsWithTheLastModel", "letters", "I", false)
  | 9 => ("AsWithTheLastModel", "place", "I", false)
  | 10 => ("AsWithTheLastModel", "number", "[I", true)
  | 11 => ("AsWithTheLastModel", "readTold", "[I", true)
  | 12 => ("AsWithTheLastModel", "readKinds", "I", false)
  | 13 => ("AsWithTheLastModel", "readSort", "I", false)
  | 14 => ("AsWithTheLastModel", "readFirst", "I", false)
  | 15 => ("AsWithTheLastModel", "readErrands", "[I", true)
  | 16 => ("AsWithTheLastModel", "readLong", "I", false)
  | 17 => ("AsWithTheLastModel", "did", "I", false)
  | 18 => ("AsWithTheLastModel", "ahead", "[I", true)
  | 19 => ("AsWithTheLastModel", "undoMany", "I", false)
  | 20 => ("AsWithTheLastModel", "aside", "[I", true)
  | 21 => ("AsWithTheLastModel", "done", "[I", true)
  | 22 => ("AsWithTheLastModel", "went", "[I", true)
  | 23 => ("AsWithTheLastModel", "passes", "[I", true)
  | 24 => ("AsWithTheLastModel", "had", "[I", true)
  | 25 => ("AsWithTheLastModel", "bestRow", "[I", true)
  | 26 => ("AsWithTheLastModel", "seenAt", "[I", true)
  | 27 => ("AsWithTheLastModel", "seenDid", "[I", true)
  | 28 => ("AsWithTheLastModel", "seenMany", "I", false)
  | 29 => ("AsWithTheLastModel", "ahead1", "[I", true)
  | 30 => ("AsWithTheLastModel", "ahead2", "[I", true)
  | 31 => ("AsWithTheLastModel", "kept", "[I", true)
  | _ => ("AsWithTheLastModel", "keptMany", "I", false)
def tyX8 : Nat → FieldType := fun k => match k with
  | 0 => .array .int
  | 1 => .int
  | 2 => .int
  | 3 => .int
  | 4 => .array .int
  | 5 => .int
  | 6 => .array .int
  | 7 => .array .int
  | 8 => .int
  | 9 => .int
  | 10 => .array .int
  | 11 => .array .int
  | 12 => .int
  | 13 => .int
  | 14 => .int
  | 15 => .array .int
  | 16 => .int
  | 17 => .int
  | 18 => .array .int
  | 19 => .int
  | 20 => .array .int
  | 21 => .array .int
  | 22 => .array .int
  | 23 => .array .int
  | 24 => .array .int
  | 25 => .array .int
  | 26 => .array .int
  | 27 => .array .int
  | 28 => .int
  | 29 => .array .int
  | 30 => .array .int
  | 31 => .array .int
  | _ => .int
abbrev wsX80 : List Cond := u_ws RX8 TX8 33
theorem nmX8 : ∀ a, a < 33 → ∀ b, b < 33 → a ≠ b → (TX8 a).2.1 ≠ (TX8 b).2.1 := by decide +kernel
theorem tyX8_ok : ∀ k, k < 33 → parseFieldDescriptor (TX8 k).2.2.1 = some (tyX8 k) := by decide +kernel
abbrev cX8_init : ByteArray := prog_10_method_1_code
def yX8_init : MethodName := ⟨RX8, "<init>", "()V"⟩
abbrev cX8_tellKind : ByteArray := prog_10_method_2_code
def yX8_tellKind : MethodName := ⟨RX8, "tellKind", "(IIIII)V"⟩
abbrev cX8_in : ByteArray := prog_10_method_3_code
def yX8_in : MethodName := ⟨RX8, "in", "(JJJ)Z"⟩
abbrev cX8_has : ByteArray := prog_10_method_4_code
def yX8_has : MethodName := ⟨RX8, "has", "(II)Z"⟩
abbrev cX8_ones : ByteArray := prog_10_method_5_code
def yX8_ones : MethodName := ⟨RX8, "ones", "(I)I"⟩
abbrev cX8_isKind : ByteArray := prog_10_method_6_code
def yX8_isKind : MethodName := ⟨RX8, "isKind", "(I)Z"⟩
abbrev cX8_isDoing : ByteArray := prog_10_method_7_code
def yX8_isDoing : MethodName := ⟨RX8, "isDoing", "(I)Z"⟩
abbrev cX8_write : ByteArray := prog_10_method_8_code
def yX8_write : MethodName := ⟨RX8, "write", "(I)I"⟩
abbrev cX8_wipe : ByteArray := prog_10_method_9_code
def yX8_wipe : MethodName := ⟨RX8, "wipe", "()I"⟩
abbrev cX8_readNumbers : ByteArray := prog_10_method_10_code
def yX8_readNumbers : MethodName := ⟨RX8, "readNumbers", "(I)Z"⟩
abbrev cX8_readKind : ByteArray := prog_10_method_11_code
def yX8_readKind : MethodName := ⟨RX8, "readKind", "()Z"⟩
abbrev cX8_readItem : ByteArray := prog_10_method_12_code
def yX8_readItem : MethodName := ⟨RX8, "readItem", "()Z"⟩
abbrev cX8_fault : ByteArray := prog_10_method_13_code
def yX8_fault : MethodName := ⟨RX8, "fault", "()I"⟩
abbrev cX8_lay : ByteArray := prog_10_method_14_code
def yX8_lay : MethodName := ⟨RX8, "lay", "()I"⟩
abbrev cX8_kind : ByteArray := prog_10_method_15_code
def yX8_kind : MethodName := ⟨RX8, "kind", "(II)I"⟩
abbrev cX8_errand : ByteArray := prog_10_method_16_code
def yX8_errand : MethodName := ⟨RX8, "errand", "(I)I"⟩
abbrev cX8_word : ByteArray := prog_10_method_17_code
def yX8_word : MethodName := ⟨RX8, "word", "(I)I"⟩
abbrev cX8_unlikeOf : ByteArray := prog_10_method_18_code
def yX8_unlikeOf : MethodName := ⟨RX8, "unlikeOf", "(II)I"⟩
abbrev cX8_unlike : ByteArray := prog_10_method_19_code
def yX8_unlike : MethodName := ⟨RX8, "unlike", "(II)I"⟩
abbrev cX8_doesBy : ByteArray := prog_10_method_20_code
def yX8_doesBy : MethodName := ⟨RX8, "doesBy", "(III)I"⟩
abbrev cX8_goes : ByteArray := prog_10_method_21_code
def yX8_goes : MethodName := ⟨RX8, "goes", "(II)I"⟩
abbrev cX8_hear : ByteArray := prog_10_method_22_code
def yX8_hear : MethodName := ⟨RX8, "hear", "(II)V"⟩
abbrev cX8_day : ByteArray := prog_10_method_23_code
def yX8_day : MethodName := ⟨RX8, "day", "(III)I"⟩
abbrev cX8_does : ByteArray := prog_10_method_24_code
def yX8_does : MethodName := ⟨RX8, "does", "(II)I"⟩
abbrev cX8_note : ByteArray := prog_10_method_25_code
def yX8_note : MethodName := ⟨RX8, "note", "()V"⟩
abbrev cX8_hand : ByteArray := prog_10_method_26_code
def yX8_hand : MethodName := ⟨RX8, "hand", "(I)I"⟩
abbrev cX8_teach : ByteArray := prog_10_method_27_code
def yX8_teach : MethodName := ⟨RX8, "teach", "(II)I"⟩
abbrev cX8_undo : ByteArray := prog_10_method_28_code
def yX8_undo : MethodName := ⟨RX8, "undo", "()I"⟩
abbrev cX8_tell : ByteArray := prog_10_method_29_code
def yX8_tell : MethodName := ⟨RX8, "tell", "(I)I"⟩
abbrev cX8_noRow : ByteArray := prog_10_method_30_code
def yX8_noRow : MethodName := ⟨RX8, "noRow", "()I"⟩
abbrev cX8_putAside : ByteArray := prog_10_method_31_code
def yX8_putAside : MethodName := ⟨RX8, "putAside", "()V"⟩
abbrev cX8_takeBack : ByteArray := prog_10_method_32_code
def yX8_takeBack : MethodName := ⟨RX8, "takeBack", "()V"⟩
abbrev cX8_runRow : ByteArray := prog_10_method_33_code
def yX8_runRow : MethodName := ⟨RX8, "runRow", "(II)I"⟩
abbrev cX8_tryRow : ByteArray := prog_10_method_34_code
def yX8_tryRow : MethodName := ⟨RX8, "tryRow", "(I)I"⟩
abbrev cX8_run : ByteArray := prog_10_method_35_code
def yX8_run : MethodName := ⟨RX8, "run", "(III)I"⟩
abbrev cX8_isRound : ByteArray := prog_10_method_36_code
def yX8_isRound : MethodName := ⟨RX8, "isRound", "(I)Z"⟩
abbrev cX8_round : ByteArray := prog_10_method_37_code
def yX8_round : MethodName := ⟨RX8, "round", "()I"⟩
abbrev cX8_nextRow : ByteArray := prog_10_method_38_code
def yX8_nextRow : MethodName := ⟨RX8, "nextRow", "()Z"⟩
abbrev cX8_exchange : ByteArray := prog_10_method_39_code
def yX8_exchange : MethodName := ⟨RX8, "exchange", "(II)V"⟩
abbrev cX8_order : ByteArray := prog_10_method_40_code
def yX8_order : MethodName := ⟨RX8, "order", "(I)I"⟩
abbrev cX8_tryTaught : ByteArray := prog_10_method_41_code
def yX8_tryTaught : MethodName := ⟨RX8, "tryTaught", "(II)I"⟩
abbrev cX8_best : ByteArray := prog_10_method_42_code
def yX8_best : MethodName := ⟨RX8, "best", "(I)I"⟩
abbrev cX8_seen : ByteArray := prog_10_method_43_code
def yX8_seen : MethodName := ⟨RX8, "seen", "(II)I"⟩
abbrev cX8_forget : ByteArray := prog_10_method_44_code
def yX8_forget : MethodName := ⟨RX8, "forget", "()I"⟩
abbrev cX8_isFit : ByteArray := prog_10_method_45_code
def yX8_isFit : MethodName := ⟨RX8, "isFit", "(II)Z"⟩
abbrev cX8_fits : ByteArray := prog_10_method_46_code
def yX8_fits : MethodName := ⟨RX8, "fits", "()I"⟩
abbrev cX8_firsts : ByteArray := prog_10_method_47_code
def yX8_firsts : MethodName := ⟨RX8, "firsts", "(I)I"⟩
abbrev cX8_ask : ByteArray := prog_10_method_48_code
def yX8_ask : MethodName := ⟨RX8, "ask", "(I)I"⟩
abbrev cX8_holds : ByteArray := prog_10_method_49_code
def yX8_holds : MethodName := ⟨RX8, "holds", "(II)Z"⟩
abbrev cX8_rule : ByteArray := prog_10_method_50_code
def yX8_rule : MethodName := ⟨RX8, "rule", "(I)I"⟩
abbrev cX8_wrong : ByteArray := prog_10_method_51_code
def yX8_wrong : MethodName := ⟨RX8, "wrong", "(IIZ)I"⟩
abbrev cX8_copyTo : ByteArray := prog_10_method_52_code
def yX8_copyTo : MethodName := ⟨RX8, "copyTo", "([I[I)V"⟩
abbrev cX8_worstDay : ByteArray := prog_10_method_53_code
def yX8_worstDay : MethodName := ⟨RX8, "worstDay", "()I"⟩
abbrev cX8_oneRound : ByteArray := prog_10_method_54_code
def yX8_oneRound : MethodName := ⟨RX8, "oneRound", "()I"⟩
abbrev cX8_worstTwo : ByteArray := prog_10_method_55_code
def yX8_worstTwo : MethodName := ⟨RX8, "worstTwo", "()I"⟩
abbrev cX8_twoRounds : ByteArray := prog_10_method_56_code
def yX8_twoRounds : MethodName := ⟨RX8, "twoRounds", "()I"⟩
abbrev cX8_byTurns : ByteArray := prog_10_method_57_code
def yX8_byTurns : MethodName := ⟨RX8, "byTurns", "(I)I"⟩
abbrev cX8_common : ByteArray := prog_10_method_58_code
def yX8_common : MethodName := ⟨RX8, "common", "(JJ)J"⟩
abbrev cX8_mean : ByteArray := prog_10_method_59_code
def yX8_mean : MethodName := ⟨RX8, "mean", "(II)I"⟩
abbrev cX8_year : ByteArray := prog_10_method_60_code
def yX8_year : MethodName := ⟨RX8, "year", "(III)I"⟩
abbrev cX8_keep : ByteArray := prog_10_method_61_code
def yX8_keep : MethodName := ⟨RX8, "keep", "()I"⟩
abbrev cX8_back : ByteArray := prog_10_method_62_code
def yX8_back : MethodName := ⟨RX8, "back", "()I"⟩
abbrev cX8_count : ByteArray := prog_10_method_63_code
def yX8_count : MethodName := ⟨RX8, "count", "(I)I"⟩
def RJ6 : String := "java/lang/Integer"
def TJ6 : u_T := fun k => match k with
  | _ => ("", "", "", false)
def tyJ6 : Nat → FieldType := fun k => match k with
  | _ => .int
abbrev wsJ60 : List Cond := u_ws RJ6 TJ6 0
theorem nmJ6 : ∀ a, a < 0 → ∀ b, b < 0 → a ≠ b → (TJ6 a).2.1 ≠ (TJ6 b).2.1 := by decide +kernel
theorem tyJ6_ok : ∀ k, k < 0 → parseFieldDescriptor (TJ6 k).2.2.1 = some (tyJ6 k) := by decide +kernel
abbrev cJ6_bitCount_0f7a4 : ByteArray := prog_11_method_49_code
def yJ6_bitCount_0f7a4 : MethodName := ⟨RJ6, "bitCount", "(I)I"⟩
def RJ9 : String := "java/lang/Math"
def TJ9 : u_T := fun k => match k with
  | _ => ("", "", "", false)
def tyJ9 : Nat → FieldType := fun k => match k with
  | _ => .int
abbrev wsJ90 : List Cond := u_ws RJ9 TJ9 0
theorem nmJ9 : ∀ a, a < 0 → ∀ b, b < 0 → a ≠ b → (TJ9 a).2.1 ≠ (TJ9 b).2.1 := by decide +kernel
theorem tyJ9_ok : ∀ k, k < 0 → parseFieldDescriptor (TJ9 k).2.2.1 = some (tyJ9 k) := by decide +kernel
abbrev cJ9_max_7cf53 : ByteArray := prog_12_method_65_code
def yJ9_max_7cf53 : MethodName := ⟨RJ9, "max", "(II)I"⟩
abbrev cJ9_min_7cf53 : ByteArray := prog_12_method_69_code
def yJ9_min_7cf53 : MethodName := ⟨RJ9, "min", "(II)I"⟩
def RJ0 : String := "java/lang/String"
def TJ0 : u_T := fun k => match k with
  | _ => ("", "", "", false)
def tyJ0 : Nat → FieldType := fun k => match k with
  | _ => .int
abbrev wsJ00 : List Cond := u_ws RJ0 TJ0 0
theorem nmJ0 : ∀ a, a < 0 → ∀ b, b < 0 → a ≠ b → (TJ0 a).2.1 ≠ (TJ0 b).2.1 := by decide +kernel
theorem tyJ0_ok : ∀ k, k < 0 → parseFieldDescriptor (TJ0 k).2.2.1 = some (tyJ0 k) := by decide +kernel
abbrev cJ0_length_8abf5 : ByteArray := prog_13_method_54_code
def yJ0_length_8abf5 : MethodName := ⟨RJ0, "length", "()I"⟩
abbrev cJ0_charAt_5068e : ByteArray := prog_13_method_56_code
def yJ0_charAt_5068e : MethodName := ⟨RJ0, "charAt", "(I)C"⟩
abbrev cJ0_coder_7d493 : ByteArray := prog_13_method_152_code
def yJ0_coder_7d493 : MethodName := ⟨RJ0, "coder", "()B"⟩
abbrev cJ0_isLatin1_aae02 : ByteArray := prog_13_method_154_code
def yJ0_isLatin1_aae02 : MethodName := ⟨RJ0, "isLatin1", "()Z"⟩
abbrev cJ0_checkIndex_df160 : ByteArray := prog_13_method_155_code
def yJ0_checkIndex_df160 : MethodName := ⟨RJ0, "checkIndex", "(II)V"⟩
def RJ1 : String := "java/lang/StringLatin1"
def TJ1 : u_T := fun k => match k with
  | _ => ("", "", "", false)
def tyJ1 : Nat → FieldType := fun k => match k with
  | _ => .int
abbrev wsJ10 : List Cond := u_ws RJ1 TJ1 0
theorem nmJ1 : ∀ a, a < 0 → ∀ b, b < 0 → a ≠ b → (TJ1 a).2.1 ≠ (TJ1 b).2.1 := by decide +kernel
theorem tyJ1_ok : ∀ k, k < 0 → parseFieldDescriptor (TJ1 k).2.2.1 = some (tyJ1 k) := by decide +kernel
abbrev cJ1_charAt_3b067 : ByteArray := prog_14_method_2_code
def yJ1_charAt_3b067 : MethodName := ⟨RJ1, "charAt", "([BI)C"⟩
def RJ2 : String := "java/lang/StringUTF16"
def TJ2 : u_T := fun k => match k with
  | _ => ("", "", "", false)
def tyJ2 : Nat → FieldType := fun k => match k with
  | _ => .int
abbrev wsJ20 : List Cond := u_ws RJ2 TJ2 0
theorem nmJ2 : ∀ a, a < 0 → ∀ b, b < 0 → a ≠ b → (TJ2 a).2.1 ≠ (TJ2 b).2.1 := by decide +kernel
theorem tyJ2_ok : ∀ k, k < 0 → parseFieldDescriptor (TJ2 k).2.2.1 = some (tyJ2 k) := by decide +kernel
abbrev cJ2_getChar_3b067 : ByteArray := prog_15_method_5_code
def yJ2_getChar_3b067 : MethodName := ⟨RJ2, "getChar", "([BI)C"⟩
abbrev cJ2_length_9d52b : ByteArray := prog_15_method_6_code
def yJ2_length_9d52b : MethodName := ⟨RJ2, "length", "([B)I"⟩
abbrev cJ2_charAt_3b067 : ByteArray := prog_15_method_83_code
def yJ2_charAt_3b067 : MethodName := ⟨RJ2, "charAt", "([BI)C"⟩
abbrev cJ2_checkIndex_2214a : ByteArray := prog_15_method_91_code
def yJ2_checkIndex_2214a : MethodName := ⟨RJ2, "checkIndex", "(I[B)V"⟩
def RJ10 : String := "java/lang/System"
def TJ10 : u_T := fun k => match k with
  | _ => ("", "", "", false)
def tyJ10 : Nat → FieldType := fun k => match k with
  | _ => .int
abbrev wsJ100 : List Cond := u_ws RJ10 TJ10 0
theorem nmJ10 : ∀ a, a < 0 → ∀ b, b < 0 → a ≠ b → (TJ10 a).2.1 ≠ (TJ10 b).2.1 := by decide +kernel
theorem tyJ10_ok : ∀ k, k < 0 → parseFieldDescriptor (TJ10 k).2.2.1 = some (tyJ10 k) := by decide +kernel
def RJ3 : String := "jdk/internal/util/Preconditions"
def TJ3 : u_T := fun k => match k with
  | _ => ("", "", "", false)
def tyJ3 : Nat → FieldType := fun k => match k with
  | _ => .int
abbrev wsJ30 : List Cond := u_ws RJ3 TJ3 0
theorem nmJ3 : ∀ a, a < 0 → ∀ b, b < 0 → a ≠ b → (TJ3 a).2.1 ≠ (TJ3 b).2.1 := by decide +kernel
theorem tyJ3_ok : ∀ k, k < 0 → parseFieldDescriptor (TJ3 k).2.2.1 = some (tyJ3 k) := by decide +kernel
abbrev cJ3_checkIndex_8e157 : ByteArray := prog_17_method_11_code
def yJ3_checkIndex_8e157 : MethodName := ⟨RJ3, "checkIndex", "(IILjava/util/function/BiFunction;)I"⟩
def RL : String := "AsWithTheLastLaw"
abbrev cL_law : ByteArray := code
def yL_law : MethodName := ⟨RL, "law", "([I)Z"⟩
abbrev vwCl : List vw_C := [(RX0, TX0, 9), (RX1, TX1, 8), (RX2, TX2, 5), (RX3, TX3, 2), (RX4, TX4, 5), (RX5, TX5, 3), (RX6, TX6, 2), (RX7, TX7, 12), (RX8, TX8, 33)]
end
section

def tb : List Cond := lw_tbl.filter goodWord
theorem tb_in {w : Cond} (h : w ∈ lw_tbl) (g : goodWord w = true) : w ∈ tb := List.mem_filter.mpr ⟨h, g⟩
theorem tb_good : ∀ w ∈ tb, (w.onTables && w.keeps) = true ∨ ∃ ty, w = .arrayClass ty := fun w h => good_of_word (List.mem_filter.mp h).2
theorem tb_hts {args : Array Value} {s : State} (h : ∀ w ∈ lw_tbl, w.before args s = true) : ∀ w ∈ tb, w.before args s = true := fun w hw => h w (List.mem_filter.mp hw).1
abbrev f_Mem : Type := Nat → Nat → Int32
abbrev f_Shp : Type := (Nat × List (Option (Option Nat))) ⊕ (Nat ⊕ Nat)
abbrev f_L : Type := List (Option Value)
abbrev f_G : Type := Nat → f_L → List Value → f_Mem → Prop
abbrev f_Y : Type := MethodName × ByteArray × Nat × Option FieldType
abbrev f_E : Type := Launch × va_G × ClassId × ClassId × (Nat → Nat)
abbrev f_S : Type := Nat × (Nat → f_Shp)
def f_ad (E : f_E) : Nat → Nat := E.2.2.2.2
def f_fld (ad : Nat → Nat) (c : Nat → Int32) : Nat → List (Option (Option Nat)) → List Value
  | _, [] => []
  | j, none :: t => .int (c j) :: f_fld ad c (j + 1) t
  | j, some none :: t => .null :: f_fld ad c (j + 1) t
  | j, some (some r) :: t => .ref (ad r) :: f_fld ad c (j + 1) t
def f_cell (E : f_E) (S : f_S) (σ : f_Mem) (k : Nat) : va_E := match S.2 k with
  | .inl q => .inr (q.1, f_fld (f_ad E) (σ k) 0 q.2)
  | .inr (.inl n) => .inl (E.2.2.1, (n, .inl (σ k)))
  | .inr (.inr n) => .inl (E.2.2.2.1, (n, .inr (.inr (.inr (.inr (fun j => some (f_ad E (σ k j).toNatClampNeg)))))))
def f_wl (E : f_E) (S : f_S) (σ : f_Mem) : va_W := (List.range S.1).map (fun k => (f_ad E k, f_cell E S σ k))
def f_P (E : f_E) (S : f_S) (σ : f_Mem) (H : Heap) : Prop := va_P E.2.1 vwCl (f_wl E S σ) H
def f_tys (E : f_E) : List (ClassId × FieldType) := [(E.2.2.1, .int), (E.2.2.2.1, .object RX2)]
def f_K (E : f_E) (U : State) : Prop := va_K E.2.1 vwCl (f_tys E) U
def f_A (E : f_E) (S : f_S) (sz : Nat) : Nat → Prop := fun q => (∃ k, k < S.1 ∧ q = f_ad E k) ∨ sz ≤ q
def f_I (E : f_E) (S : f_S) : Prop := ∀ i j : Nat, i < S.1 → j < S.1 → f_ad E i = f_ad E j → i = j
def m_row (σ : f_Mem) (n : Nat) (f : Nat → Int32) : f_Mem := fun k => if k = n then f else σ k
def m_set (σ : f_Mem) (n j : Nat) (v : Int32) : f_Mem := m_row σ n (upd (σ n) j v)
theorem f_wl_at (E : f_E) (S : f_S) (σ : f_Mem) {n : Nat} (h : n < S.1) : (f_wl E S σ)[n]? = some (f_ad E n, f_cell E S σ n) := by
  unfold f_wl
  rw [List.getElem?_map, List.getElem?_range h]; rfl
theorem f_wl_of (E : f_E) (S : f_S) (σ : f_Mem) {k : Nat} {q : Nat × va_E} (h : (f_wl E S σ)[k]? = some q) : k < S.1 ∧ q = (f_ad E k, f_cell E S σ k) := by
  unfold f_wl at h
  have hl := (List.getElem?_eq_some_iff.mp h).1
  rw [List.length_map, List.length_range] at hl
  rw [List.getElem?_map, List.getElem?_range hl] at h
  exact ⟨hl, (Option.some.inj h).symm⟩
theorem f_D {E : f_E} {S : f_S} {A : Nat → Prop} (hI : f_I E S) (hA : ∀ k, k < S.1 → A (f_ad E k)) (σ : f_Mem) : va_D A (f_wl E S σ) := by
  refine ⟨fun i j p q hi hj hpq => ?_, fun k q hk => ?_⟩
  · obtain ⟨h1, rfl⟩ := f_wl_of E S σ hi
    obtain ⟨h2, rfl⟩ := f_wl_of E S σ hj
    exact hI i j h1 h2 hpq
  · obtain ⟨h1, rfl⟩ := f_wl_of E S σ hk
    exact hA k h1
theorem f_cell_row {E : f_E} {S : f_S} {σ : f_Mem} {n k : Nat} {f : Nat → Int32} (h : k ≠ n) : f_cell E S (m_row σ n f) k = f_cell E S σ k := by
  unfold f_cell m_row
  rw [if_neg h]
theorem f_wl_set {E : f_E} {S : f_S} {σ : f_Mem} {n : Nat} {f : Nat → Int32} {x : va_E} (hn : n < S.1) (hx : f_cell E S (m_row σ n f) n = x) : (f_wl E S σ).set n (f_ad E n, x) = f_wl E S (m_row σ n f) := by
  apply List.ext_getElem?
  intro k
  by_cases hk : k = n
  · subst hk
    rw [List.getElem?_set_self (by unfold f_wl; rw [List.length_map, List.length_range]; exact hn), f_wl_at E S _ hn, hx]
  · rw [List.getElem?_set_ne (Ne.symm hk)]
    unfold f_wl
    rw [List.getElem?_map, List.getElem?_map]
    cases h : (List.range S.1)[k]? with
    | none => rfl
    | some j =>
      have hj : j = k := by
        have hl := (List.getElem?_eq_some_iff.mp h).1
        rw [List.length_range] at hl
        rw [List.getElem?_range hl] at h
        exact (Option.some.inj h).symm
      subst hj
      show some (f_ad E j, f_cell E S σ j) = some (f_ad E j, f_cell E S (m_row σ n f) j)
      rw [f_cell_row hk]
theorem f_cell_o {E : f_E} {S : f_S} {σ : f_Mem} {n ci : Nat} {fs : List (Option (Option Nat))} (h : S.2 n = .inl (ci, fs)) : f_cell E S σ n = .inr (ci, f_fld (f_ad E) (σ n) 0 fs) := by
  unfold f_cell; rw [h]
theorem f_cell_i {E : f_E} {S : f_S} {σ : f_Mem} {n len : Nat} (h : S.2 n = .inr (.inl len)) : f_cell E S σ n = .inl (E.2.2.1, (len, .inl (σ n))) := by
  unfold f_cell; rw [h]
theorem f_cell_q {E : f_E} {S : f_S} {σ : f_Mem} {n len : Nat} (h : S.2 n = .inr (.inr len)) : f_cell E S σ n = .inl (E.2.2.2.1, (len, .inr (.inr (.inr (.inr (fun j => some (f_ad E (σ n j).toNatClampNeg))))))) := by
  unfold f_cell; rw [h]
theorem f_fld_get (ad : Nat → Nat) (c : Nat → Int32) : ∀ (fs : List (Option (Option Nat))) (j k : Nat), (f_fld ad c j fs)[k]? = (fs[k]?).map (fun x => match x with | none => Value.int (c (j + k)) | some none => .null | some (some r) => .ref (ad r))
  | [], j, k => by simp [f_fld]
  | none :: t, j, 0 => by simp [f_fld]
  | some none :: t, j, 0 => by simp [f_fld]
  | some (some r) :: t, j, 0 => by simp [f_fld]
  | none :: t, j, k + 1 => by simp only [f_fld, List.getElem?_cons_succ]; rw [f_fld_get ad c t (j + 1) k, Nat.add_assoc, Nat.add_comm 1 k]
  | some none :: t, j, k + 1 => by simp only [f_fld, List.getElem?_cons_succ]; rw [f_fld_get ad c t (j + 1) k, Nat.add_assoc, Nat.add_comm 1 k]
  | some (some r) :: t, j, k + 1 => by simp only [f_fld, List.getElem?_cons_succ]; rw [f_fld_get ad c t (j + 1) k, Nat.add_assoc, Nat.add_comm 1 k]
theorem f_fld_len (ad : Nat → Nat) (c : Nat → Int32) : ∀ (fs : List (Option (Option Nat))) (j : Nat), (f_fld ad c j fs).length = fs.length
  | [], j => rfl
  | none :: t, j => by simp [f_fld, f_fld_len ad c t]
  | some none :: t, j => by simp [f_fld, f_fld_len ad c t]
  | some (some r) :: t, j => by simp [f_fld, f_fld_len ad c t]
theorem f_fld_set (ad : Nat → Nat) (c : Nat → Int32) (fs : List (Option (Option Nat))) (k : Nat) (v : Int32) (h : fs[k]? = some none) : (f_fld ad c 0 fs).set k (.int v) = f_fld ad (upd c k v) 0 fs := by
  apply List.ext_getElem?
  intro i
  have hl : k < (f_fld ad c 0 fs).length := by rw [f_fld_len]; exact (List.getElem?_eq_some_iff.mp h).1
  by_cases hi : i = k
  · subst hi
    rw [List.getElem?_set_self hl, f_fld_get, h]
    simp [upd]
  · rw [List.getElem?_set_ne (Ne.symm hi), f_fld_get, f_fld_get]
    congr 1
    funext x
    match x with
    | none => simp [upd, hi]
    | some none => rfl
    | some (some r) => rfl
/-! locals -/
def f_lv : Nat → f_L → List (Nat × Value)
  | _, [] => []
  | i, none :: t => f_lv (i + 1) t
  | i, some v :: t => (i, v) :: f_lv (i + 1) t
theorem f_lv_mem : ∀ (L : f_L) (i : Nat) (q : Nat × Value), q ∈ f_lv i L ↔ ∃ j, q.1 = i + j ∧ L[j]? = some (some q.2)
  | [], i, q => by simp [f_lv]
  | none :: t, i, q => by
    simp only [f_lv]
    rw [f_lv_mem t (i + 1) q]
    constructor
    · rintro ⟨j, h1, h2⟩; exact ⟨j + 1, by omega, by simpa using h2⟩
    · rintro ⟨j, h1, h2⟩
      cases j with
      | zero => simp at h2
      | succ j => exact ⟨j, by omega, by simpa using h2⟩
  | some v :: t, i, q => by
    simp only [f_lv, List.mem_cons]
    rw [f_lv_mem t (i + 1) q]
    constructor
    · rintro (h | ⟨j, h1, h2⟩)
      · subst h; exact ⟨0, rfl, rfl⟩
      · exact ⟨j + 1, by omega, by simpa using h2⟩
    · rintro ⟨j, h1, h2⟩
      cases j with
      | zero =>
        left
        obtain ⟨a, b⟩ := q
        simp at h1 h2
        rw [h1, h2]
      | succ j => right; exact ⟨j, by omega, by simpa using h2⟩
def f_ls (ls : Array Slot) (nL : Nat) (L : f_L) : Prop := lv_has ls nL (f_lv 0 L) ∧ L.length = nL
theorem f_ls.at {ls : Array Slot} {nL : Nat} {L : f_L} (h : f_ls ls nL L) {i : Nat} {v : Value} (hi : L[i]? = some (some v)) : ls[i]? = some (.val v) := h.1.2.2 (i, v) ((f_lv_mem L 0 (i, v)).mpr ⟨i, by simp, hi⟩)
/-- the slot ahead holds no long's first half -/
def f_nl (L : f_L) : Nat → Bool
  | 0 => true
  | j + 1 => match L[j]? with
    | some (some v) => v.category == 1
    | _ => true
theorem f_ls_set {ls' : Array Slot} {nL : Nat} {L : f_L} {i : Nat} {v : Value} (hL : L.length = nL) (hp : f_nl L i = true) (h : lv_has ls' nL ((i, v) :: (f_lv 0 L).filter (fun q => !(q.1 == i) && !(q.1 + 1 == i && q.2.category == 2)))) : f_ls ls' nL (L.set i (some v)) := by
  refine ⟨⟨h.1, h.2.1, fun q hq => h.2.2 q ?_⟩, by rw [List.length_set]; exact hL⟩
  obtain ⟨j, h1, h2⟩ := (f_lv_mem _ 0 q).mp hq
  obtain ⟨a, b⟩ := q
  simp only [Nat.zero_add] at h1
  subst h1
  by_cases hj : a = i
  · subst hj
    have hl : a < L.length := by
      have := (List.getElem?_eq_some_iff.mp h2).1
      rwa [List.length_set] at this
    rw [List.getElem?_set_self hl] at h2
    cases h2
    exact List.mem_cons_self
  · rw [List.getElem?_set_ne (Ne.symm hj)] at h2
    refine List.mem_cons_of_mem _ (List.mem_filter.mpr ⟨(f_lv_mem _ 0 _).mpr ⟨a, by simp, h2⟩, ?_⟩)
    have h3 : (a == i) = false := by simpa using hj
    by_cases h4 : a + 1 = i
    · subst h4
      simp only [f_nl, h2] at hp
      have h5 : b.category = 1 := by simpa using hp
      simp [h3, h5]
    · simp [h3, h4]
theorem f_ls_set2 {ls' : Array Slot} {nL : Nat} {L : f_L} {i : Nat} {v : Value} (hL : L.length = nL) (hp : f_nl L i = true) (h : lv_has ls' nL ((i, v) :: (f_lv 0 L).filter (fun q => !(q.1 == i) && (!(q.1 == i + 1) && !(q.1 + 1 == i && q.2.category == 2))))) : f_ls ls' nL ((L.set i (some v)).set (i + 1) none) := by
  refine ⟨⟨h.1, h.2.1, fun q hq => h.2.2 q ?_⟩, by rw [List.length_set, List.length_set]; exact hL⟩
  obtain ⟨j, h1, h2⟩ := (f_lv_mem _ 0 q).mp hq
  obtain ⟨a, b⟩ := q
  simp only [Nat.zero_add] at h1
  subst h1
  have hl : a < L.length := by
    have := (List.getElem?_eq_some_iff.mp h2).1
    rwa [List.length_set, List.length_set] at this
  by_cases hj2 : a = i + 1
  · subst hj2
    rw [List.getElem?_set_self (by rw [List.length_set]; exact hl)] at h2
    cases h2
  rw [List.getElem?_set_ne (Ne.symm hj2)] at h2
  by_cases hj : a = i
  · subst hj
    rw [List.getElem?_set_self hl] at h2
    cases h2
    exact List.mem_cons_self
  · rw [List.getElem?_set_ne (Ne.symm hj)] at h2
    refine List.mem_cons_of_mem _ (List.mem_filter.mpr ⟨(f_lv_mem _ 0 _).mpr ⟨a, by simp, h2⟩, ?_⟩)
    have h3 : (a == i) = false := by simpa using hj
    have h3' : (a == i + 1) = false := by simpa using hj2
    by_cases h4 : a + 1 = i
    · subst h4
      simp only [f_nl, h2] at hp
      have h5 : b.category = 1 := by simpa using hp
      simp [h3, h3', h5]
    · simp [h3, h3', h4]
/-! contracts -/
def f_Q {ρ : Type} (E : f_E) (S : f_S) (enc : ρ → Option Value) (post : ρ → f_Mem → Prop) (A : Nat → Prop) : Array Value → State → Outcome → State → Prop := fun _ st o t => (∃ (r : ρ) (u : f_Mem), o = .returned (enc r) ∧ post r u ∧ f_P E S u t.heap ∧ f_K E t) ∧ va_F A st t
def f_Pc (E : f_E) (S : f_S) (av : List Value) (σ : f_Mem) (sz : Nat) : Array Value → State → Prop := va_Pc av (fun U => U.heap.size = sz ∧ f_P E S σ U.heap ∧ f_K E U ∧ f_I E S)
def f_rm (d : Nat) : Room := { frames := d, cells := 0, slots := 0, locals := 60 * d }
def FM {ρ : Type} (E : f_E) (S : f_S) (Y : f_Y) (d : Nat) (av : List Value) (σ : f_Mem) (enc : ρ → Option Value) (post : ρ → f_Mem → Prop) : Prop :=
  ∀ sz : Nat, Met E.1 Y.1 (Cond.code Y.1 Y.2.1 Y.2.2.1 Y.2.2.2 :: tb) (f_rm d) (f_Pc E S av σ sz) (f_Q E S enc post (f_A E S sz)) 0 0 (f_A E S sz)
def eI : Int32 → Option Value := fun r => some (.int r)
def eV : Unit → Option Value := fun _ => none
def eL : Int64 → Option Value := fun r => some (.long r)
def eQ (E : f_E) : Option Nat → Option Value := fun r => some (va_rf (r.map (f_ad E)))
/-! what links a row to the tables -/
def f_FL (own : String) (index ci k : Nat) : Prop := ∃ (C : String) (T : u_T) (N : Nat), vwCl[ci]? = some (C, T, N) ∧ (∀ w ∈ u_ws C T N, w ∈ tb) ∧ k < N ∧ (Cond.fieldLink own index (T k).1 (T k).2.1 (T k).2.2.1 ∈ tb ∨ ∃ host, Cond.fieldLinkNest own index (T k).1 (T k).2.1 (T k).2.2.1 host ∈ tb)
def f_FP (own : String) (index ci k : Nat) : Prop := ∃ (C : String) (T : u_T) (N : Nat), vwCl[ci]? = some (C, T, N) ∧ (∀ w ∈ u_ws C T N, w ∈ tb) ∧ k < N ∧ (Cond.fieldLink own index (T k).1 (T k).2.1 (T k).2.2.1 ∈ tb ∨ ∃ host, Cond.fieldLinkNest own index (T k).1 (T k).2.1 (T k).2.2.1 host ∈ tb) ∧ (∃ ty0 : Nat → FieldType, ∀ k, k < N → parseFieldDescriptor (T k).2.2.1 = some (ty0 k)) ∧ (∀ a, a < N → ∀ b, b < N → a ≠ b → (T a).2.1 ≠ (T b).2.1) ∧ (T k).2.2.2 = false ∧ parseFieldDescriptor (T k).2.2.1 = some .int
def f_hd (Y : f_Y) (n : Nat) : Prop := (Y.1.cls ≠ "java/lang/invoke/MethodHandle" ∧ Y.1.cls ≠ "java/lang/invoke/VarHandle" ∧ (parseMethodDescriptor Y.1.desc).map (fun d => d.parameters.length) = some n) ∧ Y.2.2.1 ≤ 41
def f_LC (Y : f_Y) : Prop := Cond.code Y.1 Y.2.1 Y.2.2.1 Y.2.2.2 ∈ tb ∧ Cond.initialized Y.1.cls ∈ tb
def f_LV (own : String) (index : Nat) (Y : f_Y) (n : Nat) : Prop := f_LC Y ∧ Cond.instanceMethod Y.1 ∈ tb ∧ Cond.selects Y.1.cls Y.1 Y.1 ∈ tb ∧ (Cond.methodLink own index Y.1 ∈ tb ∨ ∃ host, Cond.methodLinkNest own index Y.1 host ∈ tb) ∧ f_hd Y n
def f_LS (own : String) (index : Nat) (Y : f_Y) (n : Nat) : Prop := f_LC Y ∧ Cond.static Y.1 ∈ tb ∧ (Cond.methodLink own index Y.1 ∈ tb ∨ ∃ host, Cond.methodLinkNest own index Y.1 host ∈ tb) ∧ f_hd Y n

def r_iadd {ρ0 : Type} (cc : ByteArray) (own : String) (ret : Option FieldType) (D : Nat) (E : f_E) (S : f_S) (encR : ρ0 → Option Value) (post : ρ0 → f_Mem → Prop) (G : f_G) : Prop := ∀ (pc : Nat) (L : f_L) (st : List Value) (σ : f_Mem) (x y : Int32), (decode cc pc = .ok (.iadd, 1)) → G (pc + 1) L (.int (x + y) :: st) σ → G pc L (.int y :: .int x :: st) σ
def r_isub {ρ0 : Type} (cc : ByteArray) (own : String) (ret : Option FieldType) (D : Nat) (E : f_E) (S : f_S) (encR : ρ0 → Option Value) (post : ρ0 → f_Mem → Prop) (G : f_G) : Prop := ∀ (pc : Nat) (L : f_L) (st : List Value) (σ : f_Mem) (x y : Int32), (decode cc pc = .ok (.isub, 1)) → G (pc + 1) L (.int (x - y) :: st) σ → G pc L (.int y :: .int x :: st) σ
def r_imul {ρ0 : Type} (cc : ByteArray) (own : String) (ret : Option FieldType) (D : Nat) (E : f_E) (S : f_S) (encR : ρ0 → Option Value) (post : ρ0 → f_Mem → Prop) (G : f_G) : Prop := ∀ (pc : Nat) (L : f_L) (st : List Value) (σ : f_Mem) (x y : Int32), (decode cc pc = .ok (.imul, 1)) → G (pc + 1) L (.int (x * y) :: st) σ → G pc L (.int y :: .int x :: st) σ
def r_idiv {ρ0 : Type} (cc : ByteArray) (own : String) (ret : Option FieldType) (D : Nat) (E : f_E) (S : f_S) (encR : ρ0 → Option Value) (post : ρ0 → f_Mem → Prop) (G : f_G) : Prop := ∀ (pc : Nat) (L : f_L) (st : List Value) (σ : f_Mem) (x y : Int32), (decode cc pc = .ok (.idiv, 1)) → (¬ y = 0) → G (pc + 1) L (.int (x / y) :: st) σ → G pc L (.int y :: .int x :: st) σ
def r_irem {ρ0 : Type} (cc : ByteArray) (own : String) (ret : Option FieldType) (D : Nat) (E : f_E) (S : f_S) (encR : ρ0 → Option Value) (post : ρ0 → f_Mem → Prop) (G : f_G) : Prop := ∀ (pc : Nat) (L : f_L) (st : List Value) (σ : f_Mem) (x y : Int32), (decode cc pc = .ok (.irem, 1)) → (¬ y = 0) → G (pc + 1) L (.int (x - x / y * y) :: st) σ → G pc L (.int y :: .int x :: st) σ
def r_iand {ρ0 : Type} (cc : ByteArray) (own : String) (ret : Option FieldType) (D : Nat) (E : f_E) (S : f_S) (encR : ρ0 → Option Value) (post : ρ0 → f_Mem → Prop) (G : f_G) : Prop := ∀ (pc : Nat) (L : f_L) (st : List Value) (σ : f_Mem) (x y : Int32), (decode cc pc = .ok (.iand, 1)) → G (pc + 1) L (.int (x &&& y) :: st) σ → G pc L (.int y :: .int x :: st) σ
def r_ior {ρ0 : Type} (cc : ByteArray) (own : String) (ret : Option FieldType) (D : Nat) (E : f_E) (S : f_S) (encR : ρ0 → Option Value) (post : ρ0 → f_Mem → Prop) (G : f_G) : Prop := ∀ (pc : Nat) (L : f_L) (st : List Value) (σ : f_Mem) (x y : Int32), (decode cc pc = .ok (.ior, 1)) → G (pc + 1) L (.int (x ||| y) :: st) σ → G pc L (.int y :: .int x :: st) σ
def r_ixor {ρ0 : Type} (cc : ByteArray) (own : String) (ret : Option FieldType) (D : Nat) (E : f_E) (S : f_S) (encR : ρ0 → Option Value) (post : ρ0 → f_Mem → Prop) (G : f_G) : Prop := ∀ (pc : Nat) (L : f_L) (st : List Value) (σ : f_Mem) (x y : Int32), (decode cc pc = .ok (.ixor, 1)) → G (pc + 1) L (.int (x ^^^ y) :: st) σ → G pc L (.int y :: .int x :: st) σ
def r_ishl {ρ0 : Type} (cc : ByteArray) (own : String) (ret : Option FieldType) (D : Nat) (E : f_E) (S : f_S) (encR : ρ0 → Option Value) (post : ρ0 → f_Mem → Prop) (G : f_G) : Prop := ∀ (pc : Nat) (L : f_L) (st : List Value) (σ : f_Mem) (x y : Int32), (decode cc pc = .ok (.ishl, 1)) → G (pc + 1) L (.int (x <<< (y &&& 31)) :: st) σ → G pc L (.int y :: .int x :: st) σ
def r_ishr {ρ0 : Type} (cc : ByteArray) (own : String) (ret : Option FieldType) (D : Nat) (E : f_E) (S : f_S) (encR : ρ0 → Option Value) (post : ρ0 → f_Mem → Prop) (G : f_G) : Prop := ∀ (pc : Nat) (L : f_L) (st : List Value) (σ : f_Mem) (x y : Int32), (decode cc pc = .ok (.ishr, 1)) → G (pc + 1) L (.int (x >>> (y &&& 31)) :: st) σ → G pc L (.int y :: .int x :: st) σ
def r_iushr {ρ0 : Type} (cc : ByteArray) (own : String) (ret : Option FieldType) (D : Nat) (E : f_E) (S : f_S) (encR : ρ0 → Option Value) (post : ρ0 → f_Mem → Prop) (G : f_G) : Prop := ∀ (pc : Nat) (L : f_L) (st : List Value) (σ : f_Mem) (x y v : Int32), (decode cc pc = .ok (.iushr, 1)) → ((x.toUInt32 >>> (y.toUInt32 &&& Int32.toUInt32 31)).toInt32 = v) → G (pc + 1) L (.int v :: st) σ → G pc L (.int y :: .int x :: st) σ
def r_ladd {ρ0 : Type} (cc : ByteArray) (own : String) (ret : Option FieldType) (D : Nat) (E : f_E) (S : f_S) (encR : ρ0 → Option Value) (post : ρ0 → f_Mem → Prop) (G : f_G) : Prop := ∀ (pc : Nat) (L : f_L) (st : List Value) (σ : f_Mem) (x y : Int64), (decode cc pc = .ok (.ladd, 1)) → G (pc + 1) L (.long (x + y) :: st) σ → G pc L (.long y :: .long x :: st) σ
def r_lmul {ρ0 : Type} (cc : ByteArray) (own : String) (ret : Option FieldType) (D : Nat) (E : f_E) (S : f_S) (encR : ρ0 → Option Value) (post : ρ0 → f_Mem → Prop) (G : f_G) : Prop := ∀ (pc : Nat) (L : f_L) (st : List Value) (σ : f_Mem) (x y : Int64), (decode cc pc = .ok (.lmul, 1)) → G (pc + 1) L (.long (x * y) :: st) σ → G pc L (.long y :: .long x :: st) σ
def r_ldiv {ρ0 : Type} (cc : ByteArray) (own : String) (ret : Option FieldType) (D : Nat) (E : f_E) (S : f_S) (encR : ρ0 → Option Value) (post : ρ0 → f_Mem → Prop) (G : f_G) : Prop := ∀ (pc : Nat) (L : f_L) (st : List Value) (σ : f_Mem) (x y : Int64), (decode cc pc = .ok (.ldiv, 1)) → (¬ y = 0) → G (pc + 1) L (.long (x / y) :: st) σ → G pc L (.long y :: .long x :: st) σ
def r_lrem {ρ0 : Type} (cc : ByteArray) (own : String) (ret : Option FieldType) (D : Nat) (E : f_E) (S : f_S) (encR : ρ0 → Option Value) (post : ρ0 → f_Mem → Prop) (G : f_G) : Prop := ∀ (pc : Nat) (L : f_L) (st : List Value) (σ : f_Mem) (x y : Int64), (decode cc pc = .ok (.lrem, 1)) → (¬ y = 0) → G (pc + 1) L (.long (x - x / y * y) :: st) σ → G pc L (.long y :: .long x :: st) σ
def r_i2l {ρ0 : Type} (cc : ByteArray) (own : String) (ret : Option FieldType) (D : Nat) (E : f_E) (S : f_S) (encR : ρ0 → Option Value) (post : ρ0 → f_Mem → Prop) (G : f_G) : Prop := ∀ (pc : Nat) (L : f_L) (st : List Value) (σ : f_Mem) (x : Int32), (decode cc pc = .ok (.i2l, 1)) → G (pc + 1) L (.long x.toInt64 :: st) σ → G pc L (.int x :: st) σ
def r_l2i {ρ0 : Type} (cc : ByteArray) (own : String) (ret : Option FieldType) (D : Nat) (E : f_E) (S : f_S) (encR : ρ0 → Option Value) (post : ρ0 → f_Mem → Prop) (G : f_G) : Prop := ∀ (pc : Nat) (L : f_L) (st : List Value) (σ : f_Mem) (x : Int64), (decode cc pc = .ok (.l2i, 1)) → G (pc + 1) L (.int x.toInt32 :: st) σ → G pc L (.long x :: st) σ
def r_lcmp {ρ0 : Type} (cc : ByteArray) (own : String) (ret : Option FieldType) (D : Nat) (E : f_E) (S : f_S) (encR : ρ0 → Option Value) (post : ρ0 → f_Mem → Prop) (G : f_G) : Prop := ∀ (pc : Nat) (L : f_L) (st : List Value) (σ : f_Mem) (x y : Int64), (decode cc pc = .ok (.lcmp, 1)) → G (pc + 1) L (.int (lg_cmp x y) :: st) σ → G pc L (.long y :: .long x :: st) σ
def r_iconst {ρ0 : Type} (cc : ByteArray) (own : String) (ret : Option FieldType) (D : Nat) (E : f_E) (S : f_S) (encR : ρ0 → Option Value) (post : ρ0 → f_Mem → Prop) (G : f_G) : Prop := ∀ (pc : Nat) (L : f_L) (st : List Value) (σ : f_Mem) (n : Int) (v : Int32), (decode cc pc = .ok ((.iconst n), 1)) → (Int32.ofInt n = v) → G (pc + 1) L (.int v :: st) σ → G pc L (st) σ
def r_bipush {ρ0 : Type} (cc : ByteArray) (own : String) (ret : Option FieldType) (D : Nat) (E : f_E) (S : f_S) (encR : ρ0 → Option Value) (post : ρ0 → f_Mem → Prop) (G : f_G) : Prop := ∀ (pc : Nat) (L : f_L) (st : List Value) (σ : f_Mem) (n : Int) (v : Int32), (decode cc pc = .ok ((.bipush n), 2)) → ((Int8.ofInt n).toInt32 = v) → G (pc + 2) L (.int v :: st) σ → G pc L (st) σ
def r_sipush {ρ0 : Type} (cc : ByteArray) (own : String) (ret : Option FieldType) (D : Nat) (E : f_E) (S : f_S) (encR : ρ0 → Option Value) (post : ρ0 → f_Mem → Prop) (G : f_G) : Prop := ∀ (pc : Nat) (L : f_L) (st : List Value) (σ : f_Mem) (n : Int) (v : Int32), (decode cc pc = .ok ((.sipush n), 3)) → ((Int16.ofInt n).toInt32 = v) → G (pc + 3) L (.int v :: st) σ → G pc L (st) σ
def r_lconst {ρ0 : Type} (cc : ByteArray) (own : String) (ret : Option FieldType) (D : Nat) (E : f_E) (S : f_S) (encR : ρ0 → Option Value) (post : ρ0 → f_Mem → Prop) (G : f_G) : Prop := ∀ (pc : Nat) (L : f_L) (st : List Value) (σ : f_Mem) (n : Fin 2) (v : Int64), (decode cc pc = .ok ((.lconst n), 1)) → (Int64.ofNat (n : Nat) = v) → G (pc + 1) L (.long v :: st) σ → G pc L (st) σ
def r_ldc {ρ0 : Type} (cc : ByteArray) (own : String) (ret : Option FieldType) (D : Nat) (E : f_E) (S : f_S) (encR : ρ0 → Option Value) (post : ρ0 → f_Mem → Prop) (G : f_G) : Prop := ∀ (pc : Nat) (L : f_L) (st : List Value) (σ : f_Mem) (i : Nat) (v : Int32), (decode cc pc = .ok ((.ldc i), 2)) → (Cond.constant own i v ∈ tb) → G (pc + 2) L (.int v :: st) σ → G pc L (st) σ
def r_ldcw {ρ0 : Type} (cc : ByteArray) (own : String) (ret : Option FieldType) (D : Nat) (E : f_E) (S : f_S) (encR : ρ0 → Option Value) (post : ρ0 → f_Mem → Prop) (G : f_G) : Prop := ∀ (pc : Nat) (L : f_L) (st : List Value) (σ : f_Mem) (i : Nat) (v : Int32), (decode cc pc = .ok ((.ldc_w i), 3)) → (Cond.constant own i v ∈ tb) → G (pc + 3) L (.int v :: st) σ → G pc L (st) σ
def r_ldc2 {ρ0 : Type} (cc : ByteArray) (own : String) (ret : Option FieldType) (D : Nat) (E : f_E) (S : f_S) (encR : ρ0 → Option Value) (post : ρ0 → f_Mem → Prop) (G : f_G) : Prop := ∀ (pc : Nat) (L : f_L) (st : List Value) (σ : f_Mem) (i : Nat) (v : Int64), (decode cc pc = .ok ((.ldc2_w i), 3)) → (Cond.constantLong own i v ∈ tb) → G (pc + 3) L (.long v :: st) σ → G pc L (st) σ
def r_null {ρ0 : Type} (cc : ByteArray) (own : String) (ret : Option FieldType) (D : Nat) (E : f_E) (S : f_S) (encR : ρ0 → Option Value) (post : ρ0 → f_Mem → Prop) (G : f_G) : Prop := ∀ (pc : Nat) (L : f_L) (st : List Value) (σ : f_Mem), (decode cc pc = .ok (.aconst_null, 1)) → G (pc + 1) L (.null :: st) σ → G pc L (st) σ
def r_dup {ρ0 : Type} (cc : ByteArray) (own : String) (ret : Option FieldType) (D : Nat) (E : f_E) (S : f_S) (encR : ρ0 → Option Value) (post : ρ0 → f_Mem → Prop) (G : f_G) : Prop := ∀ (pc : Nat) (L : f_L) (st : List Value) (σ : f_Mem) (v : Value), (decode cc pc = .ok (.dup, 1)) → (v.category = 1) → G (pc + 1) L (v :: v :: st) σ → G pc L (v :: st) σ
def r_dup2 {ρ0 : Type} (cc : ByteArray) (own : String) (ret : Option FieldType) (D : Nat) (E : f_E) (S : f_S) (encR : ρ0 → Option Value) (post : ρ0 → f_Mem → Prop) (G : f_G) : Prop := ∀ (pc : Nat) (L : f_L) (st : List Value) (σ : f_Mem) (v w : Value), (decode cc pc = .ok (.dup2, 1)) → (v.category = 1) → (w.category = 1) → G (pc + 1) L (v :: w :: v :: w :: st) σ → G pc L (v :: w :: st) σ
def r_pop {ρ0 : Type} (cc : ByteArray) (own : String) (ret : Option FieldType) (D : Nat) (E : f_E) (S : f_S) (encR : ρ0 → Option Value) (post : ρ0 → f_Mem → Prop) (G : f_G) : Prop := ∀ (pc : Nat) (L : f_L) (st : List Value) (σ : f_Mem) (v : Value), (decode cc pc = .ok (.pop, 1)) → (v.category = 1) → G (pc + 1) L (st) σ → G pc L (v :: st) σ
def r_icmp_eq {ρ0 : Type} (cc : ByteArray) (own : String) (ret : Option FieldType) (D : Nat) (E : f_E) (S : f_S) (encR : ρ0 → Option Value) (post : ρ0 → f_Mem → Prop) (G : f_G) : Prop := ∀ (pc : Nat) (L : f_L) (st : List Value) (σ : f_Mem) (off : Int) (tgt : Nat) (x y : Int32), (decode cc pc = .ok (.if_icmp .eq off, 3)) → ((pc : Int) + off = (tgt : Int)) → (x = y → G tgt L st σ) → (¬ x = y → G (pc + 3) L st σ) → G pc L (.int y :: .int x :: st) σ
def r_icmp_ne {ρ0 : Type} (cc : ByteArray) (own : String) (ret : Option FieldType) (D : Nat) (E : f_E) (S : f_S) (encR : ρ0 → Option Value) (post : ρ0 → f_Mem → Prop) (G : f_G) : Prop := ∀ (pc : Nat) (L : f_L) (st : List Value) (σ : f_Mem) (off : Int) (tgt : Nat) (x y : Int32), (decode cc pc = .ok (.if_icmp .ne off, 3)) → ((pc : Int) + off = (tgt : Int)) → (x ≠ y → G tgt L st σ) → (x = y → G (pc + 3) L st σ) → G pc L (.int y :: .int x :: st) σ
def r_icmp_lt {ρ0 : Type} (cc : ByteArray) (own : String) (ret : Option FieldType) (D : Nat) (E : f_E) (S : f_S) (encR : ρ0 → Option Value) (post : ρ0 → f_Mem → Prop) (G : f_G) : Prop := ∀ (pc : Nat) (L : f_L) (st : List Value) (σ : f_Mem) (off : Int) (tgt : Nat) (x y : Int32), (decode cc pc = .ok (.if_icmp .lt off, 3)) → ((pc : Int) + off = (tgt : Int)) → (x < y → G tgt L st σ) → (¬ x < y → G (pc + 3) L st σ) → G pc L (.int y :: .int x :: st) σ
def r_icmp_ge {ρ0 : Type} (cc : ByteArray) (own : String) (ret : Option FieldType) (D : Nat) (E : f_E) (S : f_S) (encR : ρ0 → Option Value) (post : ρ0 → f_Mem → Prop) (G : f_G) : Prop := ∀ (pc : Nat) (L : f_L) (st : List Value) (σ : f_Mem) (off : Int) (tgt : Nat) (x y : Int32), (decode cc pc = .ok (.if_icmp .ge off, 3)) → ((pc : Int) + off = (tgt : Int)) → (y ≤ x → G tgt L st σ) → (¬ y ≤ x → G (pc + 3) L st σ) → G pc L (.int y :: .int x :: st) σ
def r_icmp_gt {ρ0 : Type} (cc : ByteArray) (own : String) (ret : Option FieldType) (D : Nat) (E : f_E) (S : f_S) (encR : ρ0 → Option Value) (post : ρ0 → f_Mem → Prop) (G : f_G) : Prop := ∀ (pc : Nat) (L : f_L) (st : List Value) (σ : f_Mem) (off : Int) (tgt : Nat) (x y : Int32), (decode cc pc = .ok (.if_icmp .gt off, 3)) → ((pc : Int) + off = (tgt : Int)) → (y < x → G tgt L st σ) → (¬ y < x → G (pc + 3) L st σ) → G pc L (.int y :: .int x :: st) σ
def r_icmp_le {ρ0 : Type} (cc : ByteArray) (own : String) (ret : Option FieldType) (D : Nat) (E : f_E) (S : f_S) (encR : ρ0 → Option Value) (post : ρ0 → f_Mem → Prop) (G : f_G) : Prop := ∀ (pc : Nat) (L : f_L) (st : List Value) (σ : f_Mem) (off : Int) (tgt : Nat) (x y : Int32), (decode cc pc = .ok (.if_icmp .le off, 3)) → ((pc : Int) + off = (tgt : Int)) → (x ≤ y → G tgt L st σ) → (¬ x ≤ y → G (pc + 3) L st σ) → G pc L (.int y :: .int x :: st) σ
def r_if_eq {ρ0 : Type} (cc : ByteArray) (own : String) (ret : Option FieldType) (D : Nat) (E : f_E) (S : f_S) (encR : ρ0 → Option Value) (post : ρ0 → f_Mem → Prop) (G : f_G) : Prop := ∀ (pc : Nat) (L : f_L) (st : List Value) (σ : f_Mem) (off : Int) (tgt : Nat) (x : Int32), (decode cc pc = .ok (.ifCond .eq off, 3)) → ((pc : Int) + off = (tgt : Int)) → (x = 0 → G tgt L st σ) → (¬ x = 0 → G (pc + 3) L st σ) → G pc L (.int x :: st) σ
def r_if_ne {ρ0 : Type} (cc : ByteArray) (own : String) (ret : Option FieldType) (D : Nat) (E : f_E) (S : f_S) (encR : ρ0 → Option Value) (post : ρ0 → f_Mem → Prop) (G : f_G) : Prop := ∀ (pc : Nat) (L : f_L) (st : List Value) (σ : f_Mem) (off : Int) (tgt : Nat) (x : Int32), (decode cc pc = .ok (.ifCond .ne off, 3)) → ((pc : Int) + off = (tgt : Int)) → (x ≠ 0 → G tgt L st σ) → (x = 0 → G (pc + 3) L st σ) → G pc L (.int x :: st) σ
def r_if_lt {ρ0 : Type} (cc : ByteArray) (own : String) (ret : Option FieldType) (D : Nat) (E : f_E) (S : f_S) (encR : ρ0 → Option Value) (post : ρ0 → f_Mem → Prop) (G : f_G) : Prop := ∀ (pc : Nat) (L : f_L) (st : List Value) (σ : f_Mem) (off : Int) (tgt : Nat) (x : Int32), (decode cc pc = .ok (.ifCond .lt off, 3)) → ((pc : Int) + off = (tgt : Int)) → (x < 0 → G tgt L st σ) → (¬ x < 0 → G (pc + 3) L st σ) → G pc L (.int x :: st) σ
def r_if_ge {ρ0 : Type} (cc : ByteArray) (own : String) (ret : Option FieldType) (D : Nat) (E : f_E) (S : f_S) (encR : ρ0 → Option Value) (post : ρ0 → f_Mem → Prop) (G : f_G) : Prop := ∀ (pc : Nat) (L : f_L) (st : List Value) (σ : f_Mem) (off : Int) (tgt : Nat) (x : Int32), (decode cc pc = .ok (.ifCond .ge off, 3)) → ((pc : Int) + off = (tgt : Int)) → (0 ≤ x → G tgt L st σ) → (¬ 0 ≤ x → G (pc + 3) L st σ) → G pc L (.int x :: st) σ
def r_if_gt {ρ0 : Type} (cc : ByteArray) (own : String) (ret : Option FieldType) (D : Nat) (E : f_E) (S : f_S) (encR : ρ0 → Option Value) (post : ρ0 → f_Mem → Prop) (G : f_G) : Prop := ∀ (pc : Nat) (L : f_L) (st : List Value) (σ : f_Mem) (off : Int) (tgt : Nat) (x : Int32), (decode cc pc = .ok (.ifCond .gt off, 3)) → ((pc : Int) + off = (tgt : Int)) → (0 < x → G tgt L st σ) → (¬ 0 < x → G (pc + 3) L st σ) → G pc L (.int x :: st) σ
def r_if_le {ρ0 : Type} (cc : ByteArray) (own : String) (ret : Option FieldType) (D : Nat) (E : f_E) (S : f_S) (encR : ρ0 → Option Value) (post : ρ0 → f_Mem → Prop) (G : f_G) : Prop := ∀ (pc : Nat) (L : f_L) (st : List Value) (σ : f_Mem) (off : Int) (tgt : Nat) (x : Int32), (decode cc pc = .ok (.ifCond .le off, 3)) → ((pc : Int) + off = (tgt : Int)) → (x ≤ 0 → G tgt L st σ) → (¬ x ≤ 0 → G (pc + 3) L st σ) → G pc L (.int x :: st) σ
def r_goto {ρ0 : Type} (cc : ByteArray) (own : String) (ret : Option FieldType) (D : Nat) (E : f_E) (S : f_S) (encR : ρ0 → Option Value) (post : ρ0 → f_Mem → Prop) (G : f_G) : Prop := ∀ (pc : Nat) (L : f_L) (st : List Value) (σ : f_Mem) (off : Int) (tgt : Nat), (decode cc pc = .ok (.goto off, 3)) → ((pc : Int) + off = (tgt : Int)) → G tgt L st σ → G pc L st σ
def r_ifnull {ρ0 : Type} (cc : ByteArray) (own : String) (ret : Option FieldType) (D : Nat) (E : f_E) (S : f_S) (encR : ρ0 → Option Value) (post : ρ0 → f_Mem → Prop) (G : f_G) : Prop := ∀ (pc : Nat) (L : f_L) (st : List Value) (σ : f_Mem) (off : Int) (x : Nat), (decode cc pc = .ok (.ifnull off, 3)) → G (pc + 3) L st σ → G pc L (.ref x :: st) σ
def r_ifnullN {ρ0 : Type} (cc : ByteArray) (own : String) (ret : Option FieldType) (D : Nat) (E : f_E) (S : f_S) (encR : ρ0 → Option Value) (post : ρ0 → f_Mem → Prop) (G : f_G) : Prop := ∀ (pc : Nat) (L : f_L) (st : List Value) (σ : f_Mem) (off : Int) (tgt : Nat), (decode cc pc = .ok (.ifnull off, 3)) → ((pc : Int) + off = (tgt : Int)) → G tgt L st σ → G pc L (.null :: st) σ
def r_ifnonnull {ρ0 : Type} (cc : ByteArray) (own : String) (ret : Option FieldType) (D : Nat) (E : f_E) (S : f_S) (encR : ρ0 → Option Value) (post : ρ0 → f_Mem → Prop) (G : f_G) : Prop := ∀ (pc : Nat) (L : f_L) (st : List Value) (σ : f_Mem) (off : Int) (tgt : Nat) (x : Nat), (decode cc pc = .ok (.ifnonnull off, 3)) → ((pc : Int) + off = (tgt : Int)) → G tgt L st σ → G pc L (.ref x :: st) σ
def r_ifnonnullN {ρ0 : Type} (cc : ByteArray) (own : String) (ret : Option FieldType) (D : Nat) (E : f_E) (S : f_S) (encR : ρ0 → Option Value) (post : ρ0 → f_Mem → Prop) (G : f_G) : Prop := ∀ (pc : Nat) (L : f_L) (st : List Value) (σ : f_Mem) (off : Int), (decode cc pc = .ok (.ifnonnull off, 3)) → G (pc + 3) L st σ → G pc L (.null :: st) σ
def r_tblIn {ρ0 : Type} (cc : ByteArray) (own : String) (ret : Option FieldType) (D : Nat) (E : f_E) (S : f_S) (encR : ρ0 → Option Value) (post : ρ0 → f_Mem → Prop) (G : f_G) : Prop := ∀ (pc : Nat) (L : f_L) (st : List Value) (σ : f_Mem) (dflt lo hi : Int) (offs : Array Int) (len : Nat) (x : Int32) (off : Int) (tgt : Nat), (decode cc pc = .ok (.tableswitch dflt lo hi offs, len)) → (¬ x.toInt < lo) → (¬ hi < x.toInt) → (offs[(x.toInt - lo).toNat]? = some off) → ((pc : Int) + off = (tgt : Int)) → G tgt L st σ → G pc L (.int x :: st) σ
def r_tblOut {ρ0 : Type} (cc : ByteArray) (own : String) (ret : Option FieldType) (D : Nat) (E : f_E) (S : f_S) (encR : ρ0 → Option Value) (post : ρ0 → f_Mem → Prop) (G : f_G) : Prop := ∀ (pc : Nat) (L : f_L) (st : List Value) (σ : f_Mem) (dflt lo hi : Int) (offs : Array Int) (len : Nat) (x : Int32) (tgt : Nat), (decode cc pc = .ok (.tableswitch dflt lo hi offs, len)) → (x.toInt < lo ∨ hi < x.toInt) → ((pc : Int) + dflt = (tgt : Int)) → G tgt L st σ → G pc L (.int x :: st) σ
def r_iload_n {ρ0 : Type} (cc : ByteArray) (own : String) (ret : Option FieldType) (D : Nat) (E : f_E) (S : f_S) (encR : ρ0 → Option Value) (post : ρ0 → f_Mem → Prop) (G : f_G) : Prop := ∀ (pc : Nat) (L : f_L) (st : List Value) (σ : f_Mem) (k : Fin 4) (x : Int32), (decode cc pc = .ok (.iload_n k, 1)) → (L[(k : Nat)]? = some (some (.int x))) → G (pc + 1) L (.int x :: st) σ → G pc L st σ
def r_iload {ρ0 : Type} (cc : ByteArray) (own : String) (ret : Option FieldType) (D : Nat) (E : f_E) (S : f_S) (encR : ρ0 → Option Value) (post : ρ0 → f_Mem → Prop) (G : f_G) : Prop := ∀ (pc : Nat) (L : f_L) (st : List Value) (σ : f_Mem) (k : Nat) (x : Int32), (decode cc pc = .ok (.iload k, 2)) → (L[k]? = some (some (.int x))) → G (pc + 2) L (.int x :: st) σ → G pc L st σ
def r_aload_n {ρ0 : Type} (cc : ByteArray) (own : String) (ret : Option FieldType) (D : Nat) (E : f_E) (S : f_S) (encR : ρ0 → Option Value) (post : ρ0 → f_Mem → Prop) (G : f_G) : Prop := ∀ (pc : Nat) (L : f_L) (st : List Value) (σ : f_Mem) (k : Fin 4) (x : Nat), (decode cc pc = .ok (.aload_n k, 1)) → (L[(k : Nat)]? = some (some (.ref x))) → G (pc + 1) L (.ref x :: st) σ → G pc L st σ
def r_aload {ρ0 : Type} (cc : ByteArray) (own : String) (ret : Option FieldType) (D : Nat) (E : f_E) (S : f_S) (encR : ρ0 → Option Value) (post : ρ0 → f_Mem → Prop) (G : f_G) : Prop := ∀ (pc : Nat) (L : f_L) (st : List Value) (σ : f_Mem) (k : Nat) (x : Nat), (decode cc pc = .ok (.aload k, 2)) → (L[k]? = some (some (.ref x))) → G (pc + 2) L (.ref x :: st) σ → G pc L st σ
def r_aloadN_n {ρ0 : Type} (cc : ByteArray) (own : String) (ret : Option FieldType) (D : Nat) (E : f_E) (S : f_S) (encR : ρ0 → Option Value) (post : ρ0 → f_Mem → Prop) (G : f_G) : Prop := ∀ (pc : Nat) (L : f_L) (st : List Value) (σ : f_Mem) (k : Fin 4), (decode cc pc = .ok (.aload_n k, 1)) → (L[(k : Nat)]? = some (some (.null))) → G (pc + 1) L (.null :: st) σ → G pc L st σ
def r_aloadN {ρ0 : Type} (cc : ByteArray) (own : String) (ret : Option FieldType) (D : Nat) (E : f_E) (S : f_S) (encR : ρ0 → Option Value) (post : ρ0 → f_Mem → Prop) (G : f_G) : Prop := ∀ (pc : Nat) (L : f_L) (st : List Value) (σ : f_Mem) (k : Nat), (decode cc pc = .ok (.aload k, 2)) → (L[k]? = some (some (.null))) → G (pc + 2) L (.null :: st) σ → G pc L st σ
def r_lload_n {ρ0 : Type} (cc : ByteArray) (own : String) (ret : Option FieldType) (D : Nat) (E : f_E) (S : f_S) (encR : ρ0 → Option Value) (post : ρ0 → f_Mem → Prop) (G : f_G) : Prop := ∀ (pc : Nat) (L : f_L) (st : List Value) (σ : f_Mem) (k : Fin 4) (x : Int64), (decode cc pc = .ok (.lload_n k, 1)) → (L[(k : Nat)]? = some (some (.long x))) → G (pc + 1) L (.long x :: st) σ → G pc L st σ
def r_lload {ρ0 : Type} (cc : ByteArray) (own : String) (ret : Option FieldType) (D : Nat) (E : f_E) (S : f_S) (encR : ρ0 → Option Value) (post : ρ0 → f_Mem → Prop) (G : f_G) : Prop := ∀ (pc : Nat) (L : f_L) (st : List Value) (σ : f_Mem) (k : Nat) (x : Int64), (decode cc pc = .ok (.lload k, 2)) → (L[k]? = some (some (.long x))) → G (pc + 2) L (.long x :: st) σ → G pc L st σ
def r_istore_n {ρ0 : Type} (cc : ByteArray) (own : String) (ret : Option FieldType) (D : Nat) (E : f_E) (S : f_S) (encR : ρ0 → Option Value) (post : ρ0 → f_Mem → Prop) (G : f_G) : Prop := ∀ (pc : Nat) (L : f_L) (st : List Value) (σ : f_Mem) (k : Fin 4) (x : Int32), (decode cc pc = .ok (.istore_n k, 1)) → ((k : Nat) < L.length) → (f_nl L k = true) → G (pc + 1) (L.set k (some (.int x))) st σ → G pc L (.int x :: st) σ
def r_istore {ρ0 : Type} (cc : ByteArray) (own : String) (ret : Option FieldType) (D : Nat) (E : f_E) (S : f_S) (encR : ρ0 → Option Value) (post : ρ0 → f_Mem → Prop) (G : f_G) : Prop := ∀ (pc : Nat) (L : f_L) (st : List Value) (σ : f_Mem) (k : Nat) (x : Int32), (decode cc pc = .ok (.istore k, 2)) → (k < L.length) → (f_nl L k = true) → G (pc + 2) (L.set k (some (.int x))) st σ → G pc L (.int x :: st) σ
def r_astore_n {ρ0 : Type} (cc : ByteArray) (own : String) (ret : Option FieldType) (D : Nat) (E : f_E) (S : f_S) (encR : ρ0 → Option Value) (post : ρ0 → f_Mem → Prop) (G : f_G) : Prop := ∀ (pc : Nat) (L : f_L) (st : List Value) (σ : f_Mem) (k : Fin 4) (x : Nat), (decode cc pc = .ok (.astore_n k, 1)) → ((k : Nat) < L.length) → (f_nl L k = true) → G (pc + 1) (L.set k (some (.ref x))) st σ → G pc L (.ref x :: st) σ
def r_astore {ρ0 : Type} (cc : ByteArray) (own : String) (ret : Option FieldType) (D : Nat) (E : f_E) (S : f_S) (encR : ρ0 → Option Value) (post : ρ0 → f_Mem → Prop) (G : f_G) : Prop := ∀ (pc : Nat) (L : f_L) (st : List Value) (σ : f_Mem) (k : Nat) (x : Nat), (decode cc pc = .ok (.astore k, 2)) → (k < L.length) → (f_nl L k = true) → G (pc + 2) (L.set k (some (.ref x))) st σ → G pc L (.ref x :: st) σ
def r_astoreN_n {ρ0 : Type} (cc : ByteArray) (own : String) (ret : Option FieldType) (D : Nat) (E : f_E) (S : f_S) (encR : ρ0 → Option Value) (post : ρ0 → f_Mem → Prop) (G : f_G) : Prop := ∀ (pc : Nat) (L : f_L) (st : List Value) (σ : f_Mem) (k : Fin 4), (decode cc pc = .ok (.astore_n k, 1)) → ((k : Nat) < L.length) → (f_nl L k = true) → G (pc + 1) (L.set k (some (.null))) st σ → G pc L (.null :: st) σ
def r_astoreN {ρ0 : Type} (cc : ByteArray) (own : String) (ret : Option FieldType) (D : Nat) (E : f_E) (S : f_S) (encR : ρ0 → Option Value) (post : ρ0 → f_Mem → Prop) (G : f_G) : Prop := ∀ (pc : Nat) (L : f_L) (st : List Value) (σ : f_Mem) (k : Nat), (decode cc pc = .ok (.astore k, 2)) → (k < L.length) → (f_nl L k = true) → G (pc + 2) (L.set k (some (.null))) st σ → G pc L (.null :: st) σ
def r_lstore_n {ρ0 : Type} (cc : ByteArray) (own : String) (ret : Option FieldType) (D : Nat) (E : f_E) (S : f_S) (encR : ρ0 → Option Value) (post : ρ0 → f_Mem → Prop) (G : f_G) : Prop := ∀ (pc : Nat) (L : f_L) (st : List Value) (σ : f_Mem) (k : Fin 4) (x : Int64), (decode cc pc = .ok (.lstore_n k, 1)) → ((k : Nat) + 1 < L.length) → (f_nl L k = true) → G (pc + 1) ((L.set k (some (.long x))).set (k + 1) none) st σ → G pc L (.long x :: st) σ
def r_lstore {ρ0 : Type} (cc : ByteArray) (own : String) (ret : Option FieldType) (D : Nat) (E : f_E) (S : f_S) (encR : ρ0 → Option Value) (post : ρ0 → f_Mem → Prop) (G : f_G) : Prop := ∀ (pc : Nat) (L : f_L) (st : List Value) (σ : f_Mem) (k : Nat) (x : Int64), (decode cc pc = .ok (.lstore k, 2)) → (k + 1 < L.length) → (f_nl L k = true) → G (pc + 2) ((L.set k (some (.long x))).set (k + 1) none) st σ → G pc L (.long x :: st) σ
def r_iinc {ρ0 : Type} (cc : ByteArray) (own : String) (ret : Option FieldType) (D : Nat) (E : f_E) (S : f_S) (encR : ρ0 → Option Value) (post : ρ0 → f_Mem → Prop) (G : f_G) : Prop := ∀ (pc : Nat) (L : f_L) (st : List Value) (σ : f_Mem) (k : Nat) (n : Int) (x v : Int32), (decode cc pc = .ok (.iinc k n, 3)) → (L[k]? = some (some (.int x))) → (x + Int32.ofInt n = v) → (f_nl L k = true) → G (pc + 3) (L.set k (some (.int v))) st σ → G pc L st σ
def r_getI {ρ0 : Type} (cc : ByteArray) (own : String) (ret : Option FieldType) (D : Nat) (E : f_E) (S : f_S) (encR : ρ0 → Option Value) (post : ρ0 → f_Mem → Prop) (G : f_G) : Prop := ∀ (pc : Nat) (L : f_L) (st : List Value) (σ : f_Mem) (i ci k n : Nat) (fs : List (Option (Option Nat))), (decode cc pc = .ok (.getfield i, 3)) → (f_FL own i ci k) → (n < S.1) → (S.2 n = .inl (ci, fs)) → (fs[k]? = some none) → G (pc + 3) L (.int (σ n k) :: st) σ → G pc L (.ref (f_ad E n) :: st) σ
def r_getR {ρ0 : Type} (cc : ByteArray) (own : String) (ret : Option FieldType) (D : Nat) (E : f_E) (S : f_S) (encR : ρ0 → Option Value) (post : ρ0 → f_Mem → Prop) (G : f_G) : Prop := ∀ (pc : Nat) (L : f_L) (st : List Value) (σ : f_Mem) (i ci k n r : Nat) (fs : List (Option (Option Nat))), (decode cc pc = .ok (.getfield i, 3)) → (f_FL own i ci k) → (n < S.1) → (S.2 n = .inl (ci, fs)) → (fs[k]? = some (some (some r))) → G (pc + 3) L (.ref (f_ad E r) :: st) σ → G pc L (.ref (f_ad E n) :: st) σ
def r_getN {ρ0 : Type} (cc : ByteArray) (own : String) (ret : Option FieldType) (D : Nat) (E : f_E) (S : f_S) (encR : ρ0 → Option Value) (post : ρ0 → f_Mem → Prop) (G : f_G) : Prop := ∀ (pc : Nat) (L : f_L) (st : List Value) (σ : f_Mem) (i ci k n : Nat) (fs : List (Option (Option Nat))), (decode cc pc = .ok (.getfield i, 3)) → (f_FL own i ci k) → (n < S.1) → (S.2 n = .inl (ci, fs)) → (fs[k]? = some (some none)) → G (pc + 3) L (.null :: st) σ → G pc L (.ref (f_ad E n) :: st) σ
def r_put {ρ0 : Type} (cc : ByteArray) (own : String) (ret : Option FieldType) (D : Nat) (E : f_E) (S : f_S) (encR : ρ0 → Option Value) (post : ρ0 → f_Mem → Prop) (G : f_G) : Prop := ∀ (pc : Nat) (L : f_L) (st : List Value) (σ : f_Mem) (i ci k n : Nat) (fs : List (Option (Option Nat))) (v : Int32), (decode cc pc = .ok (.putfield i, 3)) → (f_FP own i ci k) → (n < S.1) → (S.2 n = .inl (ci, fs)) → (fs[k]? = some none) → G (pc + 3) L st (m_set σ n k v) → G pc L (.int v :: .ref (f_ad E n) :: st) σ
def r_ald {ρ0 : Type} (cc : ByteArray) (own : String) (ret : Option FieldType) (D : Nat) (E : f_E) (S : f_S) (encR : ρ0 → Option Value) (post : ρ0 → f_Mem → Prop) (G : f_G) : Prop := ∀ (pc : Nat) (L : f_L) (st : List Value) (σ : f_Mem) (n len : Nat) (i : Int32), (decode cc pc = .ok (.iaload, 1)) → (n < S.1) → (S.2 n = .inr (.inl len)) → (vp_in i len) → G (pc + 1) L (.int (σ n i.toNatClampNeg) :: st) σ → G pc L (.int i :: .ref (f_ad E n) :: st) σ
def r_ast {ρ0 : Type} (cc : ByteArray) (own : String) (ret : Option FieldType) (D : Nat) (E : f_E) (S : f_S) (encR : ρ0 → Option Value) (post : ρ0 → f_Mem → Prop) (G : f_G) : Prop := ∀ (pc : Nat) (L : f_L) (st : List Value) (σ : f_Mem) (n len : Nat) (i v : Int32), (decode cc pc = .ok (.iastore, 1)) → (n < S.1) → (S.2 n = .inr (.inl len)) → (vp_in i len) → G (pc + 1) L st (m_set σ n i.toNatClampNeg v) → G pc L (.int v :: .int i :: .ref (f_ad E n) :: st) σ
def r_alenI {ρ0 : Type} (cc : ByteArray) (own : String) (ret : Option FieldType) (D : Nat) (E : f_E) (S : f_S) (encR : ρ0 → Option Value) (post : ρ0 → f_Mem → Prop) (G : f_G) : Prop := ∀ (pc : Nat) (L : f_L) (st : List Value) (σ : f_Mem) (n len : Nat), (decode cc pc = .ok (.arraylength, 1)) → (n < S.1) → (S.2 n = .inr (.inl len)) → G (pc + 1) L (.int (Int32.ofNat len) :: st) σ → G pc L (.ref (f_ad E n) :: st) σ
def r_alenQ {ρ0 : Type} (cc : ByteArray) (own : String) (ret : Option FieldType) (D : Nat) (E : f_E) (S : f_S) (encR : ρ0 → Option Value) (post : ρ0 → f_Mem → Prop) (G : f_G) : Prop := ∀ (pc : Nat) (L : f_L) (st : List Value) (σ : f_Mem) (n len : Nat), (decode cc pc = .ok (.arraylength, 1)) → (n < S.1) → (S.2 n = .inr (.inr len)) → G (pc + 1) L (.int (Int32.ofNat len) :: st) σ → G pc L (.ref (f_ad E n) :: st) σ
def r_aldQ {ρ0 : Type} (cc : ByteArray) (own : String) (ret : Option FieldType) (D : Nat) (E : f_E) (S : f_S) (encR : ρ0 → Option Value) (post : ρ0 → f_Mem → Prop) (G : f_G) : Prop := ∀ (pc : Nat) (L : f_L) (st : List Value) (σ : f_Mem) (n len : Nat) (i : Int32), (decode cc pc = .ok (.aaload, 1)) → (n < S.1) → (S.2 n = .inr (.inr len)) → (vp_in i len) → G (pc + 1) L (.ref (f_ad E (σ n i.toNatClampNeg).toNatClampNeg) :: st) σ → G pc L (.int i :: .ref (f_ad E n) :: st) σ
def r_astQ {ρ0 : Type} (cc : ByteArray) (own : String) (ret : Option FieldType) (D : Nat) (E : f_E) (S : f_S) (encR : ρ0 → Option Value) (post : ρ0 → f_Mem → Prop) (G : f_G) : Prop := ∀ (pc : Nat) (L : f_L) (st : List Value) (σ : f_Mem) (n len r : Nat) (fs : List (Option (Option Nat))) (i : Int32), (decode cc pc = .ok (.aastore, 1)) → (n < S.1) → (S.2 n = .inr (.inr len)) → (vp_in i len) → (r < S.1) → (S.2 r = .inl (2, fs)) → (r < 2147483648) → G (pc + 1) L st (m_set σ n i.toNatClampNeg (Int32.ofNat r)) → G pc L (.ref (f_ad E r) :: .int i :: .ref (f_ad E n) :: st) σ
def r_max {ρ0 : Type} (cc : ByteArray) (own : String) (ret : Option FieldType) (D : Nat) (E : f_E) (S : f_S) (encR : ρ0 → Option Value) (post : ρ0 → f_Mem → Prop) (G : f_G) : Prop := ∀ (pc : Nat) (L : f_L) (st : List Value) (σ : f_Mem) (i : Nat) (x y : Int32), (decode cc pc = .ok (.invokestatic i, 3)) → (Cond.methodLink own i Lib.Math.max.name ∈ tb) → (1 ≤ D) → ((st.map fun v => v.category).sum ≤ 8) → G (pc + 3) L (.int (if x < y then y else x) :: st) σ → G pc L (.int y :: .int x :: st) σ
def r_min {ρ0 : Type} (cc : ByteArray) (own : String) (ret : Option FieldType) (D : Nat) (E : f_E) (S : f_S) (encR : ρ0 → Option Value) (post : ρ0 → f_Mem → Prop) (G : f_G) : Prop := ∀ (pc : Nat) (L : f_L) (st : List Value) (σ : f_Mem) (i : Nat) (x y : Int32), (decode cc pc = .ok (.invokestatic i, 3)) → (Cond.methodLink own i Lib.Math.min.name ∈ tb) → (1 ≤ D) → ((st.map fun v => v.category).sum ≤ 8) → G (pc + 3) L (.int (if y < x then y else x) :: st) σ → G pc L (.int y :: .int x :: st) σ
def r_copy {ρ0 : Type} (cc : ByteArray) (own : String) (ret : Option FieldType) (D : Nat) (E : f_E) (S : f_S) (encR : ρ0 → Option Value) (post : ρ0 → f_Mem → Prop) (G : f_G) : Prop := ∀ (pc : Nat) (L : f_L) (st : List Value) (σ : f_Mem) (i n0 n1 l0 l1 : Nat) (sp dp n : Int32), (decode cc pc = .ok (.invokestatic i, 3)) → (Cond.methodLink own i arraycopyName ∈ tb) → (1 ≤ D) → ((st.map fun v => v.category).sum ≤ 8) → (n0 < S.1) → (n1 < S.1) → (S.2 n0 = .inr (.inl l0)) → (S.2 n1 = .inr (.inl l1)) → (¬ sp < 0) → (¬ dp < 0) → (¬ n < 0) → (sp.toNatClampNeg + n.toNatClampNeg ≤ l0) → (dp.toNatClampNeg + n.toNatClampNeg ≤ l1) → G (pc + 3) L st (m_row σ n1 (va_cpy (σ n0) (σ n1) sp.toNatClampNeg dp.toNatClampNeg n.toNatClampNeg)) → G pc L (.int n :: .int dp :: .ref (f_ad E n1) :: .int sp :: .ref (f_ad E n0) :: st) σ
def r_callV {ρ0 : Type} (cc : ByteArray) (own : String) (ret : Option FieldType) (D : Nat) (E : f_E) (S : f_S) (encR : ρ0 → Option Value) (post : ρ0 → f_Mem → Prop) (G : f_G) : Prop := ∀ (ρ : Type) (pc : Nat) (L : f_L) (rest As : List Value) (σ : f_Mem) (i ci n d : Nat) (fs : List (Option (Option Nat))) (Y : f_Y) (enc : ρ → Option Value) (post2 : ρ → f_Mem → Prop), (decode cc pc = .ok (.invokevirtual i, 3)) → (f_LV own i Y As.length) → (n < S.1) → (S.2 n = .inl (ci, fs)) → ((vwCl[ci]?).map (fun q => q.1) = some Y.1.cls) → (FM E S Y d (.ref (f_ad E n) :: As) σ enc post2) → (d + 1 ≤ D) → ((rest.map fun v => v.category).sum ≤ 8) → (∀ (r : ρ) (u : f_Mem), post2 r u → G (pc + 3) L ((enc r).toList ++ rest) u) → G pc L (As.reverse ++ .ref (f_ad E n) :: rest) σ
def r_callS {ρ0 : Type} (cc : ByteArray) (own : String) (ret : Option FieldType) (D : Nat) (E : f_E) (S : f_S) (encR : ρ0 → Option Value) (post : ρ0 → f_Mem → Prop) (G : f_G) : Prop := ∀ (ρ : Type) (pc : Nat) (L : f_L) (rest As : List Value) (σ : f_Mem) (i d : Nat) (Y : f_Y) (enc : ρ → Option Value) (post2 : ρ → f_Mem → Prop), (decode cc pc = .ok (.invokestatic i, 3)) → (f_LS own i Y As.length) → (FM E S Y d As σ enc post2) → (d + 1 ≤ D) → ((rest.map fun v => v.category).sum ≤ 8) → (∀ (r : ρ) (u : f_Mem), post2 r u → G (pc + 3) L ((enc r).toList ++ rest) u) → G pc L (As.reverse ++ rest) σ
def r_iret {ρ0 : Type} (cc : ByteArray) (own : String) (ret : Option FieldType) (D : Nat) (E : f_E) (S : f_S) (encR : ρ0 → Option Value) (post : ρ0 → f_Mem → Prop) (G : f_G) : Prop := ∀ (pc : Nat) (L : f_L) (σ : f_Mem) (v : Int32) (ty : FieldType), (decode cc pc = .ok (.ireturn, 1)) → (ret = some ty) → (narrow ty (.int v) = .int v) → (∃ r, encR r = some (.int v) ∧ post r σ) → G pc L [.int v] σ
def r_vret {ρ0 : Type} (cc : ByteArray) (own : String) (ret : Option FieldType) (D : Nat) (E : f_E) (S : f_S) (encR : ρ0 → Option Value) (post : ρ0 → f_Mem → Prop) (G : f_G) : Prop := ∀ (pc : Nat) (L : f_L) (σ : f_Mem), (decode cc pc = .ok (.return_, 1)) → (ret = none) → (∃ r, encR r = none ∧ post r σ) → G pc L [] σ
def r_lret {ρ0 : Type} (cc : ByteArray) (own : String) (ret : Option FieldType) (D : Nat) (E : f_E) (S : f_S) (encR : ρ0 → Option Value) (post : ρ0 → f_Mem → Prop) (G : f_G) : Prop := ∀ (pc : Nat) (L : f_L) (σ : f_Mem) (v : Int64), (decode cc pc = .ok (.lreturn, 1)) → (ret = some .long) → (∃ r, encR r = some (.long v) ∧ post r σ) → G pc L [.long v] σ
def r_aret {ρ0 : Type} (cc : ByteArray) (own : String) (ret : Option FieldType) (D : Nat) (E : f_E) (S : f_S) (encR : ρ0 → Option Value) (post : ρ0 → f_Mem → Prop) (G : f_G) : Prop := ∀ (pc : Nat) (L : f_L) (σ : f_Mem) (v : Value) (cn : String), (decode cc pc = .ok (.areturn, 1)) → (ret = some (.object cn)) → (v = .null ∨ ∃ a, v = .ref a) → (∃ r, encR r = some v ∧ post r σ) → G pc L [v] σ
def Rul {ρ0 : Type} (cc : ByteArray) (own : String) (ret : Option FieldType) (D : Nat) (E : f_E) (S : f_S) (encR : ρ0 → Option Value) (post : ρ0 → f_Mem → Prop) (G : f_G) : Prop := r_iadd cc own ret D E S encR post G ∧ r_isub cc own ret D E S encR post G ∧ r_imul cc own ret D E S encR post G ∧ r_idiv cc own ret D E S encR post G ∧ r_irem cc own ret D E S encR post G ∧ r_iand cc own ret D E S encR post G ∧ r_ior cc own ret D E S encR post G ∧ r_ixor cc own ret D E S encR post G ∧ r_ishl cc own ret D E S encR post G ∧ r_ishr cc own ret D E S encR post G ∧ r_iushr cc own ret D E S encR post G ∧ r_ladd cc own ret D E S encR post G ∧ r_lmul cc own ret D E S encR post G ∧ r_ldiv cc own ret D E S encR post G ∧ r_lrem cc own ret D E S encR post G ∧ r_i2l cc own ret D E S encR post G ∧ r_l2i cc own ret D E S encR post G ∧ r_lcmp cc own ret D E S encR post G ∧ r_iconst cc own ret D E S encR post G ∧ r_bipush cc own ret D E S encR post G ∧ r_sipush cc own ret D E S encR post G ∧ r_lconst cc own ret D E S encR post G ∧ r_ldc cc own ret D E S encR post G ∧ r_ldcw cc own ret D E S encR post G ∧ r_ldc2 cc own ret D E S encR post G ∧ r_null cc own ret D E S encR post G ∧ r_dup cc own ret D E S encR post G ∧ r_dup2 cc own ret D E S encR post G ∧ r_pop cc own ret D E S encR post G ∧ r_icmp_eq cc own ret D E S encR post G ∧ r_icmp_ne cc own ret D E S encR post G ∧ r_icmp_lt cc own ret D E S encR post G ∧ r_icmp_ge cc own ret D E S encR post G ∧ r_icmp_gt cc own ret D E S encR post G ∧ r_icmp_le cc own ret D E S encR post G ∧ r_if_eq cc own ret D E S encR post G ∧ r_if_ne cc own ret D E S encR post G ∧ r_if_lt cc own ret D E S encR post G ∧ r_if_ge cc own ret D E S encR post G ∧ r_if_gt cc own ret D E S encR post G ∧ r_if_le cc own ret D E S encR post G ∧ r_goto cc own ret D E S encR post G ∧ r_ifnull cc own ret D E S encR post G ∧ r_ifnullN cc own ret D E S encR post G ∧ r_ifnonnull cc own ret D E S encR post G ∧ r_ifnonnullN cc own ret D E S encR post G ∧ r_tblIn cc own ret D E S encR post G ∧ r_tblOut cc own ret D E S encR post G ∧ r_iload_n cc own ret D E S encR post G ∧ r_iload cc own ret D E S encR post G ∧ r_aload_n cc own ret D E S encR post G ∧ r_aload cc own ret D E S encR post G ∧ r_aloadN_n cc own ret D E S encR post G ∧ r_aloadN cc own ret D E S encR post G ∧ r_lload_n cc own ret D E S encR post G ∧ r_lload cc own ret D E S encR post G ∧ r_istore_n cc own ret D E S encR post G ∧ r_istore cc own ret D E S encR post G ∧ r_astore_n cc own ret D E S encR post G ∧ r_astore cc own ret D E S encR post G ∧ r_astoreN_n cc own ret D E S encR post G ∧ r_astoreN cc own ret D E S encR post G ∧ r_lstore_n cc own ret D E S encR post G ∧ r_lstore cc own ret D E S encR post G ∧ r_iinc cc own ret D E S encR post G ∧ r_getI cc own ret D E S encR post G ∧ r_getR cc own ret D E S encR post G ∧ r_getN cc own ret D E S encR post G ∧ r_put cc own ret D E S encR post G ∧ r_ald cc own ret D E S encR post G ∧ r_ast cc own ret D E S encR post G ∧ r_alenI cc own ret D E S encR post G ∧ r_alenQ cc own ret D E S encR post G ∧ r_aldQ cc own ret D E S encR post G ∧ r_astQ cc own ret D E S encR post G ∧ r_max cc own ret D E S encR post G ∧ r_min cc own ret D E S encR post G ∧ r_copy cc own ret D E S encR post G ∧ r_callV cc own ret D E S encR post G ∧ r_callS cc own ret D E S encR post G ∧ r_iret cc own ret D E S encR post G ∧ r_vret cc own ret D E S encR post G ∧ r_lret cc own ret D E S encR post G ∧ r_aret cc own ret D E S encR post G
theorem k_iadd {ρ0 : Type} {cc : ByteArray} {own : String} {ret : Option FieldType} {D : Nat} {E : f_E} {S : f_S} {encR : ρ0 → Option Value} {post : ρ0 → f_Mem → Prop} {G : f_G} (hR : Rul cc own ret D E S encR post G) : r_iadd cc own ret D E S encR post G := hR.1
theorem k_isub {ρ0 : Type} {cc : ByteArray} {own : String} {ret : Option FieldType} {D : Nat} {E : f_E} {S : f_S} {encR : ρ0 → Option Value} {post : ρ0 → f_Mem → Prop} {G : f_G} (hR : Rul cc own ret D E S encR post G) : r_isub cc own ret D E S encR post G := hR.2.1
theorem k_imul {ρ0 : Type} {cc : ByteArray} {own : String} {ret : Option FieldType} {D : Nat} {E : f_E} {S : f_S} {encR : ρ0 → Option Value} {post : ρ0 → f_Mem → Prop} {G : f_G} (hR : Rul cc own ret D E S encR post G) : r_imul cc own ret D E S encR post G := hR.2.2.1
theorem k_idiv {ρ0 : Type} {cc : ByteArray} {own : String} {ret : Option FieldType} {D : Nat} {E : f_E} {S : f_S} {encR : ρ0 → Option Value} {post : ρ0 → f_Mem → Prop} {G : f_G} (hR : Rul cc own ret D E S encR post G) : r_idiv cc own ret D E S encR post G := hR.2.2.2.1
theorem k_irem {ρ0 : Type} {cc : ByteArray} {own : String} {ret : Option FieldType} {D : Nat} {E : f_E} {S : f_S} {encR : ρ0 → Option Value} {post : ρ0 → f_Mem → Prop} {G : f_G} (hR : Rul cc own ret D E S encR post G) : r_irem cc own ret D E S encR post G := hR.2.2.2.2.1
theorem k_iand {ρ0 : Type} {cc : ByteArray} {own : String} {ret : Option FieldType} {D : Nat} {E : f_E} {S : f_S} {encR : ρ0 → Option Value} {post : ρ0 → f_Mem → Prop} {G : f_G} (hR : Rul cc own ret D E S encR post G) : r_iand cc own ret D E S encR post G := hR.2.2.2.2.2.1
theorem k_ior {ρ0 : Type} {cc : ByteArray} {own : String} {ret : Option FieldType} {D : Nat} {E : f_E} {S : f_S} {encR : ρ0 → Option Value} {post : ρ0 → f_Mem → Prop} {G : f_G} (hR : Rul cc own ret D E S encR post G) : r_ior cc own ret D E S encR post G := hR.2.2.2.2.2.2.1
theorem k_ixor {ρ0 : Type} {cc : ByteArray} {own : String} {ret : Option FieldType} {D : Nat} {E : f_E} {S : f_S} {encR : ρ0 → Option Value} {post : ρ0 → f_Mem → Prop} {G : f_G} (hR : Rul cc own ret D E S encR post G) : r_ixor cc own ret D E S encR post G := hR.2.2.2.2.2.2.2.1
theorem k_ishl {ρ0 : Type} {cc : ByteArray} {own : String} {ret : Option FieldType} {D : Nat} {E : f_E} {S : f_S} {encR : ρ0 → Option Value} {post : ρ0 → f_Mem → Prop} {G : f_G} (hR : Rul cc own ret D E S encR post G) : r_ishl cc own ret D E S encR post G := hR.2.2.2.2.2.2.2.2.1
theorem k_ishr {ρ0 : Type} {cc : ByteArray} {own : String} {ret : Option FieldType} {D : Nat} {E : f_E} {S : f_S} {encR : ρ0 → Option Value} {post : ρ0 → f_Mem → Prop} {G : f_G} (hR : Rul cc own ret D E S encR post G) : r_ishr cc own ret D E S encR post G := hR.2.2.2.2.2.2.2.2.2.1
theorem k_iushr {ρ0 : Type} {cc : ByteArray} {own : String} {ret : Option FieldType} {D : Nat} {E : f_E} {S : f_S} {encR : ρ0 → Option Value} {post : ρ0 → f_Mem → Prop} {G : f_G} (hR : Rul cc own ret D E S encR post G) : r_iushr cc own ret D E S encR post G := hR.2.2.2.2.2.2.2.2.2.2.1
theorem k_ladd {ρ0 : Type} {cc : ByteArray} {own : String} {ret : Option FieldType} {D : Nat} {E : f_E} {S : f_S} {encR : ρ0 → Option Value} {post : ρ0 → f_Mem → Prop} {G : f_G} (hR : Rul cc own ret D E S encR post G) : r_ladd cc own ret D E S encR post G := hR.2.2.2.2.2.2.2.2.2.2.2.1
theorem k_lmul {ρ0 : Type} {cc : ByteArray} {own : String} {ret : Option FieldType} {D : Nat} {E : f_E} {S : f_S} {encR : ρ0 → Option Value} {post : ρ0 → f_Mem → Prop} {G : f_G} (hR : Rul cc own ret D E S encR post G) : r_lmul cc own ret D E S encR post G := hR.2.2.2.2.2.2.2.2.2.2.2.2.1
theorem k_ldiv {ρ0 : Type} {cc : ByteArray} {own : String} {ret : Option FieldType} {D : Nat} {E : f_E} {S : f_S} {encR : ρ0 → Option Value} {post : ρ0 → f_Mem → Prop} {G : f_G} (hR : Rul cc own ret D E S encR post G) : r_ldiv cc own ret D E S encR post G := hR.2.2.2.2.2.2.2.2.2.2.2.2.2.1
theorem k_lrem {ρ0 : Type} {cc : ByteArray} {own : String} {ret : Option FieldType} {D : Nat} {E : f_E} {S : f_S} {encR : ρ0 → Option Value} {post : ρ0 → f_Mem → Prop} {G : f_G} (hR : Rul cc own ret D E S encR post G) : r_lrem cc own ret D E S encR post G := hR.2.2.2.2.2.2.2.2.2.2.2.2.2.2.1
theorem k_i2l {ρ0 : Type} {cc : ByteArray} {own : String} {ret : Option FieldType} {D : Nat} {E : f_E} {S : f_S} {encR : ρ0 → Option Value} {post : ρ0 → f_Mem → Prop} {G : f_G} (hR : Rul cc own ret D E S encR post G) : r_i2l cc own ret D E S encR post G := hR.2.2.2.2.2.2.2.2.2.2.2.2.2.2.2.1
theorem k_l2i {ρ0 : Type} {cc : ByteArray} {own : String} {ret : Option FieldType} {D : Nat} {E : f_E} {S : f_S} {encR : ρ0 → Option Value} {post : ρ0 → f_Mem → Prop} {G : f_G} (hR : Rul cc own ret D E S encR post G) : r_l2i cc own ret D E S encR post G := hR.2.2.2.2.2.2.2.2.2.2.2.2.2.2.2.2.1
theorem k_lcmp {ρ0 : Type} {cc : ByteArray} {own : String} {ret : Option FieldType} {D : Nat} {E : f_E} {S : f_S} {encR : ρ0 → Option Value} {post : ρ0 → f_Mem → Prop} {G : f_G} (hR : Rul cc own ret D E S encR post G) : r_lcmp cc own ret D E S encR post G := hR.2.2.2.2.2.2.2.2.2.2.2.2.2.2.2.2.2.1
theorem k_iconst {ρ0 : Type} {cc : ByteArray} {own : String} {ret : Option FieldType} {D : Nat} {E : f_E} {S : f_S} {encR : ρ0 → Option Value} {post : ρ0 → f_Mem → Prop} {G : f_G} (hR : Rul cc own ret D E S encR post G) : r_iconst cc own ret D E S encR post G := hR.2.2.2.2.2.2.2.2.2.2.2.2.2.2.2.2.2.2.1
theorem k_bipush {ρ0 : Type} {cc : ByteArray} {own : String} {ret : Option FieldType} {D : Nat} {E : f_E} {S : f_S} {encR : ρ0 → Option Value} {post : ρ0 → f_Mem → Prop} {G : f_G} (hR : Rul cc own ret D E S encR post G) : r_bipush cc own ret D E S encR post G := hR.2.2.2.2.2.2.2.2.2.2.2.2.2.2.2.2.2.2.2.1
theorem k_sipush {ρ0 : Type} {cc : ByteArray} {own : String} {ret : Option FieldType} {D : Nat} {E : f_E} {S : f_S} {encR : ρ0 → Option Value} {post : ρ0 → f_Mem → Prop} {G : f_G} (hR : Rul cc own ret D E S encR post G) : r_sipush cc own ret D E S encR post G := hR.2.2.2.2.2.2.2.2.2.2.2.2.2.2.2.2.2.2.2.2.1
theorem k_lconst {ρ0 : Type} {cc : ByteArray} {own : String} {ret : Option FieldType} {D : Nat} {E : f_E} {S : f_S} {encR : ρ0 → Option Value} {post : ρ0 → f_Mem → Prop} {G : f_G} (hR : Rul cc own ret D E S encR post G) : r_lconst cc own ret D E S encR post G := hR.2.2.2.2.2.2.2.2.2.2.2.2.2.2.2.2.2.2.2.2.2.1
theorem k_ldc {ρ0 : Type} {cc : ByteArray} {own : String} {ret : Option FieldType} {D : Nat} {E : f_E} {S : f_S} {encR : ρ0 → Option Value} {post : ρ0 → f_Mem → Prop} {G : f_G} (hR : Rul cc own ret D E S encR post G) : r_ldc cc own ret D E S encR post G := hR.2.2.2.2.2.2.2.2.2.2.2.2.2.2.2.2.2.2.2.2.2.2.1
theorem k_ldcw {ρ0 : Type} {cc : ByteArray} {own : String} {ret : Option FieldType} {D : Nat} {E : f_E} {S : f_S} {encR : ρ0 → Option Value} {post : ρ0 → f_Mem → Prop} {G : f_G} (hR : Rul cc own ret D E S encR post G) : r_ldcw cc own ret D E S encR post G := hR.2.2.2.2.2.2.2.2.2.2.2.2.2.2.2.2.2.2.2.2.2.2.2.1
theorem k_ldc2 {ρ0 : Type} {cc : ByteArray} {own : String} {ret : Option FieldType} {D : Nat} {E : f_E} {S : f_S} {encR : ρ0 → Option Value} {post : ρ0 → f_Mem → Prop} {G : f_G} (hR : Rul cc own ret D E S encR post G) : r_ldc2 cc own ret D E S encR post G := hR.2.2.2.2.2.2.2.2.2.2.2.2.2.2.2.2.2.2.2.2.2.2.2.2.1
theorem k_null {ρ0 : Type} {cc : ByteArray} {own : String} {ret : Option FieldType} {D : Nat} {E : f_E} {S : f_S} {encR : ρ0 → Option Value} {post : ρ0 → f_Mem → Prop} {G : f_G} (hR : Rul cc own ret D E S encR post G) : r_null cc own ret D E S encR post G := hR.2.2.2.2.2.2.2.2.2.2.2.2.2.2.2.2.2.2.2.2.2.2.2.2.2.1
theorem k_dup {ρ0 : Type} {cc : ByteArray} {own : String} {ret : Option FieldType} {D : Nat} {E : f_E} {S : f_S} {encR : ρ0 → Option Value} {post : ρ0 → f_Mem → Prop} {G : f_G} (hR : Rul cc own ret D E S encR post G) : r_dup cc own ret D E S encR post G := hR.2.2.2.2.2.2.2.2.2.2.2.2.2.2.2.2.2.2.2.2.2.2.2.2.2.2.1
theorem k_dup2 {ρ0 : Type} {cc : ByteArray} {own : String} {ret : Option FieldType} {D : Nat} {E : f_E} {S : f_S} {encR : ρ0 → Option Value} {post : ρ0 → f_Mem → Prop} {G : f_G} (hR : Rul cc own ret D E S encR post G) : r_dup2 cc own ret D E S encR post G := hR.2.2.2.2.2.2.2.2.2.2.2.2.2.2.2.2.2.2.2.2.2.2.2.2.2.2.2.1
theorem k_pop {ρ0 : Type} {cc : ByteArray} {own : String} {ret : Option FieldType} {D : Nat} {E : f_E} {S : f_S} {encR : ρ0 → Option Value} {post : ρ0 → f_Mem → Prop} {G : f_G} (hR : Rul cc own ret D E S encR post G) : r_pop cc own ret D E S encR post G := hR.2.2.2.2.2.2.2.2.2.2.2.2.2.2.2.2.2.2.2.2.2.2.2.2.2.2.2.2.1
theorem k_icmp_eq {ρ0 : Type} {cc : ByteArray} {own : String} {ret : Option FieldType} {D : Nat} {E : f_E} {S : f_S} {encR : ρ0 → Option Value} {post : ρ0 → f_Mem → Prop} {G : f_G} (hR : Rul cc own ret D E S encR post G) : r_icmp_eq cc own ret D E S encR post G := hR.2.2.2.2.2.2.2.2.2.2.2.2.2.2.2.2.2.2.2.2.2.2.2.2.2.2.2.2.2.1
theorem k_icmp_ne {ρ0 : Type} {cc : ByteArray} {own : String} {ret : Option FieldType} {D : Nat} {E : f_E} {S : f_S} {encR : ρ0 → Option Value} {post : ρ0 → f_Mem → Prop} {G : f_G} (hR : Rul cc own ret D E S encR post G) : r_icmp_ne cc own ret D E S encR post G := hR.2.2.2.2.2.2.2.2.2.2.2.2.2.2.2.2.2.2.2.2.2.2.2.2.2.2.2.2.2.2.1
theorem k_icmp_lt {ρ0 : Type} {cc : ByteArray} {own : String} {ret : Option FieldType} {D : Nat} {E : f_E} {S : f_S} {encR : ρ0 → Option Value} {post : ρ0 → f_Mem → Prop} {G : f_G} (hR : Rul cc own ret D E S encR post G) : r_icmp_lt cc own ret D E S encR post G := hR.2.2.2.2.2.2.2.2.2.2.2.2.2.2.2.2.2.2.2.2.2.2.2.2.2.2.2.2.2.2.2.1
theorem k_icmp_ge {ρ0 : Type} {cc : ByteArray} {own : String} {ret : Option FieldType} {D : Nat} {E : f_E} {S : f_S} {encR : ρ0 → Option Value} {post : ρ0 → f_Mem → Prop} {G : f_G} (hR : Rul cc own ret D E S encR post G) : r_icmp_ge cc own ret D E S encR post G := hR.2.2.2.2.2.2.2.2.2.2.2.2.2.2.2.2.2.2.2.2.2.2.2.2.2.2.2.2.2.2.2.2.1
theorem k_icmp_gt {ρ0 : Type} {cc : ByteArray} {own : String} {ret : Option FieldType} {D : Nat} {E : f_E} {S : f_S} {encR : ρ0 → Option Value} {post : ρ0 → f_Mem → Prop} {G : f_G} (hR : Rul cc own ret D E S encR post G) : r_icmp_gt cc own ret D E S encR post G := hR.2.2.2.2.2.2.2.2.2.2.2.2.2.2.2.2.2.2.2.2.2.2.2.2.2.2.2.2.2.2.2.2.2.1
theorem k_icmp_le {ρ0 : Type} {cc : ByteArray} {own : String} {ret : Option FieldType} {D : Nat} {E : f_E} {S : f_S} {encR : ρ0 → Option Value} {post : ρ0 → f_Mem → Prop} {G : f_G} (hR : Rul cc own ret D E S encR post G) : r_icmp_le cc own ret D E S encR post G := hR.2.2.2.2.2.2.2.2.2.2.2.2.2.2.2.2.2.2.2.2.2.2.2.2.2.2.2.2.2.2.2.2.2.2.1
theorem k_if_eq {ρ0 : Type} {cc : ByteArray} {own : String} {ret : Option FieldType} {D : Nat} {E : f_E} {S : f_S} {encR : ρ0 → Option Value} {post : ρ0 → f_Mem → Prop} {G : f_G} (hR : Rul cc own ret D E S encR post G) : r_if_eq cc own ret D E S encR post G := hR.2.2.2.2.2.2.2.2.2.2.2.2.2.2.2.2.2.2.2.2.2.2.2.2.2.2.2.2.2.2.2.2.2.2.2.1
theorem k_if_ne {ρ0 : Type} {cc : ByteArray} {own : String} {ret : Option FieldType} {D : Nat} {E : f_E} {S : f_S} {encR : ρ0 → Option Value} {post : ρ0 → f_Mem → Prop} {G : f_G} (hR : Rul cc own ret D E S encR post G) : r_if_ne cc own ret D E S encR post G := hR.2.2.2.2.2.2.2.2.2.2.2.2.2.2.2.2.2.2.2.2.2.2.2.2.2.2.2.2.2.2.2.2.2.2.2.2.1
theorem k_if_lt {ρ0 : Type} {cc : ByteArray} {own : String} {ret : Option FieldType} {D : Nat} {E : f_E} {S : f_S} {encR : ρ0 → Option Value} {post : ρ0 → f_Mem → Prop} {G : f_G} (hR : Rul cc own ret D E S encR post G) : r_if_lt cc own ret D E S encR post G := hR.2.2.2.2.2.2.2.2.2.2.2.2.2.2.2.2.2.2.2.2.2.2.2.2.2.2.2.2.2.2.2.2.2.2.2.2.2.1
theorem k_if_ge {ρ0 : Type} {cc : ByteArray} {own : String} {ret : Option FieldType} {D : Nat} {E : f_E} {S : f_S} {encR : ρ0 → Option Value} {post : ρ0 → f_Mem → Prop} {G : f_G} (hR : Rul cc own ret D E S encR post G) : r_if_ge cc own ret D E S encR post G := hR.2.2.2.2.2.2.2.2.2.2.2.2.2.2.2.2.2.2.2.2.2.2.2.2.2.2.2.2.2.2.2.2.2.2.2.2.2.2.1
theorem k_if_gt {ρ0 : Type} {cc : ByteArray} {own : String} {ret : Option FieldType} {D : Nat} {E : f_E} {S : f_S} {encR : ρ0 → Option Value} {post : ρ0 → f_Mem → Prop} {G : f_G} (hR : Rul cc own ret D E S encR post G) : r_if_gt cc own ret D E S encR post G := hR.2.2.2.2.2.2.2.2.2.2.2.2.2.2.2.2.2.2.2.2.2.2.2.2.2.2.2.2.2.2.2.2.2.2.2.2.2.2.2.1
theorem k_if_le {ρ0 : Type} {cc : ByteArray} {own : String} {ret : Option FieldType} {D : Nat} {E : f_E} {S : f_S} {encR : ρ0 → Option Value} {post : ρ0 → f_Mem → Prop} {G : f_G} (hR : Rul cc own ret D E S encR post G) : r_if_le cc own ret D E S encR post G := hR.2.2.2.2.2.2.2.2.2.2.2.2.2.2.2.2.2.2.2.2.2.2.2.2.2.2.2.2.2.2.2.2.2.2.2.2.2.2.2.2.1
theorem k_goto {ρ0 : Type} {cc : ByteArray} {own : String} {ret : Option FieldType} {D : Nat} {E : f_E} {S : f_S} {encR : ρ0 → Option Value} {post : ρ0 → f_Mem → Prop} {G : f_G} (hR : Rul cc own ret D E S encR post G) : r_goto cc own ret D E S encR post G := hR.2.2.2.2.2.2.2.2.2.2.2.2.2.2.2.2.2.2.2.2.2.2.2.2.2.2.2.2.2.2.2.2.2.2.2.2.2.2.2.2.2.1
theorem k_ifnull {ρ0 : Type} {cc : ByteArray} {own : String} {ret : Option FieldType} {D : Nat} {E : f_E} {S : f_S} {encR : ρ0 → Option Value} {post : ρ0 → f_Mem → Prop} {G : f_G} (hR : Rul cc own ret D E S encR post G) : r_ifnull cc own ret D E S encR post G := hR.2.2.2.2.2.2.2.2.2.2.2.2.2.2.2.2.2.2.2.2.2.2.2.2.2.2.2.2.2.2.2.2.2.2.2.2.2.2.2.2.2.2.1
theorem k_ifnullN {ρ0 : Type} {cc : ByteArray} {own : String} {ret : Option FieldType} {D : Nat} {E : f_E} {S : f_S} {encR : ρ0 → Option Value} {post : ρ0 → f_Mem → Prop} {G : f_G} (hR : Rul cc own ret D E S encR post G) : r_ifnullN cc own ret D E S encR post G := hR.2.2.2.2.2.2.2.2.2.2.2.2.2.2.2.2.2.2.2.2.2.2.2.2.2.2.2.2.2.2.2.2.2.2.2.2.2.2.2.2.2.2.2.1
theorem k_ifnonnull {ρ0 : Type} {cc : ByteArray} {own : String} {ret : Option FieldType} {D : Nat} {E : f_E} {S : f_S} {encR : ρ0 → Option Value} {post : ρ0 → f_Mem → Prop} {G : f_G} (hR : Rul cc own ret D E S encR post G) : r_ifnonnull cc own ret D E S encR post G := hR.2.2.2.2.2.2.2.2.2.2.2.2.2.2.2.2.2.2.2.2.2.2.2.2.2.2.2.2.2.2.2.2.2.2.2.2.2.2.2.2.2.2.2.2.1
theorem k_ifnonnullN {ρ0 : Type} {cc : ByteArray} {own : String} {ret : Option FieldType} {D : Nat} {E : f_E} {S : f_S} {encR : ρ0 → Option Value} {post : ρ0 → f_Mem → Prop} {G : f_G} (hR : Rul cc own ret D E S encR post G) : r_ifnonnullN cc own ret D E S encR post G := hR.2.2.2.2.2.2.2.2.2.2.2.2.2.2.2.2.2.2.2.2.2.2.2.2.2.2.2.2.2.2.2.2.2.2.2.2.2.2.2.2.2.2.2.2.2.1
theorem k_tblIn {ρ0 : Type} {cc : ByteArray} {own : String} {ret : Option FieldType} {D : Nat} {E : f_E} {S : f_S} {encR : ρ0 → Option Value} {post : ρ0 → f_Mem → Prop} {G : f_G} (hR : Rul cc own ret D E S encR post G) : r_tblIn cc own ret D E S encR post G := hR.2.2.2.2.2.2.2.2.2.2.2.2.2.2.2.2.2.2.2.2.2.2.2.2.2.2.2.2.2.2.2.2.2.2.2.2.2.2.2.2.2.2.2.2.2.2.1
theorem k_tblOut {ρ0 : Type} {cc : ByteArray} {own : String} {ret : Option FieldType} {D : Nat} {E : f_E} {S : f_S} {encR : ρ0 → Option Value} {post : ρ0 → f_Mem → Prop} {G : f_G} (hR : Rul cc own ret D E S encR post G) : r_tblOut cc own ret D E S encR post G := hR.2.2.2.2.2.2.2.2.2.2.2.2.2.2.2.2.2.2.2.2.2.2.2.2.2.2.2.2.2.2.2.2.2.2.2.2.2.2.2.2.2.2.2.2.2.2.2.1
theorem k_iload_n {ρ0 : Type} {cc : ByteArray} {own : String} {ret : Option FieldType} {D : Nat} {E : f_E} {S : f_S} {encR : ρ0 → Option Value} {post : ρ0 → f_Mem → Prop} {G : f_G} (hR : Rul cc own ret D E S encR post G) : r_iload_n cc own ret D E S encR post G := hR.2.2.2.2.2.2.2.2.2.2.2.2.2.2.2.2.2.2.2.2.2.2.2.2.2.2.2.2.2.2.2.2.2.2.2.2.2.2.2.2.2.2.2.2.2.2.2.2.1
theorem k_iload {ρ0 : Type} {cc : ByteArray} {own : String} {ret : Option FieldType} {D : Nat} {E : f_E} {S : f_S} {encR : ρ0 → Option Value} {post : ρ0 → f_Mem → Prop} {G : f_G} (hR : Rul cc own ret D E S encR post G) : r_iload cc own ret D E S encR post G := hR.2.2.2.2.2.2.2.2.2.2.2.2.2.2.2.2.2.2.2.2.2.2.2.2.2.2.2.2.2.2.2.2.2.2.2.2.2.2.2.2.2.2.2.2.2.2.2.2.2.1
theorem k_aload_n {ρ0 : Type} {cc : ByteArray} {own : String} {ret : Option FieldType} {D : Nat} {E : f_E} {S : f_S} {encR : ρ0 → Option Value} {post : ρ0 → f_Mem → Prop} {G : f_G} (hR : Rul cc own ret D E S encR post G) : r_aload_n cc own ret D E S encR post G := hR.2.2.2.2.2.2.2.2.2.2.2.2.2.2.2.2.2.2.2.2.2.2.2.2.2.2.2.2.2.2.2.2.2.2.2.2.2.2.2.2.2.2.2.2.2.2.2.2.2.2.1
theorem k_aload {ρ0 : Type} {cc : ByteArray} {own : String} {ret : Option FieldType} {D : Nat} {E : f_E} {S : f_S} {encR : ρ0 → Option Value} {post : ρ0 → f_Mem → Prop} {G : f_G} (hR : Rul cc own ret D E S encR post G) : r_aload cc own ret D E S encR post G := hR.2.2.2.2.2.2.2.2.2.2.2.2.2.2.2.2.2.2.2.2.2.2.2.2.2.2.2.2.2.2.2.2.2.2.2.2.2.2.2.2.2.2.2.2.2.2.2.2.2.2.2.1
theorem k_aloadN_n {ρ0 : Type} {cc : ByteArray} {own : String} {ret : Option FieldType} {D : Nat} {E : f_E} {S : f_S} {encR : ρ0 → Option Value} {post : ρ0 → f_Mem → Prop} {G : f_G} (hR : Rul cc own ret D E S encR post G) : r_aloadN_n cc own ret D E S encR post G := hR.2.2.2.2.2.2.2.2.2.2.2.2.2.2.2.2.2.2.2.2.2.2.2.2.2.2.2.2.2.2.2.2.2.2.2.2.2.2.2.2.2.2.2.2.2.2.2.2.2.2.2.2.1
theorem k_aloadN {ρ0 : Type} {cc : ByteArray} {own : String} {ret : Option FieldType} {D : Nat} {E : f_E} {S : f_S} {encR : ρ0 → Option Value} {post : ρ0 → f_Mem → Prop} {G : f_G} (hR : Rul cc own ret D E S encR post G) : r_aloadN cc own ret D E S encR post G := hR.2.2.2.2.2.2.2.2.2.2.2.2.2.2.2.2.2.2.2.2.2.2.2.2.2.2.2.2.2.2.2.2.2.2.2.2.2.2.2.2.2.2.2.2.2.2.2.2.2.2.2.2.2.1
theorem k_lload_n {ρ0 : Type} {cc : ByteArray} {own : String} {ret : Option FieldType} {D : Nat} {E : f_E} {S : f_S} {encR : ρ0 → Option Value} {post : ρ0 → f_Mem → Prop} {G : f_G} (hR : Rul cc own ret D E S encR post G) : r_lload_n cc own ret D E S encR post G := hR.2.2.2.2.2.2.2.2.2.2.2.2.2.2.2.2.2.2.2.2.2.2.2.2.2.2.2.2.2.2.2.2.2.2.2.2.2.2.2.2.2.2.2.2.2.2.2.2.2.2.2.2.2.2.1
theorem k_lload {ρ0 : Type} {cc : ByteArray} {own : String} {ret : Option FieldType} {D : Nat} {E : f_E} {S : f_S} {encR : ρ0 → Option Value} {post : ρ0 → f_Mem → Prop} {G : f_G} (hR : Rul cc own ret D E S encR post G) : r_lload cc own ret D E S encR post G := hR.2.2.2.2.2.2.2.2.2.2.2.2.2.2.2.2.2.2.2.2.2.2.2.2.2.2.2.2.2.2.2.2.2.2.2.2.2.2.2.2.2.2.2.2.2.2.2.2.2.2.2.2.2.2.2.1
theorem k_istore_n {ρ0 : Type} {cc : ByteArray} {own : String} {ret : Option FieldType} {D : Nat} {E : f_E} {S : f_S} {encR : ρ0 → Option Value} {post : ρ0 → f_Mem → Prop} {G : f_G} (hR : Rul cc own ret D E S encR post G) : r_istore_n cc own ret D E S encR post G := hR.2.2.2.2.2.2.2.2.2.2.2.2.2.2.2.2.2.2.2.2.2.2.2.2.2.2.2.2.2.2.2.2.2.2.2.2.2.2.2.2.2.2.2.2.2.2.2.2.2.2.2.2.2.2.2.2.1
theorem k_istore {ρ0 : Type} {cc : ByteArray} {own : String} {ret : Option FieldType} {D : Nat} {E : f_E} {S : f_S} {encR : ρ0 → Option Value} {post : ρ0 → f_Mem → Prop} {G : f_G} (hR : Rul cc own ret D E S encR post G) : r_istore cc own ret D E S encR post G := hR.2.2.2.2.2.2.2.2.2.2.2.2.2.2.2.2.2.2.2.2.2.2.2.2.2.2.2.2.2.2.2.2.2.2.2.2.2.2.2.2.2.2.2.2.2.2.2.2.2.2.2.2.2.2.2.2.2.1
theorem k_astore_n {ρ0 : Type} {cc : ByteArray} {own : String} {ret : Option FieldType} {D : Nat} {E : f_E} {S : f_S} {encR : ρ0 → Option Value} {post : ρ0 → f_Mem → Prop} {G : f_G} (hR : Rul cc own ret D E S encR post G) : r_astore_n cc own ret D E S encR post G := hR.2.2.2.2.2.2.2.2.2.2.2.2.2.2.2.2.2.2.2.2.2.2.2.2.2.2.2.2.2.2.2.2.2.2.2.2.2.2.2.2.2.2.2.2.2.2.2.2.2.2.2.2.2.2.2.2.2.2.1
theorem k_astore {ρ0 : Type} {cc : ByteArray} {own : String} {ret : Option FieldType} {D : Nat} {E : f_E} {S : f_S} {encR : ρ0 → Option Value} {post : ρ0 → f_Mem → Prop} {G : f_G} (hR : Rul cc own ret D E S encR post G) : r_astore cc own ret D E S encR post G := hR.2.2.2.2.2.2.2.2.2.2.2.2.2.2.2.2.2.2.2.2.2.2.2.2.2.2.2.2.2.2.2.2.2.2.2.2.2.2.2.2.2.2.2.2.2.2.2.2.2.2.2.2.2.2.2.2.2.2.2.1
theorem k_astoreN_n {ρ0 : Type} {cc : ByteArray} {own : String} {ret : Option FieldType} {D : Nat} {E : f_E} {S : f_S} {encR : ρ0 → Option Value} {post : ρ0 → f_Mem → Prop} {G : f_G} (hR : Rul cc own ret D E S encR post G) : r_astoreN_n cc own ret D E S encR post G := hR.2.2.2.2.2.2.2.2.2.2.2.2.2.2.2.2.2.2.2.2.2.2.2.2.2.2.2.2.2.2.2.2.2.2.2.2.2.2.2.2.2.2.2.2.2.2.2.2.2.2.2.2.2.2.2.2.2.2.2.2.1
theorem k_astoreN {ρ0 : Type} {cc : ByteArray} {own : String} {ret : Option FieldType} {D : Nat} {E : f_E} {S : f_S} {encR : ρ0 → Option Value} {post : ρ0 → f_Mem → Prop} {G : f_G} (hR : Rul cc own ret D E S encR post G) : r_astoreN cc own ret D E S encR post G := hR.2.2.2.2.2.2.2.2.2.2.2.2.2.2.2.2.2.2.2.2.2.2.2.2.2.2.2.2.2.2.2.2.2.2.2.2.2.2.2.2.2.2.2.2.2.2.2.2.2.2.2.2.2.2.2.2.2.2.2.2.2.1
theorem k_lstore_n {ρ0 : Type} {cc : ByteArray} {own : String} {ret : Option FieldType} {D : Nat} {E : f_E} {S : f_S} {encR : ρ0 → Option Value} {post : ρ0 → f_Mem → Prop} {G : f_G} (hR : Rul cc own ret D E S encR post G) : r_lstore_n cc own ret D E S encR post G := hR.2.2.2.2.2.2.2.2.2.2.2.2.2.2.2.2.2.2.2.2.2.2.2.2.2.2.2.2.2.2.2.2.2.2.2.2.2.2.2.2.2.2.2.2.2.2.2.2.2.2.2.2.2.2.2.2.2.2.2.2.2.2.1
theorem k_lstore {ρ0 : Type} {cc : ByteArray} {own : String} {ret : Option FieldType} {D : Nat} {E : f_E} {S : f_S} {encR : ρ0 → Option Value} {post : ρ0 → f_Mem → Prop} {G : f_G} (hR : Rul cc own ret D E S encR post G) : r_lstore cc own ret D E S encR post G := hR.2.2.2.2.2.2.2.2.2.2.2.2.2.2.2.2.2.2.2.2.2.2.2.2.2.2.2.2.2.2.2.2.2.2.2.2.2.2.2.2.2.2.2.2.2.2.2.2.2.2.2.2.2.2.2.2.2.2.2.2.2.2.2.1
theorem k_iinc {ρ0 : Type} {cc : ByteArray} {own : String} {ret : Option FieldType} {D : Nat} {E : f_E} {S : f_S} {encR : ρ0 → Option Value} {post : ρ0 → f_Mem → Prop} {G : f_G} (hR : Rul cc own ret D E S encR post G) : r_iinc cc own ret D E S encR post G := hR.2.2.2.2.2.2.2.2.2.2.2.2.2.2.2.2.2.2.2.2.2.2.2.2.2.2.2.2.2.2.2.2.2.2.2.2.2.2.2.2.2.2.2.2.2.2.2.2.2.2.2.2.2.2.2.2.2.2.2.2.2.2.2.2.1
theorem k_getI {ρ0 : Type} {cc : ByteArray} {own : String} {ret : Option FieldType} {D : Nat} {E : f_E} {S : f_S} {encR : ρ0 → Option Value} {post : ρ0 → f_Mem → Prop} {G : f_G} (hR : Rul cc own ret D E S encR post G) : r_getI cc own ret D E S encR post G := hR.2.2.2.2.2.2.2.2.2.2.2.2.2.2.2.2.2.2.2.2.2.2.2.2.2.2.2.2.2.2.2.2.2.2.2.2.2.2.2.2.2.2.2.2.2.2.2.2.2.2.2.2.2.2.2.2.2.2.2.2.2.2.2.2.2.1
theorem k_getR {ρ0 : Type} {cc : ByteArray} {own : String} {ret : Option FieldType} {D : Nat} {E : f_E} {S : f_S} {encR : ρ0 → Option Value} {post : ρ0 → f_Mem → Prop} {G : f_G} (hR : Rul cc own ret D E S encR post G) : r_getR cc own ret D E S encR post G := hR.2.2.2.2.2.2.2.2.2.2.2.2.2.2.2.2.2.2.2.2.2.2.2.2.2.2.2.2.2.2.2.2.2.2.2.2.2.2.2.2.2.2.2.2.2.2.2.2.2.2.2.2.2.2.2.2.2.2.2.2.2.2.2.2.2.2.1
theorem k_getN {ρ0 : Type} {cc : ByteArray} {own : String} {ret : Option FieldType} {D : Nat} {E : f_E} {S : f_S} {encR : ρ0 → Option Value} {post : ρ0 → f_Mem → Prop} {G : f_G} (hR : Rul cc own ret D E S encR post G) : r_getN cc own ret D E S encR post G := hR.2.2.2.2.2.2.2.2.2.2.2.2.2.2.2.2.2.2.2.2.2.2.2.2.2.2.2.2.2.2.2.2.2.2.2.2.2.2.2.2.2.2.2.2.2.2.2.2.2.2.2.2.2.2.2.2.2.2.2.2.2.2.2.2.2.2.2.1
theorem k_put {ρ0 : Type} {cc : ByteArray} {own : String} {ret : Option FieldType} {D : Nat} {E : f_E} {S : f_S} {encR : ρ0 → Option Value} {post : ρ0 → f_Mem → Prop} {G : f_G} (hR : Rul cc own ret D E S encR post G) : r_put cc own ret D E S encR post G := hR.2.2.2.2.2.2.2.2.2.2.2.2.2.2.2.2.2.2.2.2.2.2.2.2.2.2.2.2.2.2.2.2.2.2.2.2.2.2.2.2.2.2.2.2.2.2.2.2.2.2.2.2.2.2.2.2.2.2.2.2.2.2.2.2.2.2.2.2.1
theorem k_ald {ρ0 : Type} {cc : ByteArray} {own : String} {ret : Option FieldType} {D : Nat} {E : f_E} {S : f_S} {encR : ρ0 → Option Value} {post : ρ0 → f_Mem → Prop} {G : f_G} (hR : Rul cc own ret D E S encR post G) : r_ald cc own ret D E S encR post G := hR.2.2.2.2.2.2.2.2.2.2.2.2.2.2.2.2.2.2.2.2.2.2.2.2.2.2.2.2.2.2.2.2.2.2.2.2.2.2.2.2.2.2.2.2.2.2.2.2.2.2.2.2.2.2.2.2.2.2.2.2.2.2.2.2.2.2.2.2.2.1
theorem k_ast {ρ0 : Type} {cc : ByteArray} {own : String} {ret : Option FieldType} {D : Nat} {E : f_E} {S : f_S} {encR : ρ0 → Option Value} {post : ρ0 → f_Mem → Prop} {G : f_G} (hR : Rul cc own ret D E S encR post G) : r_ast cc own ret D E S encR post G := hR.2.2.2.2.2.2.2.2.2.2.2.2.2.2.2.2.2.2.2.2.2.2.2.2.2.2.2.2.2.2.2.2.2.2.2.2.2.2.2.2.2.2.2.2.2.2.2.2.2.2.2.2.2.2.2.2.2.2.2.2.2.2.2.2.2.2.2.2.2.2.1
theorem k_alenI {ρ0 : Type} {cc : ByteArray} {own : String} {ret : Option FieldType} {D : Nat} {E : f_E} {S : f_S} {encR : ρ0 → Option Value} {post : ρ0 → f_Mem → Prop} {G : f_G} (hR : Rul cc own ret D E S encR post G) : r_alenI cc own ret D E S encR post G := hR.2.2.2.2.2.2.2.2.2.2.2.2.2.2.2.2.2.2.2.2.2.2.2.2.2.2.2.2.2.2.2.2.2.2.2.2.2.2.2.2.2.2.2.2.2.2.2.2.2.2.2.2.2.2.2.2.2.2.2.2.2.2.2.2.2.2.2.2.2.2.2.1
theorem k_alenQ {ρ0 : Type} {cc : ByteArray} {own : String} {ret : Option FieldType} {D : Nat} {E : f_E} {S : f_S} {encR : ρ0 → Option Value} {post : ρ0 → f_Mem → Prop} {G : f_G} (hR : Rul cc own ret D E S encR post G) : r_alenQ cc own ret D E S encR post G := hR.2.2.2.2.2.2.2.2.2.2.2.2.2.2.2.2.2.2.2.2.2.2.2.2.2.2.2.2.2.2.2.2.2.2.2.2.2.2.2.2.2.2.2.2.2.2.2.2.2.2.2.2.2.2.2.2.2.2.2.2.2.2.2.2.2.2.2.2.2.2.2.2.1
theorem k_aldQ {ρ0 : Type} {cc : ByteArray} {own : String} {ret : Option FieldType} {D : Nat} {E : f_E} {S : f_S} {encR : ρ0 → Option Value} {post : ρ0 → f_Mem → Prop} {G : f_G} (hR : Rul cc own ret D E S encR post G) : r_aldQ cc own ret D E S encR post G := hR.2.2.2.2.2.2.2.2.2.2.2.2.2.2.2.2.2.2.2.2.2.2.2.2.2.2.2.2.2.2.2.2.2.2.2.2.2.2.2.2.2.2.2.2.2.2.2.2.2.2.2.2.2.2.2.2.2.2.2.2.2.2.2.2.2.2.2.2.2.2.2.2.2.1
theorem k_astQ {ρ0 : Type} {cc : ByteArray} {own : String} {ret : Option FieldType} {D : Nat} {E : f_E} {S : f_S} {encR : ρ0 → Option Value} {post : ρ0 → f_Mem → Prop} {G : f_G} (hR : Rul cc own ret D E S encR post G) : r_astQ cc own ret D E S encR post G := hR.2.2.2.2.2.2.2.2.2.2.2.2.2.2.2.2.2.2.2.2.2.2.2.2.2.2.2.2.2.2.2.2.2.2.2.2.2.2.2.2.2.2.2.2.2.2.2.2.2.2.2.2.2.2.2.2.2.2.2.2.2.2.2.2.2.2.2.2.2.2.2.2.2.2.1
theorem k_max {ρ0 : Type} {cc : ByteArray} {own : String} {ret : Option FieldType} {D : Nat} {E : f_E} {S : f_S} {encR : ρ0 → Option Value} {post : ρ0 → f_Mem → Prop} {G : f_G} (hR : Rul cc own ret D E S encR post G) : r_max cc own ret D E S encR post G := hR.2.2.2.2.2.2.2.2.2.2.2.2.2.2.2.2.2.2.2.2.2.2.2.2.2.2.2.2.2.2.2.2.2.2.2.2.2.2.2.2.2.2.2.2.2.2.2.2.2.2.2.2.2.2.2.2.2.2.2.2.2.2.2.2.2.2.2.2.2.2.2.2.2.2.2.1
theorem k_min {ρ0 : Type} {cc : ByteArray} {own : String} {ret : Option FieldType} {D : Nat} {E : f_E} {S : f_S} {encR : ρ0 → Option Value} {post : ρ0 → f_Mem → Prop} {G : f_G} (hR : Rul cc own ret D E S encR post G) : r_min cc own ret D E S encR post G := hR.2.2.2.2.2.2.2.2.2.2.2.2.2.2.2.2.2.2.2.2.2.2.2.2.2.2.2.2.2.2.2.2.2.2.2.2.2.2.2.2.2.2.2.2.2.2.2.2.2.2.2.2.2.2.2.2.2.2.2.2.2.2.2.2.2.2.2.2.2.2.2.2.2.2.2.2.1
theorem k_copy {ρ0 : Type} {cc : ByteArray} {own : String} {ret : Option FieldType} {D : Nat} {E : f_E} {S : f_S} {encR : ρ0 → Option Value} {post : ρ0 → f_Mem → Prop} {G : f_G} (hR : Rul cc own ret D E S encR post G) : r_copy cc own ret D E S encR post G := hR.2.2.2.2.2.2.2.2.2.2.2.2.2.2.2.2.2.2.2.2.2.2.2.2.2.2.2.2.2.2.2.2.2.2.2.2.2.2.2.2.2.2.2.2.2.2.2.2.2.2.2.2.2.2.2.2.2.2.2.2.2.2.2.2.2.2.2.2.2.2.2.2.2.2.2.2.2.1
theorem k_callV {ρ0 : Type} {cc : ByteArray} {own : String} {ret : Option FieldType} {D : Nat} {E : f_E} {S : f_S} {encR : ρ0 → Option Value} {post : ρ0 → f_Mem → Prop} {G : f_G} (hR : Rul cc own ret D E S encR post G) : r_callV cc own ret D E S encR post G := hR.2.2.2.2.2.2.2.2.2.2.2.2.2.2.2.2.2.2.2.2.2.2.2.2.2.2.2.2.2.2.2.2.2.2.2.2.2.2.2.2.2.2.2.2.2.2.2.2.2.2.2.2.2.2.2.2.2.2.2.2.2.2.2.2.2.2.2.2.2.2.2.2.2.2.2.2.2.2.1
theorem k_callS {ρ0 : Type} {cc : ByteArray} {own : String} {ret : Option FieldType} {D : Nat} {E : f_E} {S : f_S} {encR : ρ0 → Option Value} {post : ρ0 → f_Mem → Prop} {G : f_G} (hR : Rul cc own ret D E S encR post G) : r_callS cc own ret D E S encR post G := hR.2.2.2.2.2.2.2.2.2.2.2.2.2.2.2.2.2.2.2.2.2.2.2.2.2.2.2.2.2.2.2.2.2.2.2.2.2.2.2.2.2.2.2.2.2.2.2.2.2.2.2.2.2.2.2.2.2.2.2.2.2.2.2.2.2.2.2.2.2.2.2.2.2.2.2.2.2.2.2.1
theorem k_iret {ρ0 : Type} {cc : ByteArray} {own : String} {ret : Option FieldType} {D : Nat} {E : f_E} {S : f_S} {encR : ρ0 → Option Value} {post : ρ0 → f_Mem → Prop} {G : f_G} (hR : Rul cc own ret D E S encR post G) : r_iret cc own ret D E S encR post G := hR.2.2.2.2.2.2.2.2.2.2.2.2.2.2.2.2.2.2.2.2.2.2.2.2.2.2.2.2.2.2.2.2.2.2.2.2.2.2.2.2.2.2.2.2.2.2.2.2.2.2.2.2.2.2.2.2.2.2.2.2.2.2.2.2.2.2.2.2.2.2.2.2.2.2.2.2.2.2.2.2.1
theorem k_vret {ρ0 : Type} {cc : ByteArray} {own : String} {ret : Option FieldType} {D : Nat} {E : f_E} {S : f_S} {encR : ρ0 → Option Value} {post : ρ0 → f_Mem → Prop} {G : f_G} (hR : Rul cc own ret D E S encR post G) : r_vret cc own ret D E S encR post G := hR.2.2.2.2.2.2.2.2.2.2.2.2.2.2.2.2.2.2.2.2.2.2.2.2.2.2.2.2.2.2.2.2.2.2.2.2.2.2.2.2.2.2.2.2.2.2.2.2.2.2.2.2.2.2.2.2.2.2.2.2.2.2.2.2.2.2.2.2.2.2.2.2.2.2.2.2.2.2.2.2.2.1
theorem k_lret {ρ0 : Type} {cc : ByteArray} {own : String} {ret : Option FieldType} {D : Nat} {E : f_E} {S : f_S} {encR : ρ0 → Option Value} {post : ρ0 → f_Mem → Prop} {G : f_G} (hR : Rul cc own ret D E S encR post G) : r_lret cc own ret D E S encR post G := hR.2.2.2.2.2.2.2.2.2.2.2.2.2.2.2.2.2.2.2.2.2.2.2.2.2.2.2.2.2.2.2.2.2.2.2.2.2.2.2.2.2.2.2.2.2.2.2.2.2.2.2.2.2.2.2.2.2.2.2.2.2.2.2.2.2.2.2.2.2.2.2.2.2.2.2.2.2.2.2.2.2.2.1
theorem k_aret {ρ0 : Type} {cc : ByteArray} {own : String} {ret : Option FieldType} {D : Nat} {E : f_E} {S : f_S} {encR : ρ0 → Option Value} {post : ρ0 → f_Mem → Prop} {G : f_G} (hR : Rul cc own ret D E S encR post G) : r_aret cc own ret D E S encR post G := hR.2.2.2.2.2.2.2.2.2.2.2.2.2.2.2.2.2.2.2.2.2.2.2.2.2.2.2.2.2.2.2.2.2.2.2.2.2.2.2.2.2.2.2.2.2.2.2.2.2.2.2.2.2.2.2.2.2.2.2.2.2.2.2.2.2.2.2.2.2.2.2.2.2.2.2.2.2.2.2.2.2.2.2

theorem tb_max1 : Cond.static Lib.Math.max.name ∈ tb := tb_in (List.mem_of_getElem? (i := 78) (by decide +kernel)) (by decide +kernel)
theorem tb_max2 : Cond.code Lib.Math.max.name Lib.Math.max.code 2 (some .int) ∈ tb := tb_in (List.mem_of_getElem? (i := 79) (by decide +kernel)) (by decide +kernel)
theorem tb_min1 : Cond.static Lib.Math.min.name ∈ tb := tb_in (List.mem_of_getElem? (i := 402) (by decide +kernel)) (by decide +kernel)
theorem tb_min2 : Cond.code Lib.Math.min.name Lib.Math.min.code 2 (some .int) ∈ tb := tb_in (List.mem_of_getElem? (i := 403) (by decide +kernel)) (by decide +kernel)
theorem tb_math : Cond.initialized "java/lang/Math" ∈ tb := tb_in (List.mem_of_getElem? (i := 49) (by decide +kernel)) (by decide +kernel)
theorem tb_copy1 : Cond.native arraycopyName ∈ tb := tb_in (List.mem_of_getElem? (i := 406) (by decide +kernel)) (by decide +kernel)
theorem tb_copy2 : Cond.static arraycopyName ∈ tb := tb_in (List.mem_of_getElem? (i := 405) (by decide +kernel)) (by decide +kernel)
theorem tb_sys : Cond.initialized "java/lang/System" ∈ tb := tb_in (List.mem_of_getElem? (i := 60) (by decide +kernel)) (by decide +kernel)
section FLAT
variable {p : Program} {l : Launch} {e : Env} {s : State} {m : MethodId} {args : Array Value} {below : List Frame} {meth : Method} {c : Code} {Q : State → Prop} {A : Nat → Prop} {E : f_E} {S : f_S} {nL : Nat} {cc : ByteArray} {own : String} {D : Nat}
def f_GG (p : Program) (e : Env) (D : Nat) (s : State) (m : MethodId) (args : Array Value) (below : List Frame) (meth : Method) (c : Code) (Q : State → Prop) (A : Nat → Prop) (E : f_E) (S : f_S) (nL : Nat) : f_G := fun pc L st σ => ∀ (H : Heap) (locs : List Loc) (ls : Array Slot), f_P E S σ H → va_S A s.heap H locs → f_ls ls nL L → W p E.1 e (f_rm D) s m args below meth c H locs 0 0 Q (F0 m pc ls st)
/-- behind a call: whatever it answers -/
theorem f_call {ρ : Type} {R : Room} {H : Heap} {locs : List Loc} {H0 : Heap} {pc : Nat} {ls : Array Slot} {rest st0 : List Value} {a : Array Value} {A0 A1 : Nat → Prop} {free : Addr → Prop} {enc : ρ → Option Value} {post : ρ → f_Mem → Prop} (hr : va_Run p l e R s m args below meth c H locs 0 0 0 0 (F0 m pc ls st0) rest (f_Q E S enc post A1 a) free) (hS : va_S A0 H0 H locs) (hA : ∀ q, q < H.size → A1 q → A0 q) (hf : ∀ q, free q → A0 q)
    (kk : ∀ (r : ρ) (u : f_Mem) (H1 : Heap) (locs1 : List Loc), post r u → f_P E S u H1 → va_S A0 H0 H1 locs1 → W p l e R s m args below meth c H1 locs1 0 0 Q (F0 m (pc + 3) ls ((enc r).toList ++ rest))) : W p l e R s m args below meth c H locs 0 0 Q (F0 m pc ls st0) := by
  intro T hT X
  obtain ⟨v, st₀, t, T', L, h0, X', hL, e1, e2, ⟨⟨r, u, hv, hp, hb, hk9⟩, hz, hk⟩, st⟩ := hr T hT X
  cases hv
  rw [h0] at hz hk
  obtain ⟨t2, a1, b1⟩ := kk r u T'.heap (locs ++ L) hp (by rw [e1]; exact hb)
    ⟨Nat.le_trans hS.1 (by rw [e1]; exact hz), fun q h1 h2 => by rw [e1, hk q (Nat.lt_of_lt_of_le h1 hS.1) (fun z => h2 (hA q (Nat.lt_of_lt_of_le h1 hS.1) z))]; exact hS.2.1 q h1 h2, fun q hq => by
      rcases List.mem_append.mp hq with h | h
      · exact hS.2.2 q h
      · exact hf _ (hL q h)⟩ T' rfl X'
  exact ⟨t2, st t2 a1, b1⟩

theorem f_FB {E : f_E} {S : f_S} {av : List Value} {σ : f_Mem} {sz : Nat} : FrameBlind (f_Pc E S av σ sz) := fun a U g mk q => by obtain ⟨q0, q1, q2, q3, q4⟩ := q; exact ⟨q0, q1, q2, va_K.moved (u := U) (U := U.calling g mk a) (Vm.Alike.refl U.vm) q3, q4⟩
theorem f_pay {own : String} {index : Nat} {Y : f_Y} {n d : Nat} (hts : ∀ w ∈ tb, w.before args s = true) (hc : f_LC Y) (hh : f_hd Y n) (hd : d + 1 ≤ D) (hl : (Cond.methodLink own index Y.1).before args s = true) : CallB (f_rm D) s args own index Y.1 Y.2.1 Y.2.2.1 Y.2.2.2 (Cond.code Y.1 Y.2.1 Y.2.2.1 Y.2.2.2 :: tb) (f_rm d) 0 0 n := by
  refine callB_of (Ts := tb) n hts (fun w hw => ?_) rfl rfl rfl (hts _ hc.2) hl hh.1 ⟨hd, ?_⟩
  · rcases List.mem_cons.mp hw with h | h
    · subst h; exact ⟨hc.1, tb_good _ hc.1⟩
    · exact ⟨h, tb_good _ h⟩
  · have := hh.2
    show 8 + (Y.2.2.1 + 11) + 60 * d ≤ 60 * D
    omega
theorem f_payN {own host : String} {index : Nat} {Y : f_Y} {n d : Nat} (hts : ∀ w ∈ tb, w.before args s = true) (hc : f_LC Y) (hh : f_hd Y n) (hd : d + 1 ≤ D) (hl : va_Nw (.methodLinkNest own index Y.1 host) s) : va_CN (f_rm D) s args own index Y.1 host Y.2.1 Y.2.2.1 Y.2.2.2 (Cond.code Y.1 Y.2.1 Y.2.2.1 Y.2.2.2 :: tb) (f_rm d) 0 0 n := by
  refine va_cnB (Ts := tb) n hts (fun w hw => ?_) rfl rfl rfl hl (hts _ hc.2) hh.1 ⟨hd, ?_⟩
  · rcases List.mem_cons.mp hw with h | h
    · subst h; exact ⟨hc.1, tb_good _ hc.1⟩
    · exact ⟨h, tb_good _ h⟩
  · have := hh.2
    show 8 + (Y.2.2.1 + 11) + 60 * d ≤ 60 * D
    omega
theorem s_iadd {ρ0 : Type} {ret : Option FieldType} {encR : ρ0 → Option Value} {post : ρ0 → f_Mem → Prop} (hx : p.tables.exec = Jvm.exec) (hb : c.code = cc) (hml : c.maxLocals = nL) (hown : s.vm.findClass own = some m.cls) (hts : ∀ w ∈ tb, w.before args s = true) (hK : f_K E s) (hI : f_I E S) (hA : ∀ k, k < S.1 → A (f_ad E k)) (hA2 : ∀ q, s.heap.size ≤ q → A q) : r_iadd cc own ret D E S encR post (f_GG p e D s m args below meth c Q A E S nL) := by
  intro pc L st σ x y hd k H locs ls hP hS hl
  exact lv_iadd hx hb hd (k H locs ls hP hS hl)
theorem s_isub {ρ0 : Type} {ret : Option FieldType} {encR : ρ0 → Option Value} {post : ρ0 → f_Mem → Prop} (hx : p.tables.exec = Jvm.exec) (hb : c.code = cc) (hml : c.maxLocals = nL) (hown : s.vm.findClass own = some m.cls) (hts : ∀ w ∈ tb, w.before args s = true) (hK : f_K E s) (hI : f_I E S) (hA : ∀ k, k < S.1 → A (f_ad E k)) (hA2 : ∀ q, s.heap.size ≤ q → A q) : r_isub cc own ret D E S encR post (f_GG p e D s m args below meth c Q A E S nL) := by
  intro pc L st σ x y hd k H locs ls hP hS hl
  exact lv_isub hx hb hd (k H locs ls hP hS hl)
theorem s_imul {ρ0 : Type} {ret : Option FieldType} {encR : ρ0 → Option Value} {post : ρ0 → f_Mem → Prop} (hx : p.tables.exec = Jvm.exec) (hb : c.code = cc) (hml : c.maxLocals = nL) (hown : s.vm.findClass own = some m.cls) (hts : ∀ w ∈ tb, w.before args s = true) (hK : f_K E s) (hI : f_I E S) (hA : ∀ k, k < S.1 → A (f_ad E k)) (hA2 : ∀ q, s.heap.size ≤ q → A q) : r_imul cc own ret D E S encR post (f_GG p e D s m args below meth c Q A E S nL) := by
  intro pc L st σ x y hd k H locs ls hP hS hl
  exact lv_imul hx hb hd (k H locs ls hP hS hl)
theorem s_idiv {ρ0 : Type} {ret : Option FieldType} {encR : ρ0 → Option Value} {post : ρ0 → f_Mem → Prop} (hx : p.tables.exec = Jvm.exec) (hb : c.code = cc) (hml : c.maxLocals = nL) (hown : s.vm.findClass own = some m.cls) (hts : ∀ w ∈ tb, w.before args s = true) (hK : f_K E s) (hI : f_I E S) (hA : ∀ k, k < S.1 → A (f_ad E k)) (hA2 : ∀ q, s.heap.size ≤ q → A q) : r_idiv cc own ret D E S encR post (f_GG p e D s m args below meth c Q A E S nL) := by
  intro pc L st σ x y hd h0 k H locs ls hP hS hl
  exact lv_idiv hx hb hd h0 (k H locs ls hP hS hl)
theorem s_irem {ρ0 : Type} {ret : Option FieldType} {encR : ρ0 → Option Value} {post : ρ0 → f_Mem → Prop} (hx : p.tables.exec = Jvm.exec) (hb : c.code = cc) (hml : c.maxLocals = nL) (hown : s.vm.findClass own = some m.cls) (hts : ∀ w ∈ tb, w.before args s = true) (hK : f_K E s) (hI : f_I E S) (hA : ∀ k, k < S.1 → A (f_ad E k)) (hA2 : ∀ q, s.heap.size ≤ q → A q) : r_irem cc own ret D E S encR post (f_GG p e D s m args below meth c Q A E S nL) := by
  intro pc L st σ x y hd h0 k H locs ls hP hS hl
  exact lv_irem hx hb hd h0 (k H locs ls hP hS hl)
theorem s_iand {ρ0 : Type} {ret : Option FieldType} {encR : ρ0 → Option Value} {post : ρ0 → f_Mem → Prop} (hx : p.tables.exec = Jvm.exec) (hb : c.code = cc) (hml : c.maxLocals = nL) (hown : s.vm.findClass own = some m.cls) (hts : ∀ w ∈ tb, w.before args s = true) (hK : f_K E s) (hI : f_I E S) (hA : ∀ k, k < S.1 → A (f_ad E k)) (hA2 : ∀ q, s.heap.size ≤ q → A q) : r_iand cc own ret D E S encR post (f_GG p e D s m args below meth c Q A E S nL) := by
  intro pc L st σ x y hd k H locs ls hP hS hl
  exact lv_iand hx hb hd (k H locs ls hP hS hl)
theorem s_ior {ρ0 : Type} {ret : Option FieldType} {encR : ρ0 → Option Value} {post : ρ0 → f_Mem → Prop} (hx : p.tables.exec = Jvm.exec) (hb : c.code = cc) (hml : c.maxLocals = nL) (hown : s.vm.findClass own = some m.cls) (hts : ∀ w ∈ tb, w.before args s = true) (hK : f_K E s) (hI : f_I E S) (hA : ∀ k, k < S.1 → A (f_ad E k)) (hA2 : ∀ q, s.heap.size ≤ q → A q) : r_ior cc own ret D E S encR post (f_GG p e D s m args below meth c Q A E S nL) := by
  intro pc L st σ x y hd k H locs ls hP hS hl
  exact lv_ior hx hb hd (k H locs ls hP hS hl)
theorem s_ixor {ρ0 : Type} {ret : Option FieldType} {encR : ρ0 → Option Value} {post : ρ0 → f_Mem → Prop} (hx : p.tables.exec = Jvm.exec) (hb : c.code = cc) (hml : c.maxLocals = nL) (hown : s.vm.findClass own = some m.cls) (hts : ∀ w ∈ tb, w.before args s = true) (hK : f_K E s) (hI : f_I E S) (hA : ∀ k, k < S.1 → A (f_ad E k)) (hA2 : ∀ q, s.heap.size ≤ q → A q) : r_ixor cc own ret D E S encR post (f_GG p e D s m args below meth c Q A E S nL) := by
  intro pc L st σ x y hd k H locs ls hP hS hl
  exact lv_ixor hx hb hd (k H locs ls hP hS hl)
theorem s_ishl {ρ0 : Type} {ret : Option FieldType} {encR : ρ0 → Option Value} {post : ρ0 → f_Mem → Prop} (hx : p.tables.exec = Jvm.exec) (hb : c.code = cc) (hml : c.maxLocals = nL) (hown : s.vm.findClass own = some m.cls) (hts : ∀ w ∈ tb, w.before args s = true) (hK : f_K E s) (hI : f_I E S) (hA : ∀ k, k < S.1 → A (f_ad E k)) (hA2 : ∀ q, s.heap.size ≤ q → A q) : r_ishl cc own ret D E S encR post (f_GG p e D s m args below meth c Q A E S nL) := by
  intro pc L st σ x y hd k H locs ls hP hS hl
  exact lv_ishl hx hb hd (k H locs ls hP hS hl)
theorem s_ishr {ρ0 : Type} {ret : Option FieldType} {encR : ρ0 → Option Value} {post : ρ0 → f_Mem → Prop} (hx : p.tables.exec = Jvm.exec) (hb : c.code = cc) (hml : c.maxLocals = nL) (hown : s.vm.findClass own = some m.cls) (hts : ∀ w ∈ tb, w.before args s = true) (hK : f_K E s) (hI : f_I E S) (hA : ∀ k, k < S.1 → A (f_ad E k)) (hA2 : ∀ q, s.heap.size ≤ q → A q) : r_ishr cc own ret D E S encR post (f_GG p e D s m args below meth c Q A E S nL) := by
  intro pc L st σ x y hd k H locs ls hP hS hl
  exact lv_ishr hx hb hd (k H locs ls hP hS hl)
theorem s_iushr {ρ0 : Type} {ret : Option FieldType} {encR : ρ0 → Option Value} {post : ρ0 → f_Mem → Prop} (hx : p.tables.exec = Jvm.exec) (hb : c.code = cc) (hml : c.maxLocals = nL) (hown : s.vm.findClass own = some m.cls) (hts : ∀ w ∈ tb, w.before args s = true) (hK : f_K E s) (hI : f_I E S) (hA : ∀ k, k < S.1 → A (f_ad E k)) (hA2 : ∀ q, s.heap.size ≤ q → A q) : r_iushr cc own ret D E S encR post (f_GG p e D s m args below meth c Q A E S nL) := by
  intro pc L st σ x y v hd h0 k H locs ls hP hS hl
  exact lv_iushr hx hb hd h0 (k H locs ls hP hS hl)
theorem s_ladd {ρ0 : Type} {ret : Option FieldType} {encR : ρ0 → Option Value} {post : ρ0 → f_Mem → Prop} (hx : p.tables.exec = Jvm.exec) (hb : c.code = cc) (hml : c.maxLocals = nL) (hown : s.vm.findClass own = some m.cls) (hts : ∀ w ∈ tb, w.before args s = true) (hK : f_K E s) (hI : f_I E S) (hA : ∀ k, k < S.1 → A (f_ad E k)) (hA2 : ∀ q, s.heap.size ≤ q → A q) : r_ladd cc own ret D E S encR post (f_GG p e D s m args below meth c Q A E S nL) := by
  intro pc L st σ x y hd k H locs ls hP hS hl
  exact lv_ladd hx hb hd (k H locs ls hP hS hl)
theorem s_lmul {ρ0 : Type} {ret : Option FieldType} {encR : ρ0 → Option Value} {post : ρ0 → f_Mem → Prop} (hx : p.tables.exec = Jvm.exec) (hb : c.code = cc) (hml : c.maxLocals = nL) (hown : s.vm.findClass own = some m.cls) (hts : ∀ w ∈ tb, w.before args s = true) (hK : f_K E s) (hI : f_I E S) (hA : ∀ k, k < S.1 → A (f_ad E k)) (hA2 : ∀ q, s.heap.size ≤ q → A q) : r_lmul cc own ret D E S encR post (f_GG p e D s m args below meth c Q A E S nL) := by
  intro pc L st σ x y hd k H locs ls hP hS hl
  exact lv_lmul hx hb hd (k H locs ls hP hS hl)
theorem s_ldiv {ρ0 : Type} {ret : Option FieldType} {encR : ρ0 → Option Value} {post : ρ0 → f_Mem → Prop} (hx : p.tables.exec = Jvm.exec) (hb : c.code = cc) (hml : c.maxLocals = nL) (hown : s.vm.findClass own = some m.cls) (hts : ∀ w ∈ tb, w.before args s = true) (hK : f_K E s) (hI : f_I E S) (hA : ∀ k, k < S.1 → A (f_ad E k)) (hA2 : ∀ q, s.heap.size ≤ q → A q) : r_ldiv cc own ret D E S encR post (f_GG p e D s m args below meth c Q A E S nL) := by
  intro pc L st σ x y hd h0 k H locs ls hP hS hl
  exact lv_ldiv hx hb hd h0 (k H locs ls hP hS hl)
theorem s_lrem {ρ0 : Type} {ret : Option FieldType} {encR : ρ0 → Option Value} {post : ρ0 → f_Mem → Prop} (hx : p.tables.exec = Jvm.exec) (hb : c.code = cc) (hml : c.maxLocals = nL) (hown : s.vm.findClass own = some m.cls) (hts : ∀ w ∈ tb, w.before args s = true) (hK : f_K E s) (hI : f_I E S) (hA : ∀ k, k < S.1 → A (f_ad E k)) (hA2 : ∀ q, s.heap.size ≤ q → A q) : r_lrem cc own ret D E S encR post (f_GG p e D s m args below meth c Q A E S nL) := by
  intro pc L st σ x y hd h0 k H locs ls hP hS hl
  exact lv_lrem hx hb hd h0 (k H locs ls hP hS hl)
theorem s_i2l {ρ0 : Type} {ret : Option FieldType} {encR : ρ0 → Option Value} {post : ρ0 → f_Mem → Prop} (hx : p.tables.exec = Jvm.exec) (hb : c.code = cc) (hml : c.maxLocals = nL) (hown : s.vm.findClass own = some m.cls) (hts : ∀ w ∈ tb, w.before args s = true) (hK : f_K E s) (hI : f_I E S) (hA : ∀ k, k < S.1 → A (f_ad E k)) (hA2 : ∀ q, s.heap.size ≤ q → A q) : r_i2l cc own ret D E S encR post (f_GG p e D s m args below meth c Q A E S nL) := by
  intro pc L st σ x hd k H locs ls hP hS hl
  exact lv_i2l hx hb hd rfl (k H locs ls hP hS hl)
theorem s_l2i {ρ0 : Type} {ret : Option FieldType} {encR : ρ0 → Option Value} {post : ρ0 → f_Mem → Prop} (hx : p.tables.exec = Jvm.exec) (hb : c.code = cc) (hml : c.maxLocals = nL) (hown : s.vm.findClass own = some m.cls) (hts : ∀ w ∈ tb, w.before args s = true) (hK : f_K E s) (hI : f_I E S) (hA : ∀ k, k < S.1 → A (f_ad E k)) (hA2 : ∀ q, s.heap.size ≤ q → A q) : r_l2i cc own ret D E S encR post (f_GG p e D s m args below meth c Q A E S nL) := by
  intro pc L st σ x hd k H locs ls hP hS hl
  exact lv_l2i hx hb hd rfl (k H locs ls hP hS hl)
theorem s_lcmp {ρ0 : Type} {ret : Option FieldType} {encR : ρ0 → Option Value} {post : ρ0 → f_Mem → Prop} (hx : p.tables.exec = Jvm.exec) (hb : c.code = cc) (hml : c.maxLocals = nL) (hown : s.vm.findClass own = some m.cls) (hts : ∀ w ∈ tb, w.before args s = true) (hK : f_K E s) (hI : f_I E S) (hA : ∀ k, k < S.1 → A (f_ad E k)) (hA2 : ∀ q, s.heap.size ≤ q → A q) : r_lcmp cc own ret D E S encR post (f_GG p e D s m args below meth c Q A E S nL) := by
  intro pc L st σ x y hd k H locs ls hP hS hl
  exact W.lcmp hx hb hd (k H locs ls hP hS hl)
theorem s_iconst {ρ0 : Type} {ret : Option FieldType} {encR : ρ0 → Option Value} {post : ρ0 → f_Mem → Prop} (hx : p.tables.exec = Jvm.exec) (hb : c.code = cc) (hml : c.maxLocals = nL) (hown : s.vm.findClass own = some m.cls) (hts : ∀ w ∈ tb, w.before args s = true) (hK : f_K E s) (hI : f_I E S) (hA : ∀ k, k < S.1 → A (f_ad E k)) (hA2 : ∀ q, s.heap.size ≤ q → A q) : r_iconst cc own ret D E S encR post (f_GG p e D s m args below meth c Q A E S nL) := by
  intro pc L st σ n v hd h0 k H locs ls hP hS hl
  exact lv_iconst hx hb hd h0 (k H locs ls hP hS hl)
theorem s_bipush {ρ0 : Type} {ret : Option FieldType} {encR : ρ0 → Option Value} {post : ρ0 → f_Mem → Prop} (hx : p.tables.exec = Jvm.exec) (hb : c.code = cc) (hml : c.maxLocals = nL) (hown : s.vm.findClass own = some m.cls) (hts : ∀ w ∈ tb, w.before args s = true) (hK : f_K E s) (hI : f_I E S) (hA : ∀ k, k < S.1 → A (f_ad E k)) (hA2 : ∀ q, s.heap.size ≤ q → A q) : r_bipush cc own ret D E S encR post (f_GG p e D s m args below meth c Q A E S nL) := by
  intro pc L st σ n v hd h0 k H locs ls hP hS hl
  exact lv_bipush hx hb hd h0 (k H locs ls hP hS hl)
theorem s_sipush {ρ0 : Type} {ret : Option FieldType} {encR : ρ0 → Option Value} {post : ρ0 → f_Mem → Prop} (hx : p.tables.exec = Jvm.exec) (hb : c.code = cc) (hml : c.maxLocals = nL) (hown : s.vm.findClass own = some m.cls) (hts : ∀ w ∈ tb, w.before args s = true) (hK : f_K E s) (hI : f_I E S) (hA : ∀ k, k < S.1 → A (f_ad E k)) (hA2 : ∀ q, s.heap.size ≤ q → A q) : r_sipush cc own ret D E S encR post (f_GG p e D s m args below meth c Q A E S nL) := by
  intro pc L st σ n v hd h0 k H locs ls hP hS hl
  exact lv_sipush hx hb hd h0 (k H locs ls hP hS hl)
theorem s_lconst {ρ0 : Type} {ret : Option FieldType} {encR : ρ0 → Option Value} {post : ρ0 → f_Mem → Prop} (hx : p.tables.exec = Jvm.exec) (hb : c.code = cc) (hml : c.maxLocals = nL) (hown : s.vm.findClass own = some m.cls) (hts : ∀ w ∈ tb, w.before args s = true) (hK : f_K E s) (hI : f_I E S) (hA : ∀ k, k < S.1 → A (f_ad E k)) (hA2 : ∀ q, s.heap.size ≤ q → A q) : r_lconst cc own ret D E S encR post (f_GG p e D s m args below meth c Q A E S nL) := by
  intro pc L st σ n v hd h0 k H locs ls hP hS hl
  exact lv_lconst hx hb hd h0 (k H locs ls hP hS hl)
theorem s_ldc {ρ0 : Type} {ret : Option FieldType} {encR : ρ0 → Option Value} {post : ρ0 → f_Mem → Prop} (hx : p.tables.exec = Jvm.exec) (hb : c.code = cc) (hml : c.maxLocals = nL) (hown : s.vm.findClass own = some m.cls) (hts : ∀ w ∈ tb, w.before args s = true) (hK : f_K E s) (hI : f_I E S) (hA : ∀ k, k < S.1 → A (f_ad E k)) (hA2 : ∀ q, s.heap.size ≤ q → A q) : r_ldc cc own ret D E S encR post (f_GG p e D s m args below meth c Q A E S nL) := by
  intro pc L st σ i v hd h0 k H locs ls hP hS hl
  exact lv_ldc hx hb hown (hts _ h0) hd (k H locs ls hP hS hl)
theorem s_ldcw {ρ0 : Type} {ret : Option FieldType} {encR : ρ0 → Option Value} {post : ρ0 → f_Mem → Prop} (hx : p.tables.exec = Jvm.exec) (hb : c.code = cc) (hml : c.maxLocals = nL) (hown : s.vm.findClass own = some m.cls) (hts : ∀ w ∈ tb, w.before args s = true) (hK : f_K E s) (hI : f_I E S) (hA : ∀ k, k < S.1 → A (f_ad E k)) (hA2 : ∀ q, s.heap.size ≤ q → A q) : r_ldcw cc own ret D E S encR post (f_GG p e D s m args below meth c Q A E S nL) := by
  intro pc L st σ i v hd h0 k H locs ls hP hS hl
  exact lv_ldcw hx hb hown (hts _ h0) hd (k H locs ls hP hS hl)
theorem s_ldc2 {ρ0 : Type} {ret : Option FieldType} {encR : ρ0 → Option Value} {post : ρ0 → f_Mem → Prop} (hx : p.tables.exec = Jvm.exec) (hb : c.code = cc) (hml : c.maxLocals = nL) (hown : s.vm.findClass own = some m.cls) (hts : ∀ w ∈ tb, w.before args s = true) (hK : f_K E s) (hI : f_I E S) (hA : ∀ k, k < S.1 → A (f_ad E k)) (hA2 : ∀ q, s.heap.size ≤ q → A q) : r_ldc2 cc own ret D E S encR post (f_GG p e D s m args below meth c Q A E S nL) := by
  intro pc L st σ i v hd h0 k H locs ls hP hS hl
  exact lv_ldc2 hx hb hown (hts _ h0) hd (k H locs ls hP hS hl)
theorem s_null {ρ0 : Type} {ret : Option FieldType} {encR : ρ0 → Option Value} {post : ρ0 → f_Mem → Prop} (hx : p.tables.exec = Jvm.exec) (hb : c.code = cc) (hml : c.maxLocals = nL) (hown : s.vm.findClass own = some m.cls) (hts : ∀ w ∈ tb, w.before args s = true) (hK : f_K E s) (hI : f_I E S) (hA : ∀ k, k < S.1 → A (f_ad E k)) (hA2 : ∀ q, s.heap.size ≤ q → A q) : r_null cc own ret D E S encR post (f_GG p e D s m args below meth c Q A E S nL) := by
  intro pc L st σ hd k H locs ls hP hS hl
  exact lv_null hx hb hd (k H locs ls hP hS hl)
theorem s_dup {ρ0 : Type} {ret : Option FieldType} {encR : ρ0 → Option Value} {post : ρ0 → f_Mem → Prop} (hx : p.tables.exec = Jvm.exec) (hb : c.code = cc) (hml : c.maxLocals = nL) (hown : s.vm.findClass own = some m.cls) (hts : ∀ w ∈ tb, w.before args s = true) (hK : f_K E s) (hI : f_I E S) (hA : ∀ k, k < S.1 → A (f_ad E k)) (hA2 : ∀ q, s.heap.size ≤ q → A q) : r_dup cc own ret D E S encR post (f_GG p e D s m args below meth c Q A E S nL) := by
  intro pc L st σ v hd h0 k H locs ls hP hS hl
  exact lv_dup hx hb hd h0 (k H locs ls hP hS hl)
theorem s_dup2 {ρ0 : Type} {ret : Option FieldType} {encR : ρ0 → Option Value} {post : ρ0 → f_Mem → Prop} (hx : p.tables.exec = Jvm.exec) (hb : c.code = cc) (hml : c.maxLocals = nL) (hown : s.vm.findClass own = some m.cls) (hts : ∀ w ∈ tb, w.before args s = true) (hK : f_K E s) (hI : f_I E S) (hA : ∀ k, k < S.1 → A (f_ad E k)) (hA2 : ∀ q, s.heap.size ≤ q → A q) : r_dup2 cc own ret D E S encR post (f_GG p e D s m args below meth c Q A E S nL) := by
  intro pc L st σ v w hd h0 h1 k H locs ls hP hS hl
  exact lv_dup2_11 hx hb hd h0 h1 (k H locs ls hP hS hl)
theorem s_pop {ρ0 : Type} {ret : Option FieldType} {encR : ρ0 → Option Value} {post : ρ0 → f_Mem → Prop} (hx : p.tables.exec = Jvm.exec) (hb : c.code = cc) (hml : c.maxLocals = nL) (hown : s.vm.findClass own = some m.cls) (hts : ∀ w ∈ tb, w.before args s = true) (hK : f_K E s) (hI : f_I E S) (hA : ∀ k, k < S.1 → A (f_ad E k)) (hA2 : ∀ q, s.heap.size ≤ q → A q) : r_pop cc own ret D E S encR post (f_GG p e D s m args below meth c Q A E S nL) := by
  intro pc L st σ v hd h0 k H locs ls hP hS hl
  exact lv_pop hx hb hd h0 (k H locs ls hP hS hl)
theorem s_icmp_eq {ρ0 : Type} {ret : Option FieldType} {encR : ρ0 → Option Value} {post : ρ0 → f_Mem → Prop} (hx : p.tables.exec = Jvm.exec) (hb : c.code = cc) (hml : c.maxLocals = nL) (hown : s.vm.findClass own = some m.cls) (hts : ∀ w ∈ tb, w.before args s = true) (hK : f_K E s) (hI : f_I E S) (hA : ∀ k, k < S.1 → A (f_ad E k)) (hA2 : ∀ q, s.heap.size ≤ q → A q) : r_icmp_eq cc own ret D E S encR post (f_GG p e D s m args below meth c Q A E S nL) := by
  intro pc L st σ off tgt x y hd ht kt kf H locs ls hP hS hl
  exact lv_icmp_eq hx hb hd ht (fun z => kt z H locs ls hP hS hl) (fun z => kf z H locs ls hP hS hl)
theorem s_icmp_ne {ρ0 : Type} {ret : Option FieldType} {encR : ρ0 → Option Value} {post : ρ0 → f_Mem → Prop} (hx : p.tables.exec = Jvm.exec) (hb : c.code = cc) (hml : c.maxLocals = nL) (hown : s.vm.findClass own = some m.cls) (hts : ∀ w ∈ tb, w.before args s = true) (hK : f_K E s) (hI : f_I E S) (hA : ∀ k, k < S.1 → A (f_ad E k)) (hA2 : ∀ q, s.heap.size ≤ q → A q) : r_icmp_ne cc own ret D E S encR post (f_GG p e D s m args below meth c Q A E S nL) := by
  intro pc L st σ off tgt x y hd ht kt kf H locs ls hP hS hl
  exact lv_icmp_ne hx hb hd ht (fun z => kt z H locs ls hP hS hl) (fun z => kf z H locs ls hP hS hl)
theorem s_icmp_lt {ρ0 : Type} {ret : Option FieldType} {encR : ρ0 → Option Value} {post : ρ0 → f_Mem → Prop} (hx : p.tables.exec = Jvm.exec) (hb : c.code = cc) (hml : c.maxLocals = nL) (hown : s.vm.findClass own = some m.cls) (hts : ∀ w ∈ tb, w.before args s = true) (hK : f_K E s) (hI : f_I E S) (hA : ∀ k, k < S.1 → A (f_ad E k)) (hA2 : ∀ q, s.heap.size ≤ q → A q) : r_icmp_lt cc own ret D E S encR post (f_GG p e D s m args below meth c Q A E S nL) := by
  intro pc L st σ off tgt x y hd ht kt kf H locs ls hP hS hl
  exact lv_icmp_lt hx hb hd ht (fun z => kt z H locs ls hP hS hl) (fun z => kf z H locs ls hP hS hl)
theorem s_icmp_ge {ρ0 : Type} {ret : Option FieldType} {encR : ρ0 → Option Value} {post : ρ0 → f_Mem → Prop} (hx : p.tables.exec = Jvm.exec) (hb : c.code = cc) (hml : c.maxLocals = nL) (hown : s.vm.findClass own = some m.cls) (hts : ∀ w ∈ tb, w.before args s = true) (hK : f_K E s) (hI : f_I E S) (hA : ∀ k, k < S.1 → A (f_ad E k)) (hA2 : ∀ q, s.heap.size ≤ q → A q) : r_icmp_ge cc own ret D E S encR post (f_GG p e D s m args below meth c Q A E S nL) := by
  intro pc L st σ off tgt x y hd ht kt kf H locs ls hP hS hl
  exact lv_icmp_ge hx hb hd ht (fun z => kt z H locs ls hP hS hl) (fun z => kf z H locs ls hP hS hl)
theorem s_icmp_gt {ρ0 : Type} {ret : Option FieldType} {encR : ρ0 → Option Value} {post : ρ0 → f_Mem → Prop} (hx : p.tables.exec = Jvm.exec) (hb : c.code = cc) (hml : c.maxLocals = nL) (hown : s.vm.findClass own = some m.cls) (hts : ∀ w ∈ tb, w.before args s = true) (hK : f_K E s) (hI : f_I E S) (hA : ∀ k, k < S.1 → A (f_ad E k)) (hA2 : ∀ q, s.heap.size ≤ q → A q) : r_icmp_gt cc own ret D E S encR post (f_GG p e D s m args below meth c Q A E S nL) := by
  intro pc L st σ off tgt x y hd ht kt kf H locs ls hP hS hl
  exact lv_icmp_gt hx hb hd ht (fun z => kt z H locs ls hP hS hl) (fun z => kf z H locs ls hP hS hl)
theorem s_icmp_le {ρ0 : Type} {ret : Option FieldType} {encR : ρ0 → Option Value} {post : ρ0 → f_Mem → Prop} (hx : p.tables.exec = Jvm.exec) (hb : c.code = cc) (hml : c.maxLocals = nL) (hown : s.vm.findClass own = some m.cls) (hts : ∀ w ∈ tb, w.before args s = true) (hK : f_K E s) (hI : f_I E S) (hA : ∀ k, k < S.1 → A (f_ad E k)) (hA2 : ∀ q, s.heap.size ≤ q → A q) : r_icmp_le cc own ret D E S encR post (f_GG p e D s m args below meth c Q A E S nL) := by
  intro pc L st σ off tgt x y hd ht kt kf H locs ls hP hS hl
  exact lv_icmp_le hx hb hd ht (fun z => kt z H locs ls hP hS hl) (fun z => kf z H locs ls hP hS hl)
theorem s_if_eq {ρ0 : Type} {ret : Option FieldType} {encR : ρ0 → Option Value} {post : ρ0 → f_Mem → Prop} (hx : p.tables.exec = Jvm.exec) (hb : c.code = cc) (hml : c.maxLocals = nL) (hown : s.vm.findClass own = some m.cls) (hts : ∀ w ∈ tb, w.before args s = true) (hK : f_K E s) (hI : f_I E S) (hA : ∀ k, k < S.1 → A (f_ad E k)) (hA2 : ∀ q, s.heap.size ≤ q → A q) : r_if_eq cc own ret D E S encR post (f_GG p e D s m args below meth c Q A E S nL) := by
  intro pc L st σ off tgt x hd ht kt kf H locs ls hP hS hl
  exact lv_if_eq hx hb hd ht (fun z => kt z H locs ls hP hS hl) (fun z => kf z H locs ls hP hS hl)
theorem s_if_ne {ρ0 : Type} {ret : Option FieldType} {encR : ρ0 → Option Value} {post : ρ0 → f_Mem → Prop} (hx : p.tables.exec = Jvm.exec) (hb : c.code = cc) (hml : c.maxLocals = nL) (hown : s.vm.findClass own = some m.cls) (hts : ∀ w ∈ tb, w.before args s = true) (hK : f_K E s) (hI : f_I E S) (hA : ∀ k, k < S.1 → A (f_ad E k)) (hA2 : ∀ q, s.heap.size ≤ q → A q) : r_if_ne cc own ret D E S encR post (f_GG p e D s m args below meth c Q A E S nL) := by
  intro pc L st σ off tgt x hd ht kt kf H locs ls hP hS hl
  exact lv_if_ne hx hb hd ht (fun z => kt z H locs ls hP hS hl) (fun z => kf z H locs ls hP hS hl)
theorem s_if_lt {ρ0 : Type} {ret : Option FieldType} {encR : ρ0 → Option Value} {post : ρ0 → f_Mem → Prop} (hx : p.tables.exec = Jvm.exec) (hb : c.code = cc) (hml : c.maxLocals = nL) (hown : s.vm.findClass own = some m.cls) (hts : ∀ w ∈ tb, w.before args s = true) (hK : f_K E s) (hI : f_I E S) (hA : ∀ k, k < S.1 → A (f_ad E k)) (hA2 : ∀ q, s.heap.size ≤ q → A q) : r_if_lt cc own ret D E S encR post (f_GG p e D s m args below meth c Q A E S nL) := by
  intro pc L st σ off tgt x hd ht kt kf H locs ls hP hS hl
  exact lv_if_lt hx hb hd ht (fun z => kt z H locs ls hP hS hl) (fun z => kf z H locs ls hP hS hl)
theorem s_if_ge {ρ0 : Type} {ret : Option FieldType} {encR : ρ0 → Option Value} {post : ρ0 → f_Mem → Prop} (hx : p.tables.exec = Jvm.exec) (hb : c.code = cc) (hml : c.maxLocals = nL) (hown : s.vm.findClass own = some m.cls) (hts : ∀ w ∈ tb, w.before args s = true) (hK : f_K E s) (hI : f_I E S) (hA : ∀ k, k < S.1 → A (f_ad E k)) (hA2 : ∀ q, s.heap.size ≤ q → A q) : r_if_ge cc own ret D E S encR post (f_GG p e D s m args below meth c Q A E S nL) := by
  intro pc L st σ off tgt x hd ht kt kf H locs ls hP hS hl
  exact lv_if_ge hx hb hd ht (fun z => kt z H locs ls hP hS hl) (fun z => kf z H locs ls hP hS hl)
theorem s_if_gt {ρ0 : Type} {ret : Option FieldType} {encR : ρ0 → Option Value} {post : ρ0 → f_Mem → Prop} (hx : p.tables.exec = Jvm.exec) (hb : c.code = cc) (hml : c.maxLocals = nL) (hown : s.vm.findClass own = some m.cls) (hts : ∀ w ∈ tb, w.before args s = true) (hK : f_K E s) (hI : f_I E S) (hA : ∀ k, k < S.1 → A (f_ad E k)) (hA2 : ∀ q, s.heap.size ≤ q → A q) : r_if_gt cc own ret D E S encR post (f_GG p e D s m args below meth c Q A E S nL) := by
  intro pc L st σ off tgt x hd ht kt kf H locs ls hP hS hl
  exact lv_if_gt hx hb hd ht (fun z => kt z H locs ls hP hS hl) (fun z => kf z H locs ls hP hS hl)
theorem s_if_le {ρ0 : Type} {ret : Option FieldType} {encR : ρ0 → Option Value} {post : ρ0 → f_Mem → Prop} (hx : p.tables.exec = Jvm.exec) (hb : c.code = cc) (hml : c.maxLocals = nL) (hown : s.vm.findClass own = some m.cls) (hts : ∀ w ∈ tb, w.before args s = true) (hK : f_K E s) (hI : f_I E S) (hA : ∀ k, k < S.1 → A (f_ad E k)) (hA2 : ∀ q, s.heap.size ≤ q → A q) : r_if_le cc own ret D E S encR post (f_GG p e D s m args below meth c Q A E S nL) := by
  intro pc L st σ off tgt x hd ht kt kf H locs ls hP hS hl
  exact lv_if_le hx hb hd ht (fun z => kt z H locs ls hP hS hl) (fun z => kf z H locs ls hP hS hl)
theorem s_goto {ρ0 : Type} {ret : Option FieldType} {encR : ρ0 → Option Value} {post : ρ0 → f_Mem → Prop} (hx : p.tables.exec = Jvm.exec) (hb : c.code = cc) (hml : c.maxLocals = nL) (hown : s.vm.findClass own = some m.cls) (hts : ∀ w ∈ tb, w.before args s = true) (hK : f_K E s) (hI : f_I E S) (hA : ∀ k, k < S.1 → A (f_ad E k)) (hA2 : ∀ q, s.heap.size ≤ q → A q) : r_goto cc own ret D E S encR post (f_GG p e D s m args below meth c Q A E S nL) := by
  intro pc L st σ off tgt hd ht k H locs ls hP hS hl
  exact lv_goto hx hb hd ht (k H locs ls hP hS hl)
theorem s_ifnull {ρ0 : Type} {ret : Option FieldType} {encR : ρ0 → Option Value} {post : ρ0 → f_Mem → Prop} (hx : p.tables.exec = Jvm.exec) (hb : c.code = cc) (hml : c.maxLocals = nL) (hown : s.vm.findClass own = some m.cls) (hts : ∀ w ∈ tb, w.before args s = true) (hK : f_K E s) (hI : f_I E S) (hA : ∀ k, k < S.1 → A (f_ad E k)) (hA2 : ∀ q, s.heap.size ≤ q → A q) : r_ifnull cc own ret D E S encR post (f_GG p e D s m args below meth c Q A E S nL) := by
  intro pc L st σ off x hd k H locs ls hP hS hl
  exact lv_ifnull hx hb hd (k H locs ls hP hS hl)
theorem s_ifnullN {ρ0 : Type} {ret : Option FieldType} {encR : ρ0 → Option Value} {post : ρ0 → f_Mem → Prop} (hx : p.tables.exec = Jvm.exec) (hb : c.code = cc) (hml : c.maxLocals = nL) (hown : s.vm.findClass own = some m.cls) (hts : ∀ w ∈ tb, w.before args s = true) (hK : f_K E s) (hI : f_I E S) (hA : ∀ k, k < S.1 → A (f_ad E k)) (hA2 : ∀ q, s.heap.size ≤ q → A q) : r_ifnullN cc own ret D E S encR post (f_GG p e D s m args below meth c Q A E S nL) := by
  intro pc L st σ off tgt hd ht k H locs ls hP hS hl
  exact lv_ifnullN hx hb hd ht (k H locs ls hP hS hl)
theorem s_ifnonnull {ρ0 : Type} {ret : Option FieldType} {encR : ρ0 → Option Value} {post : ρ0 → f_Mem → Prop} (hx : p.tables.exec = Jvm.exec) (hb : c.code = cc) (hml : c.maxLocals = nL) (hown : s.vm.findClass own = some m.cls) (hts : ∀ w ∈ tb, w.before args s = true) (hK : f_K E s) (hI : f_I E S) (hA : ∀ k, k < S.1 → A (f_ad E k)) (hA2 : ∀ q, s.heap.size ≤ q → A q) : r_ifnonnull cc own ret D E S encR post (f_GG p e D s m args below meth c Q A E S nL) := by
  intro pc L st σ off tgt x hd ht k H locs ls hP hS hl
  exact lv_ifnonnull hx hb hd ht (k H locs ls hP hS hl)
theorem s_ifnonnullN {ρ0 : Type} {ret : Option FieldType} {encR : ρ0 → Option Value} {post : ρ0 → f_Mem → Prop} (hx : p.tables.exec = Jvm.exec) (hb : c.code = cc) (hml : c.maxLocals = nL) (hown : s.vm.findClass own = some m.cls) (hts : ∀ w ∈ tb, w.before args s = true) (hK : f_K E s) (hI : f_I E S) (hA : ∀ k, k < S.1 → A (f_ad E k)) (hA2 : ∀ q, s.heap.size ≤ q → A q) : r_ifnonnullN cc own ret D E S encR post (f_GG p e D s m args below meth c Q A E S nL) := by
  intro pc L st σ off hd k H locs ls hP hS hl
  exact lv_ifnonnullN hx hb hd (k H locs ls hP hS hl)
theorem s_tblIn {ρ0 : Type} {ret : Option FieldType} {encR : ρ0 → Option Value} {post : ρ0 → f_Mem → Prop} (hx : p.tables.exec = Jvm.exec) (hb : c.code = cc) (hml : c.maxLocals = nL) (hown : s.vm.findClass own = some m.cls) (hts : ∀ w ∈ tb, w.before args s = true) (hK : f_K E s) (hI : f_I E S) (hA : ∀ k, k < S.1 → A (f_ad E k)) (hA2 : ∀ q, s.heap.size ≤ q → A q) : r_tblIn cc own ret D E S encR post (f_GG p e D s m args below meth c Q A E S nL) := by
  intro pc L st σ dflt lo hi offs len x off tgt hd h0 h1 h2 h3 k H locs ls hP hS hl
  exact lv_tableIn hx hb hd h0 h1 h2 h3 (k H locs ls hP hS hl)
theorem s_tblOut {ρ0 : Type} {ret : Option FieldType} {encR : ρ0 → Option Value} {post : ρ0 → f_Mem → Prop} (hx : p.tables.exec = Jvm.exec) (hb : c.code = cc) (hml : c.maxLocals = nL) (hown : s.vm.findClass own = some m.cls) (hts : ∀ w ∈ tb, w.before args s = true) (hK : f_K E s) (hI : f_I E S) (hA : ∀ k, k < S.1 → A (f_ad E k)) (hA2 : ∀ q, s.heap.size ≤ q → A q) : r_tblOut cc own ret D E S encR post (f_GG p e D s m args below meth c Q A E S nL) := by
  intro pc L st σ dflt lo hi offs len x tgt hd h0 h1 k H locs ls hP hS hl
  exact lv_tableOut hx hb hd h0 h1 (k H locs ls hP hS hl)
theorem s_iload_n {ρ0 : Type} {ret : Option FieldType} {encR : ρ0 → Option Value} {post : ρ0 → f_Mem → Prop} (hx : p.tables.exec = Jvm.exec) (hb : c.code = cc) (hml : c.maxLocals = nL) (hown : s.vm.findClass own = some m.cls) (hts : ∀ w ∈ tb, w.before args s = true) (hK : f_K E s) (hI : f_I E S) (hA : ∀ k, k < S.1 → A (f_ad E k)) (hA2 : ∀ q, s.heap.size ≤ q → A q) : r_iload_n cc own ret D E S encR post (f_GG p e D s m args below meth c Q A E S nL) := by
  intro pc L st σ k x hd h0 k H locs ls hP hS hl
  exact lv_iload_n hx hb hd rfl (hl.at h0) (k H locs ls hP hS hl)
theorem s_iload {ρ0 : Type} {ret : Option FieldType} {encR : ρ0 → Option Value} {post : ρ0 → f_Mem → Prop} (hx : p.tables.exec = Jvm.exec) (hb : c.code = cc) (hml : c.maxLocals = nL) (hown : s.vm.findClass own = some m.cls) (hts : ∀ w ∈ tb, w.before args s = true) (hK : f_K E s) (hI : f_I E S) (hA : ∀ k, k < S.1 → A (f_ad E k)) (hA2 : ∀ q, s.heap.size ≤ q → A q) : r_iload cc own ret D E S encR post (f_GG p e D s m args below meth c Q A E S nL) := by
  intro pc L st σ k x hd h0 k H locs ls hP hS hl
  exact lv_iload hx hb hd (hl.at h0) (k H locs ls hP hS hl)
theorem s_aload_n {ρ0 : Type} {ret : Option FieldType} {encR : ρ0 → Option Value} {post : ρ0 → f_Mem → Prop} (hx : p.tables.exec = Jvm.exec) (hb : c.code = cc) (hml : c.maxLocals = nL) (hown : s.vm.findClass own = some m.cls) (hts : ∀ w ∈ tb, w.before args s = true) (hK : f_K E s) (hI : f_I E S) (hA : ∀ k, k < S.1 → A (f_ad E k)) (hA2 : ∀ q, s.heap.size ≤ q → A q) : r_aload_n cc own ret D E S encR post (f_GG p e D s m args below meth c Q A E S nL) := by
  intro pc L st σ k x hd h0 k H locs ls hP hS hl
  exact lv_aload_n hx hb hd rfl (hl.at h0) (k H locs ls hP hS hl)
theorem s_aload {ρ0 : Type} {ret : Option FieldType} {encR : ρ0 → Option Value} {post : ρ0 → f_Mem → Prop} (hx : p.tables.exec = Jvm.exec) (hb : c.code = cc) (hml : c.maxLocals = nL) (hown : s.vm.findClass own = some m.cls) (hts : ∀ w ∈ tb, w.before args s = true) (hK : f_K E s) (hI : f_I E S) (hA : ∀ k, k < S.1 → A (f_ad E k)) (hA2 : ∀ q, s.heap.size ≤ q → A q) : r_aload cc own ret D E S encR post (f_GG p e D s m args below meth c Q A E S nL) := by
  intro pc L st σ k x hd h0 k H locs ls hP hS hl
  exact lv_aload hx hb hd (hl.at h0) (k H locs ls hP hS hl)
theorem s_aloadN_n {ρ0 : Type} {ret : Option FieldType} {encR : ρ0 → Option Value} {post : ρ0 → f_Mem → Prop} (hx : p.tables.exec = Jvm.exec) (hb : c.code = cc) (hml : c.maxLocals = nL) (hown : s.vm.findClass own = some m.cls) (hts : ∀ w ∈ tb, w.before args s = true) (hK : f_K E s) (hI : f_I E S) (hA : ∀ k, k < S.1 → A (f_ad E k)) (hA2 : ∀ q, s.heap.size ≤ q → A q) : r_aloadN_n cc own ret D E S encR post (f_GG p e D s m args below meth c Q A E S nL) := by
  intro pc L st σ k hd h0 k H locs ls hP hS hl
  exact lv_aload_nN hx hb hd rfl (hl.at h0) (k H locs ls hP hS hl)
theorem s_aloadN {ρ0 : Type} {ret : Option FieldType} {encR : ρ0 → Option Value} {post : ρ0 → f_Mem → Prop} (hx : p.tables.exec = Jvm.exec) (hb : c.code = cc) (hml : c.maxLocals = nL) (hown : s.vm.findClass own = some m.cls) (hts : ∀ w ∈ tb, w.before args s = true) (hK : f_K E s) (hI : f_I E S) (hA : ∀ k, k < S.1 → A (f_ad E k)) (hA2 : ∀ q, s.heap.size ≤ q → A q) : r_aloadN cc own ret D E S encR post (f_GG p e D s m args below meth c Q A E S nL) := by
  intro pc L st σ k hd h0 k H locs ls hP hS hl
  exact lv_aloadN hx hb hd (hl.at h0) (k H locs ls hP hS hl)
theorem s_lload_n {ρ0 : Type} {ret : Option FieldType} {encR : ρ0 → Option Value} {post : ρ0 → f_Mem → Prop} (hx : p.tables.exec = Jvm.exec) (hb : c.code = cc) (hml : c.maxLocals = nL) (hown : s.vm.findClass own = some m.cls) (hts : ∀ w ∈ tb, w.before args s = true) (hK : f_K E s) (hI : f_I E S) (hA : ∀ k, k < S.1 → A (f_ad E k)) (hA2 : ∀ q, s.heap.size ≤ q → A q) : r_lload_n cc own ret D E S encR post (f_GG p e D s m args below meth c Q A E S nL) := by
  intro pc L st σ k x hd h0 k H locs ls hP hS hl
  exact lv_lload_n hx hb hd rfl (hl.at h0) (k H locs ls hP hS hl)
theorem s_lload {ρ0 : Type} {ret : Option FieldType} {encR : ρ0 → Option Value} {post : ρ0 → f_Mem → Prop} (hx : p.tables.exec = Jvm.exec) (hb : c.code = cc) (hml : c.maxLocals = nL) (hown : s.vm.findClass own = some m.cls) (hts : ∀ w ∈ tb, w.before args s = true) (hK : f_K E s) (hI : f_I E S) (hA : ∀ k, k < S.1 → A (f_ad E k)) (hA2 : ∀ q, s.heap.size ≤ q → A q) : r_lload cc own ret D E S encR post (f_GG p e D s m args below meth c Q A E S nL) := by
  intro pc L st σ k x hd h0 k H locs ls hP hS hl
  exact lv_lload hx hb hd (hl.at h0) (k H locs ls hP hS hl)
theorem s_istore_n {ρ0 : Type} {ret : Option FieldType} {encR : ρ0 → Option Value} {post : ρ0 → f_Mem → Prop} (hx : p.tables.exec = Jvm.exec) (hb : c.code = cc) (hml : c.maxLocals = nL) (hown : s.vm.findClass own = some m.cls) (hts : ∀ w ∈ tb, w.before args s = true) (hK : f_K E s) (hI : f_I E S) (hA : ∀ k, k < S.1 → A (f_ad E k)) (hA2 : ∀ q, s.heap.size ≤ q → A q) : r_istore_n cc own ret D E S encR post (f_GG p e D s m args below meth c Q A E S nL) := by
  intro pc L st σ k x hd h0 h1 k H locs ls hP hS hl
  refine lv_istore_n hx hb hd rfl hl.1 (by rw [← hl.2]; exact h0) rfl (fun ls2 hl2 => ?_)
  exact k H locs ls2 hP hS (f_ls_set hl.2 h1 hl2)
theorem s_istore {ρ0 : Type} {ret : Option FieldType} {encR : ρ0 → Option Value} {post : ρ0 → f_Mem → Prop} (hx : p.tables.exec = Jvm.exec) (hb : c.code = cc) (hml : c.maxLocals = nL) (hown : s.vm.findClass own = some m.cls) (hts : ∀ w ∈ tb, w.before args s = true) (hK : f_K E s) (hI : f_I E S) (hA : ∀ k, k < S.1 → A (f_ad E k)) (hA2 : ∀ q, s.heap.size ≤ q → A q) : r_istore cc own ret D E S encR post (f_GG p e D s m args below meth c Q A E S nL) := by
  intro pc L st σ k x hd h0 h1 k H locs ls hP hS hl
  refine lv_istore hx hb hd hl.1 (by rw [← hl.2]; exact h0) rfl (fun ls2 hl2 => ?_)
  exact k H locs ls2 hP hS (f_ls_set hl.2 h1 hl2)
theorem s_astore_n {ρ0 : Type} {ret : Option FieldType} {encR : ρ0 → Option Value} {post : ρ0 → f_Mem → Prop} (hx : p.tables.exec = Jvm.exec) (hb : c.code = cc) (hml : c.maxLocals = nL) (hown : s.vm.findClass own = some m.cls) (hts : ∀ w ∈ tb, w.before args s = true) (hK : f_K E s) (hI : f_I E S) (hA : ∀ k, k < S.1 → A (f_ad E k)) (hA2 : ∀ q, s.heap.size ≤ q → A q) : r_astore_n cc own ret D E S encR post (f_GG p e D s m args below meth c Q A E S nL) := by
  intro pc L st σ k x hd h0 h1 k H locs ls hP hS hl
  refine lv_astore_n hx hb hd rfl hl.1 (by rw [← hl.2]; exact h0) rfl (fun ls2 hl2 => ?_)
  exact k H locs ls2 hP hS (f_ls_set hl.2 h1 hl2)
theorem s_astore {ρ0 : Type} {ret : Option FieldType} {encR : ρ0 → Option Value} {post : ρ0 → f_Mem → Prop} (hx : p.tables.exec = Jvm.exec) (hb : c.code = cc) (hml : c.maxLocals = nL) (hown : s.vm.findClass own = some m.cls) (hts : ∀ w ∈ tb, w.before args s = true) (hK : f_K E s) (hI : f_I E S) (hA : ∀ k, k < S.1 → A (f_ad E k)) (hA2 : ∀ q, s.heap.size ≤ q → A q) : r_astore cc own ret D E S encR post (f_GG p e D s m args below meth c Q A E S nL) := by
  intro pc L st σ k x hd h0 h1 k H locs ls hP hS hl
  refine lv_astore hx hb hd hl.1 (by rw [← hl.2]; exact h0) rfl (fun ls2 hl2 => ?_)
  exact k H locs ls2 hP hS (f_ls_set hl.2 h1 hl2)
theorem s_astoreN_n {ρ0 : Type} {ret : Option FieldType} {encR : ρ0 → Option Value} {post : ρ0 → f_Mem → Prop} (hx : p.tables.exec = Jvm.exec) (hb : c.code = cc) (hml : c.maxLocals = nL) (hown : s.vm.findClass own = some m.cls) (hts : ∀ w ∈ tb, w.before args s = true) (hK : f_K E s) (hI : f_I E S) (hA : ∀ k, k < S.1 → A (f_ad E k)) (hA2 : ∀ q, s.heap.size ≤ q → A q) : r_astoreN_n cc own ret D E S encR post (f_GG p e D s m args below meth c Q A E S nL) := by
  intro pc L st σ k hd h0 h1 k H locs ls hP hS hl
  refine lv_astore_nN hx hb hd rfl hl.1 (by rw [← hl.2]; exact h0) rfl (fun ls2 hl2 => ?_)
  exact k H locs ls2 hP hS (f_ls_set hl.2 h1 hl2)
theorem s_astoreN {ρ0 : Type} {ret : Option FieldType} {encR : ρ0 → Option Value} {post : ρ0 → f_Mem → Prop} (hx : p.tables.exec = Jvm.exec) (hb : c.code = cc) (hml : c.maxLocals = nL) (hown : s.vm.findClass own = some m.cls) (hts : ∀ w ∈ tb, w.before args s = true) (hK : f_K E s) (hI : f_I E S) (hA : ∀ k, k < S.1 → A (f_ad E k)) (hA2 : ∀ q, s.heap.size ≤ q → A q) : r_astoreN cc own ret D E S encR post (f_GG p e D s m args below meth c Q A E S nL) := by
  intro pc L st σ k hd h0 h1 k H locs ls hP hS hl
  refine lv_astoreN hx hb hd hl.1 (by rw [← hl.2]; exact h0) rfl (fun ls2 hl2 => ?_)
  exact k H locs ls2 hP hS (f_ls_set hl.2 h1 hl2)
theorem s_lstore_n {ρ0 : Type} {ret : Option FieldType} {encR : ρ0 → Option Value} {post : ρ0 → f_Mem → Prop} (hx : p.tables.exec = Jvm.exec) (hb : c.code = cc) (hml : c.maxLocals = nL) (hown : s.vm.findClass own = some m.cls) (hts : ∀ w ∈ tb, w.before args s = true) (hK : f_K E s) (hI : f_I E S) (hA : ∀ k, k < S.1 → A (f_ad E k)) (hA2 : ∀ q, s.heap.size ≤ q → A q) : r_lstore_n cc own ret D E S encR post (f_GG p e D s m args below meth c Q A E S nL) := by
  intro pc L st σ k x hd h0 h1 k H locs ls hP hS hl
  refine lv_lstore_n hx hb hd rfl hl.1 (by rw [← hl.2]; exact h0) rfl (fun ls2 hl2 => ?_)
  exact k H locs ls2 hP hS (f_ls_set2 hl.2 h1 hl2)
theorem s_lstore {ρ0 : Type} {ret : Option FieldType} {encR : ρ0 → Option Value} {post : ρ0 → f_Mem → Prop} (hx : p.tables.exec = Jvm.exec) (hb : c.code = cc) (hml : c.maxLocals = nL) (hown : s.vm.findClass own = some m.cls) (hts : ∀ w ∈ tb, w.before args s = true) (hK : f_K E s) (hI : f_I E S) (hA : ∀ k, k < S.1 → A (f_ad E k)) (hA2 : ∀ q, s.heap.size ≤ q → A q) : r_lstore cc own ret D E S encR post (f_GG p e D s m args below meth c Q A E S nL) := by
  intro pc L st σ k x hd h0 h1 k H locs ls hP hS hl
  refine lv_lstore hx hb hd hl.1 (by rw [← hl.2]; exact h0) rfl (fun ls2 hl2 => ?_)
  exact k H locs ls2 hP hS (f_ls_set2 hl.2 h1 hl2)
theorem s_iinc {ρ0 : Type} {ret : Option FieldType} {encR : ρ0 → Option Value} {post : ρ0 → f_Mem → Prop} (hx : p.tables.exec = Jvm.exec) (hb : c.code = cc) (hml : c.maxLocals = nL) (hown : s.vm.findClass own = some m.cls) (hts : ∀ w ∈ tb, w.before args s = true) (hK : f_K E s) (hI : f_I E S) (hA : ∀ k, k < S.1 → A (f_ad E k)) (hA2 : ∀ q, s.heap.size ≤ q → A q) : r_iinc cc own ret D E S encR post (f_GG p e D s m args below meth c Q A E S nL) := by
  intro pc L st σ k n x v hd h0 h1 h2 kk0 H locs ls hP hS hl
  obtain ⟨q, hq⟩ := List.getElem?_of_mem ((f_lv_mem L 0 (k, .int x)).mpr ⟨k, by simp, h0⟩)
  have hlt : k < nL := by rw [← hl.2]; exact (List.getElem?_eq_some_iff.mp h0).1
  refine lv_iinc hx hb hd hl.1 hq h1 hlt rfl (fun ls2 hl2 => ?_)
  exact kk0 H locs ls2 hP hS (f_ls_set hl.2 h2 hl2)
theorem s_getI {ρ0 : Type} {ret : Option FieldType} {encR : ρ0 → Option Value} {post : ρ0 → f_Mem → Prop} (hx : p.tables.exec = Jvm.exec) (hb : c.code = cc) (hml : c.maxLocals = nL) (hown : s.vm.findClass own = some m.cls) (hts : ∀ w ∈ tb, w.before args s = true) (hK : f_K E s) (hI : f_I E S) (hA : ∀ k, k < S.1 → A (f_ad E k)) (hA2 : ∀ q, s.heap.size ≤ q → A q) : r_getI cc own ret D E S encR post (f_GG p e D s m args below meth c Q A E S nL) := by
  intro pc L st σ i ci k n fs hd h0 h1 h2 h3 kk0 H locs ls hP hS hl
  obtain ⟨C, T, N, g1, g2, g3, g4⟩ := h0
  have he := f_wl_at E S σ h1
  rw [f_cell_o h2] at he
  have hv : (f_fld (f_ad E) (σ n) 0 fs)[k]? = some (.int (σ n k)) := by rw [f_fld_get, h3]; simp
  rcases g4 with g4 | ⟨host, g4⟩
  · exact va_get hx hb hts g2 hown hK hP n he g1 k g3 (hts _ g4) (fun _ h9 => h9) hv hd (kk0 H locs ls hP hS hl)
  · exact va_getN hx hb hts g2 hown hK hP n he g1 k g3 (hts _ g4) (fun _ h9 => h9) hv hd (kk0 H locs ls hP hS hl)
theorem s_getR {ρ0 : Type} {ret : Option FieldType} {encR : ρ0 → Option Value} {post : ρ0 → f_Mem → Prop} (hx : p.tables.exec = Jvm.exec) (hb : c.code = cc) (hml : c.maxLocals = nL) (hown : s.vm.findClass own = some m.cls) (hts : ∀ w ∈ tb, w.before args s = true) (hK : f_K E s) (hI : f_I E S) (hA : ∀ k, k < S.1 → A (f_ad E k)) (hA2 : ∀ q, s.heap.size ≤ q → A q) : r_getR cc own ret D E S encR post (f_GG p e D s m args below meth c Q A E S nL) := by
  intro pc L st σ i ci k n r fs hd h0 h1 h2 h3 kk0 H locs ls hP hS hl
  obtain ⟨C, T, N, g1, g2, g3, g4⟩ := h0
  have he := f_wl_at E S σ h1
  rw [f_cell_o h2] at he
  have hv : (f_fld (f_ad E) (σ n) 0 fs)[k]? = some (.ref (f_ad E r)) := by rw [f_fld_get, h3]; simp
  rcases g4 with g4 | ⟨host, g4⟩
  · exact va_get hx hb hts g2 hown hK hP n he g1 k g3 (hts _ g4) (fun _ h9 => h9) hv hd (kk0 H locs ls hP hS hl)
  · exact va_getN hx hb hts g2 hown hK hP n he g1 k g3 (hts _ g4) (fun _ h9 => h9) hv hd (kk0 H locs ls hP hS hl)
theorem s_getN {ρ0 : Type} {ret : Option FieldType} {encR : ρ0 → Option Value} {post : ρ0 → f_Mem → Prop} (hx : p.tables.exec = Jvm.exec) (hb : c.code = cc) (hml : c.maxLocals = nL) (hown : s.vm.findClass own = some m.cls) (hts : ∀ w ∈ tb, w.before args s = true) (hK : f_K E s) (hI : f_I E S) (hA : ∀ k, k < S.1 → A (f_ad E k)) (hA2 : ∀ q, s.heap.size ≤ q → A q) : r_getN cc own ret D E S encR post (f_GG p e D s m args below meth c Q A E S nL) := by
  intro pc L st σ i ci k n fs hd h0 h1 h2 h3 kk0 H locs ls hP hS hl
  obtain ⟨C, T, N, g1, g2, g3, g4⟩ := h0
  have he := f_wl_at E S σ h1
  rw [f_cell_o h2] at he
  have hv : (f_fld (f_ad E) (σ n) 0 fs)[k]? = some (.null) := by rw [f_fld_get, h3]; simp
  rcases g4 with g4 | ⟨host, g4⟩
  · exact va_get hx hb hts g2 hown hK hP n he g1 k g3 (hts _ g4) (fun _ h9 => h9) hv hd (kk0 H locs ls hP hS hl)
  · exact va_getN hx hb hts g2 hown hK hP n he g1 k g3 (hts _ g4) (fun _ h9 => h9) hv hd (kk0 H locs ls hP hS hl)
theorem s_put {ρ0 : Type} {ret : Option FieldType} {encR : ρ0 → Option Value} {post : ρ0 → f_Mem → Prop} (hx : p.tables.exec = Jvm.exec) (hb : c.code = cc) (hml : c.maxLocals = nL) (hown : s.vm.findClass own = some m.cls) (hts : ∀ w ∈ tb, w.before args s = true) (hK : f_K E s) (hI : f_I E S) (hA : ∀ k, k < S.1 → A (f_ad E k)) (hA2 : ∀ q, s.heap.size ≤ q → A q) : r_put cc own ret D E S encR post (f_GG p e D s m args below meth c Q A E S nL) := by
  intro pc L st σ i ci k n fs v hd h0 h1 h2 h3 kk0 H locs ls hP hS hl
  obtain ⟨C, T, N, g1, g2, g3, g4, ⟨ty0, g5⟩, g6, g7, g8⟩ := h0
  have he := f_wl_at E S σ h1
  rw [f_cell_o h2] at he
  have hD := f_D hI hA σ
  have hlen : k < (f_fld (f_ad E) (σ n) 0 fs).length := by rw [f_fld_len]; exact (List.getElem?_eq_some_iff.mp h3).1
  have hset : (f_wl E S σ).set n (f_ad E n, .inr (ci, (f_fld (f_ad E) (σ n) 0 fs).set k (.int v))) = f_wl E S (m_set σ n k v) := by
    refine f_wl_set h1 ?_
    rw [f_cell_o h2, f_fld_set _ _ _ _ _ h3]
    unfold m_row
    rw [if_pos rfl]
  rcases g4 with g4 | ⟨host, g4⟩
  · refine va_put hx hb hts g2 ty0 g5 g6 hown hK hP hD hS n he g1 k g3 (hts _ g4) (fun _ h9 => h9) g7 g8 rfl rfl hlen hd (fun H1 locs1 hP1 _ hS1 => ?_)
    rw [hset] at hP1
    exact kk0 H1 locs1 ls hP1 hS1 hl
  · refine va_putN hx hb hts g2 ty0 g5 g6 hown hK hP hD hS n he g1 k g3 (hts _ g4) (fun _ h9 => h9) g7 g8 rfl rfl hlen hd (fun H1 locs1 hP1 _ hS1 => ?_)
    rw [hset] at hP1
    exact kk0 H1 locs1 ls hP1 hS1 hl
theorem s_ald {ρ0 : Type} {ret : Option FieldType} {encR : ρ0 → Option Value} {post : ρ0 → f_Mem → Prop} (hx : p.tables.exec = Jvm.exec) (hb : c.code = cc) (hml : c.maxLocals = nL) (hown : s.vm.findClass own = some m.cls) (hts : ∀ w ∈ tb, w.before args s = true) (hK : f_K E s) (hI : f_I E S) (hA : ∀ k, k < S.1 → A (f_ad E k)) (hA2 : ∀ q, s.heap.size ≤ q → A q) : r_ald cc own ret D E S encR post (f_GG p e D s m args below meth c Q A E S nL) := by
  intro pc L st σ n len i hd h0 h1 h2 kk0 H locs ls hP hS hl
  have he := f_wl_at E S σ h0
  rw [f_cell_i h1] at he
  exact va_iald hx hb hK hP n 0 he rfl h2 hd (kk0 H locs ls hP hS hl)
theorem s_ast {ρ0 : Type} {ret : Option FieldType} {encR : ρ0 → Option Value} {post : ρ0 → f_Mem → Prop} (hx : p.tables.exec = Jvm.exec) (hb : c.code = cc) (hml : c.maxLocals = nL) (hown : s.vm.findClass own = some m.cls) (hts : ∀ w ∈ tb, w.before args s = true) (hK : f_K E s) (hI : f_I E S) (hA : ∀ k, k < S.1 → A (f_ad E k)) (hA2 : ∀ q, s.heap.size ≤ q → A q) : r_ast cc own ret D E S encR post (f_GG p e D s m args below meth c Q A E S nL) := by
  intro pc L st σ n len i v hd h0 h1 h2 kk0 H locs ls hP hS hl
  have he := f_wl_at E S σ h0
  rw [f_cell_i h1] at he
  refine va_iast hx hb hK hP (f_D hI hA σ) hS n 0 he rfl h2 hd (fun H1 locs1 hP1 _ hS1 => ?_)
  rw [f_wl_set (f := upd (σ n) i.toNatClampNeg v) h0 (by rw [f_cell_i h1]; unfold m_row; rw [if_pos rfl])] at hP1
  exact kk0 H1 locs1 ls hP1 hS1 hl
theorem s_alenI {ρ0 : Type} {ret : Option FieldType} {encR : ρ0 → Option Value} {post : ρ0 → f_Mem → Prop} (hx : p.tables.exec = Jvm.exec) (hb : c.code = cc) (hml : c.maxLocals = nL) (hown : s.vm.findClass own = some m.cls) (hts : ∀ w ∈ tb, w.before args s = true) (hK : f_K E s) (hI : f_I E S) (hA : ∀ k, k < S.1 → A (f_ad E k)) (hA2 : ∀ q, s.heap.size ≤ q → A q) : r_alenI cc own ret D E S encR post (f_GG p e D s m args below meth c Q A E S nL) := by
  intro pc L st σ n len hd h0 h1 kk0 H locs ls hP hS hl
  have he := f_wl_at E S σ h0
  rw [f_cell_i h1] at he
  exact va_alen hx hb hK hP n 0 he (ty := .int) rfl rfl hd (kk0 H locs ls hP hS hl)
theorem s_alenQ {ρ0 : Type} {ret : Option FieldType} {encR : ρ0 → Option Value} {post : ρ0 → f_Mem → Prop} (hx : p.tables.exec = Jvm.exec) (hb : c.code = cc) (hml : c.maxLocals = nL) (hown : s.vm.findClass own = some m.cls) (hts : ∀ w ∈ tb, w.before args s = true) (hK : f_K E s) (hI : f_I E S) (hA : ∀ k, k < S.1 → A (f_ad E k)) (hA2 : ∀ q, s.heap.size ≤ q → A q) : r_alenQ cc own ret D E S encR post (f_GG p e D s m args below meth c Q A E S nL) := by
  intro pc L st σ n len hd h0 h1 kk0 H locs ls hP hS hl
  have he := f_wl_at E S σ h0
  rw [f_cell_q h1] at he
  exact va_alen hx hb hK hP n 1 he (ty := .object RX2) rfl rfl hd (kk0 H locs ls hP hS hl)
theorem s_aldQ {ρ0 : Type} {ret : Option FieldType} {encR : ρ0 → Option Value} {post : ρ0 → f_Mem → Prop} (hx : p.tables.exec = Jvm.exec) (hb : c.code = cc) (hml : c.maxLocals = nL) (hown : s.vm.findClass own = some m.cls) (hts : ∀ w ∈ tb, w.before args s = true) (hK : f_K E s) (hI : f_I E S) (hA : ∀ k, k < S.1 → A (f_ad E k)) (hA2 : ∀ q, s.heap.size ≤ q → A q) : r_aldQ cc own ret D E S encR post (f_GG p e D s m args below meth c Q A E S nL) := by
  intro pc L st σ n len i hd h0 h1 h2 kk0 H locs ls hP hS hl
  have he := f_wl_at E S σ h0
  rw [f_cell_q h1] at he
  exact va_aldq hx hb hK hP n 1 (C := RX2) he rfl h2 hd (kk0 H locs ls hP hS hl)
theorem s_astQ {ρ0 : Type} {ret : Option FieldType} {encR : ρ0 → Option Value} {post : ρ0 → f_Mem → Prop} (hx : p.tables.exec = Jvm.exec) (hb : c.code = cc) (hml : c.maxLocals = nL) (hown : s.vm.findClass own = some m.cls) (hts : ∀ w ∈ tb, w.before args s = true) (hK : f_K E s) (hI : f_I E S) (hA : ∀ k, k < S.1 → A (f_ad E k)) (hA2 : ∀ q, s.heap.size ≤ q → A q) : r_astQ cc own ret D E S encR post (f_GG p e D s m args below meth c Q A E S nL) := by
  intro pc L st σ n len r fs i hd h0 h1 h2 h3 h4 h5 kk0 H locs ls hP hS hl
  have he := f_wl_at E S σ h0
  rw [f_cell_q h1] at he
  have hv := f_wl_at E S σ h3
  rw [f_cell_o h4] at hv
  refine va_astq (r := (RX2, TX2, 5)) hx hb hK hP (f_D hI hA σ) hS n 1 r 2 he rfl hv rfl h2 hd (fun H1 locs1 hP1 _ hS1 => ?_)
  rw [f_wl_set (f := upd (σ n) i.toNatClampNeg (Int32.ofNat r)) h0 (by
    rw [f_cell_q h1]; unfold m_row; rw [if_pos rfl]
    congr 2; congr 1; congr 1; congr 1; congr 1; congr 1
    funext j
    unfold upd va_up
    by_cases hj : j = i.toNatClampNeg
    · rw [if_pos hj, if_pos hj, Int32.toNatClampNeg_ofNat_of_lt h5]
    · rw [if_neg hj, if_neg hj])] at hP1
  exact kk0 H1 locs1 ls hP1 hS1 hl
theorem s_max {ρ0 : Type} {ret : Option FieldType} {encR : ρ0 → Option Value} {post : ρ0 → f_Mem → Prop} (hx : p.tables.exec = Jvm.exec) (hb : c.code = cc) (hml : c.maxLocals = nL) (hown : s.vm.findClass own = some m.cls) (hts : ∀ w ∈ tb, w.before args s = true) (hK : f_K E s) (hI : f_I E S) (hA : ∀ k, k < S.1 → A (f_ad E k)) (hA2 : ∀ q, s.heap.size ≤ q → A q) : r_max cc own ret D E S encR post (f_GG p e D s m args below meth c Q A E S nL) := by
  intro pc L st σ i x y hd h0 h1 h2 kk0 H locs ls hP hS hl
  have h3 : (st.map fun v => v.category).sum + 13 ≤ (f_rm D).locals := by show _ ≤ 60 * D; omega
  exact va_mmax hx hb (hml.trans hl.1.1.symm) hown (hts _ h0) (hts _ tb_max1) (hts _ tb_math) (hts _ tb_max2) h1 h3 (Nat.zero_le _) (Nat.zero_le _) hd (kk0 H locs ls hP hS hl)
theorem s_min {ρ0 : Type} {ret : Option FieldType} {encR : ρ0 → Option Value} {post : ρ0 → f_Mem → Prop} (hx : p.tables.exec = Jvm.exec) (hb : c.code = cc) (hml : c.maxLocals = nL) (hown : s.vm.findClass own = some m.cls) (hts : ∀ w ∈ tb, w.before args s = true) (hK : f_K E s) (hI : f_I E S) (hA : ∀ k, k < S.1 → A (f_ad E k)) (hA2 : ∀ q, s.heap.size ≤ q → A q) : r_min cc own ret D E S encR post (f_GG p e D s m args below meth c Q A E S nL) := by
  intro pc L st σ i x y hd h0 h1 h2 kk0 H locs ls hP hS hl
  have h3 : (st.map fun v => v.category).sum + 13 ≤ (f_rm D).locals := by show _ ≤ 60 * D; omega
  exact va_mmin hx hb (hml.trans hl.1.1.symm) hown (hts _ h0) (hts _ tb_min1) (hts _ tb_math) (hts _ tb_min2) h1 h3 (Nat.zero_le _) (Nat.zero_le _) hd (kk0 H locs ls hP hS hl)
theorem s_copy {ρ0 : Type} {ret : Option FieldType} {encR : ρ0 → Option Value} {post : ρ0 → f_Mem → Prop} (hx : p.tables.exec = Jvm.exec) (hb : c.code = cc) (hml : c.maxLocals = nL) (hown : s.vm.findClass own = some m.cls) (hts : ∀ w ∈ tb, w.before args s = true) (hK : f_K E s) (hI : f_I E S) (hA : ∀ k, k < S.1 → A (f_ad E k)) (hA2 : ∀ q, s.heap.size ≤ q → A q) : r_copy cc own ret D E S encR post (f_GG p e D s m args below meth c Q A E S nL) := by
  intro pc L st σ i n0 n1 l0 l1 sp dp n hd h0 h1 h2 h3 h4 h5 h6 h7 h8 h9 h10 h11 kk0 H locs ls hP hS hl
  have he0 := f_wl_at E S σ h3
  rw [f_cell_i h5] at he0
  have he1 := f_wl_at E S σ h4
  rw [f_cell_i h6] at he1
  have hloc : (st.map fun v => v.category).sum + (nativeFrameWords "java/lang/System" "arraycopy" 5 + 11) ≤ (f_rm D).locals := by
    have h13 : nativeFrameWords "java/lang/System" "arraycopy" 5 ≤ 30 := by decide +kernel
    show _ ≤ 60 * D
    omega
  refine va_copyi hx hb (hml.trans hl.1.1.symm) hown (hts _ h0) (hts _ tb_copy1) (hts _ tb_copy2) (hts _ tb_sys) hK hP (f_D hI hA σ) hS n0 n1 0 0 (ty := .int) he0 he1 rfl rfl rfl h7 h8 h9 h10 h11 (fun _ _ => rfl) h1 hloc hd (fun H1 locs1 hP1 _ hS1 => ?_)
  rw [f_wl_set (f := va_cpy (σ n0) (σ n1) sp.toNatClampNeg dp.toNatClampNeg n.toNatClampNeg) h4 (by rw [f_cell_i h6]; unfold m_row; rw [if_pos rfl])] at hP1
  exact kk0 H1 locs1 ls hP1 hS1 hl
theorem s_callV {ρ0 : Type} {ret : Option FieldType} {encR : ρ0 → Option Value} {post : ρ0 → f_Mem → Prop} (hx : p.tables.exec = Jvm.exec) (hb : c.code = cc) (hml : c.maxLocals = nL) (hown : s.vm.findClass own = some m.cls) (hts : ∀ w ∈ tb, w.before args s = true) (hK : f_K E s) (hI : f_I E S) (hA : ∀ k, k < S.1 → A (f_ad E k)) (hA2 : ∀ q, s.heap.size ≤ q → A q) : r_callV cc own ret D E S encR post (f_GG p e D s m args below meth c Q A E S nL) := by
  intro ρ pc L rest As σ i ci n d fs Y enc post2 hd h0 h1 h2 h3 hM9 h5 h6 kk0 H locs ls hP hS hl
  have he := f_wl_at E S σ h1
  rw [f_cell_o h2] at he
  obtain ⟨lc, li, ls9, lk, lh⟩ := h0
  obtain ⟨q, hq, hq2⟩ := Option.map_eq_some_iff.mp h3
  have hrec := va_recv hK hP hq he
  rw [hq2] at hrec
  have hroom : 2 * (F0 m pc ls (As.reverse ++ .ref (f_ad E n) :: rest)).monitorRoom + (rest.map fun v => v.category).sum ≤ 8 := lv_room h6
  have hpre : PreV s H Y.1.cls (f_ad E n) (f_Pc E S (.ref (f_ad E n) :: As) σ H.size) As := ⟨f_FB, hrec, fun U hU hW => ⟨rfl, by rw [hU], by rw [hU]; exact hP, va_K.moved hW.alike hK, hI⟩⟩
  have hA1 : ∀ q, f_A E S H.size q → A q := fun q h => by
    rcases h with ⟨k9, h8, rfl⟩ | h
    · exact hA k9 h8
    · exact hA2 q (Nat.le_trans hS.1 h)
  rcases lk with lk | ⟨host, lk⟩
  · exact f_call (va_runV (C := Y.1.cls) ⟨hx, hb, hml, hown, hts⟩ (hM9 H.size) ⟨f_pay hts lc lh h5 (hts _ lk), hts _ li, hts _ ls9⟩ hpre rfl rfl hl.1.1 rfl hroom hd ⟨Nat.zero_le _, Nat.zero_le _⟩) hS (fun q _ h => hA1 q h) hA1 (fun r u H1 locs1 hp hP1 hS1 => kk0 r u hp H1 locs1 ls hP1 hS1 hl)
  · exact f_call (va_runVN (C := Y.1.cls) ⟨hx, hb, hml, hown, hts⟩ (hM9 H.size) ⟨f_payN hts lc lh h5 (va_Nw.of rfl (hts _ lk)), hts _ li, hts _ ls9⟩ hpre rfl rfl hl.1.1 rfl hroom hd ⟨Nat.zero_le _, Nat.zero_le _⟩) hS (fun q _ h => hA1 q h) hA1 (fun r u H1 locs1 hp hP1 hS1 => kk0 r u hp H1 locs1 ls hP1 hS1 hl)
theorem s_callS {ρ0 : Type} {ret : Option FieldType} {encR : ρ0 → Option Value} {post : ρ0 → f_Mem → Prop} (hx : p.tables.exec = Jvm.exec) (hb : c.code = cc) (hml : c.maxLocals = nL) (hown : s.vm.findClass own = some m.cls) (hts : ∀ w ∈ tb, w.before args s = true) (hK : f_K E s) (hI : f_I E S) (hA : ∀ k, k < S.1 → A (f_ad E k)) (hA2 : ∀ q, s.heap.size ≤ q → A q) : r_callS cc own ret D E S encR post (f_GG p e D s m args below meth c Q A E S nL) := by
  intro ρ pc L rest As σ i d Y enc post2 hd h0 hM9 h2 h3 kk0 H locs ls hP hS hl
  obtain ⟨lc, li, lk, lh⟩ := h0
  have hroom : 2 * (F0 m pc ls (As.reverse ++ rest)).monitorRoom + (rest.map fun v => v.category).sum ≤ 8 := lv_room h3
  have hpre : PreS s H (f_Pc E S As σ H.size) As := ⟨f_FB, fun U hU hW => ⟨rfl, by rw [hU], by rw [hU]; exact hP, va_K.moved hW.alike hK, hI⟩⟩
  have hA1 : ∀ q, f_A E S H.size q → A q := fun q h => by
    rcases h with ⟨k9, h8, rfl⟩ | h
    · exact hA k9 h8
    · exact hA2 q (Nat.le_trans hS.1 h)
  rcases lk with lk | ⟨host, lk⟩
  · exact f_call (va_runS ⟨hx, hb, hml, hown, hts⟩ (hM9 H.size) ⟨f_pay hts lc lh h2 (hts _ lk), hts _ li⟩ hpre rfl rfl hl.1.1 rfl hroom hd ⟨Nat.zero_le _, Nat.zero_le _⟩) hS (fun q _ h => hA1 q h) hA1 (fun r u H1 locs1 hp hP1 hS1 => kk0 r u hp H1 locs1 ls hP1 hS1 hl)
  · exact f_call (va_runSN ⟨hx, hb, hml, hown, hts⟩ (hM9 H.size) ⟨f_payN hts lc lh h2 (va_Nw.of rfl (hts _ lk)), hts _ li, trivial⟩ hpre rfl rfl hl.1.1 rfl hroom hd ⟨Nat.zero_le _, Nat.zero_le _⟩) hS (fun q _ h => hA1 q h) hA1 (fun r u H1 locs1 hp hP1 hS1 => kk0 r u hp H1 locs1 ls hP1 hS1 hl)
end FLAT

def f_L0 (nL : Nat) (av : List Value) : f_L := (av.flatMap (fun v => if v.category = 2 then [some v, none] else [some v])) ++ List.replicate (nL - (lg_sl av).length) none
theorem f_L0_mem : ∀ (av : List Value) (i : Nat) (q : Nat × Value) (k : Nat), q ∈ f_lv i (av.flatMap (fun v => if v.category = 2 then [some v, none] else [some v]) ++ List.replicate k none) → q ∈ lv_args i av
  | [], i, q, k => by
    intro h
    obtain ⟨j, -, h2⟩ := (f_lv_mem _ _ _).mp h
    simp only [List.flatMap_nil, List.nil_append] at h2
    have := List.eq_of_mem_replicate (List.mem_of_getElem? h2)
    cases this
  | v :: t, i, q, k => by
    intro h
    simp only [List.flatMap_cons, List.append_assoc] at h
    simp only [lv_args]
    by_cases hv : v.category = 2
    · rw [if_pos hv] at h ⊢
      simp only [List.cons_append, List.nil_append, f_lv, List.mem_cons] at h
      rcases h with h | h
      · rw [h]; exact List.mem_cons_self
      · exact List.mem_cons_of_mem _ (f_L0_mem t (i + 2) q k h)
    · rw [if_neg hv] at h ⊢
      simp only [List.cons_append, List.nil_append, f_lv, List.mem_cons] at h
      rcases h with h | h
      · rw [h]; exact List.mem_cons_self
      · exact List.mem_cons_of_mem _ (f_L0_mem t (i + 1) q k h)
theorem f_lg_len : ∀ av : List Value, (av.flatMap (fun v => if v.category = 2 then [(some v : Option Value), none] else [some v])).length = (lg_sl av).length
  | [] => rfl
  | v :: t => by
    have h := f_lg_len t
    simp only [List.flatMap_cons, List.length_append, lg_sl] at h ⊢
    rw [h]
    congr 1
    rcases lv_cat v with hv | hv <;> simp [hv]
/-- a contract out of a walk with the rules alone -/
theorem FM.intro {ρ0 : Type} {E : f_E} {S : f_S} {Y : f_Y} {D : Nat} {av : List Value} {σ : f_Mem} {encR : ρ0 → Option Value} {post : ρ0 → f_Mem → Prop} (hy : plainName Y.1.cls = true) (hn : (lg_sl av).length ≤ Y.2.2.1) {L0 : f_L} (hL0 : f_L0 Y.2.2.1 av = L0)
    (h : ∀ G : f_G, Rul Y.2.1 Y.1.cls Y.2.2.2 D E S encR post G → G 0 L0 [] σ) : FM E S Y D av σ encR post := by
  intro sz
  refine Met.ofW (cc := Y.2.1) (maxL := Y.2.2.1) (ret := Y.2.2.2) hy rfl ?_
  intro p e s m args below meth c s₁ B hml hv
  obtain ⟨rfl, rfl, hP, hK, hI⟩ := hv
  have hx := B.exec
  have hb := B.bytes
  have hr := B.returns
  have hts0 := atoms_spec (ws := Cond.code Y.1 Y.2.1 Y.2.2.1 Y.2.2.2 :: tb) B.pre
  have hts : ∀ w ∈ tb, w.before av.toArray s = true := fun w hw => hts0 w (List.mem_cons_of_mem _ hw)
  have hown : s.vm.findClass Y.1.cls = some m.cls := findClass_of_methodNamed B.named
  have hlocks := B.notSynchronized
  have hA : ∀ k, k < S.1 → f_A E S s.heap.size (f_ad E k) := fun k hk => Or.inl ⟨k, hk, rfl⟩
  have hA2 : ∀ q, s.heap.size ≤ q → f_A E S s.heap.size q := fun q hq => Or.inr hq
  rw [lg_entry_eq]
  have hl := lv_entry av hn
  have hls : f_ls ((lg_sl av ++ List.replicate (Y.2.2.1 - (lg_sl av).length) Slot.unset).toArray) Y.2.2.1 L0 := by
    subst hL0
    refine ⟨⟨hl.1, hl.2.1, fun q hq => hl.2.2 q (f_L0_mem av 0 q _ hq)⟩, ?_⟩
    unfold f_L0
    rw [List.length_append, List.length_replicate, f_lg_len]
    omega
  refine h (f_GG p e D s m av.toArray below meth c (MQ below (f_Q E S encR post (f_A E S s.heap.size)) av.toArray s 0 0 (f_A E S s.heap.size)) (f_A E S s.heap.size) E S Y.2.2.1) ?_ s.heap [] _ hP va_S.rf hls
  refine ⟨s_iadd hx hb hml hown hts hK hI hA hA2, s_isub hx hb hml hown hts hK hI hA hA2, s_imul hx hb hml hown hts hK hI hA hA2, s_idiv hx hb hml hown hts hK hI hA hA2, s_irem hx hb hml hown hts hK hI hA hA2, s_iand hx hb hml hown hts hK hI hA hA2, s_ior hx hb hml hown hts hK hI hA hA2, s_ixor hx hb hml hown hts hK hI hA hA2, s_ishl hx hb hml hown hts hK hI hA hA2, s_ishr hx hb hml hown hts hK hI hA hA2, s_iushr hx hb hml hown hts hK hI hA hA2, s_ladd hx hb hml hown hts hK hI hA hA2, s_lmul hx hb hml hown hts hK hI hA hA2, s_ldiv hx hb hml hown hts hK hI hA hA2, s_lrem hx hb hml hown hts hK hI hA hA2, s_i2l hx hb hml hown hts hK hI hA hA2, s_l2i hx hb hml hown hts hK hI hA hA2, s_lcmp hx hb hml hown hts hK hI hA hA2, s_iconst hx hb hml hown hts hK hI hA hA2, s_bipush hx hb hml hown hts hK hI hA hA2, s_sipush hx hb hml hown hts hK hI hA hA2, s_lconst hx hb hml hown hts hK hI hA hA2, s_ldc hx hb hml hown hts hK hI hA hA2, s_ldcw hx hb hml hown hts hK hI hA hA2, s_ldc2 hx hb hml hown hts hK hI hA hA2, s_null hx hb hml hown hts hK hI hA hA2, s_dup hx hb hml hown hts hK hI hA hA2, s_dup2 hx hb hml hown hts hK hI hA hA2, s_pop hx hb hml hown hts hK hI hA hA2, s_icmp_eq hx hb hml hown hts hK hI hA hA2, s_icmp_ne hx hb hml hown hts hK hI hA hA2, s_icmp_lt hx hb hml hown hts hK hI hA hA2, s_icmp_ge hx hb hml hown hts hK hI hA hA2, s_icmp_gt hx hb hml hown hts hK hI hA hA2, s_icmp_le hx hb hml hown hts hK hI hA hA2, s_if_eq hx hb hml hown hts hK hI hA hA2, s_if_ne hx hb hml hown hts hK hI hA hA2, s_if_lt hx hb hml hown hts hK hI hA hA2, s_if_ge hx hb hml hown hts hK hI hA hA2, s_if_gt hx hb hml hown hts hK hI hA hA2, s_if_le hx hb hml hown hts hK hI hA hA2, s_goto hx hb hml hown hts hK hI hA hA2, s_ifnull hx hb hml hown hts hK hI hA hA2, s_ifnullN hx hb hml hown hts hK hI hA hA2, s_ifnonnull hx hb hml hown hts hK hI hA hA2, s_ifnonnullN hx hb hml hown hts hK hI hA hA2, s_tblIn hx hb hml hown hts hK hI hA hA2, s_tblOut hx hb hml hown hts hK hI hA hA2, s_iload_n hx hb hml hown hts hK hI hA hA2, s_iload hx hb hml hown hts hK hI hA hA2, s_aload_n hx hb hml hown hts hK hI hA hA2, s_aload hx hb hml hown hts hK hI hA hA2, s_aloadN_n hx hb hml hown hts hK hI hA hA2, s_aloadN hx hb hml hown hts hK hI hA hA2, s_lload_n hx hb hml hown hts hK hI hA hA2, s_lload hx hb hml hown hts hK hI hA hA2, s_istore_n hx hb hml hown hts hK hI hA hA2, s_istore hx hb hml hown hts hK hI hA hA2, s_astore_n hx hb hml hown hts hK hI hA hA2, s_astore hx hb hml hown hts hK hI hA hA2, s_astoreN_n hx hb hml hown hts hK hI hA hA2, s_astoreN hx hb hml hown hts hK hI hA hA2, s_lstore_n hx hb hml hown hts hK hI hA hA2, s_lstore hx hb hml hown hts hK hI hA hA2, s_iinc hx hb hml hown hts hK hI hA hA2, s_getI hx hb hml hown hts hK hI hA hA2, s_getR hx hb hml hown hts hK hI hA hA2, s_getN hx hb hml hown hts hK hI hA hA2, s_put hx hb hml hown hts hK hI hA hA2, s_ald hx hb hml hown hts hK hI hA hA2, s_ast hx hb hml hown hts hK hI hA hA2, s_alenI hx hb hml hown hts hK hI hA hA2, s_alenQ hx hb hml hown hts hK hI hA hA2, s_aldQ hx hb hml hown hts hK hI hA hA2, s_astQ hx hb hml hown hts hK hI hA hA2, s_max hx hb hml hown hts hK hI hA hA2, s_min hx hb hml hown hts hK hI hA hA2, s_copy hx hb hml hown hts hK hI hA hA2, s_callV hx hb hml hown hts hK hI hA hA2, s_callS hx hb hml hown hts hK hI hA hA2, ?_, ?_, ?_, ?_⟩

  · intro pc L σ v ty hd h0 h1 hq H locs ls hP hS hl
    obtain ⟨r, hr1, hr2⟩ := hq
    exact W.zret hx hb (hr.trans h0) h1 (fun t ht hW => ⟨⟨r, σ, by rw [hr1], hr2, by rw [ht]; exact hP, va_K.moved hW.alike hK⟩, hS.F ht⟩) hS.2.2 hd hlocks
  · intro pc L σ hd h0 hq H locs ls hP hS hl
    obtain ⟨r, hr1, hr2⟩ := hq
    exact W.vret hx hb (hr.trans h0) (fun t ht hW => ⟨⟨r, σ, by rw [hr1], hr2, by rw [ht]; exact hP, va_K.moved hW.alike hK⟩, hS.F ht⟩) hS.2.2 hd hlocks
  · intro pc L σ v hd h0 hq H locs ls hP hS hl
    obtain ⟨r, hr1, hr2⟩ := hq
    exact W.lret hx hb (hr.trans h0) (fun t ht hW => ⟨⟨r, σ, by rw [hr1], hr2, by rw [ht]; exact hP, va_K.moved hW.alike hK⟩, hS.F ht⟩) hS.2.2 hd hlocks
  · intro pc L σ v cn hd h0 h1 hq H locs ls hP hS hl
    obtain ⟨r, hr1, hr2⟩ := hq
    exact W.aret hx hb (hr.trans h0) (Or.inl ⟨cn, rfl⟩) h1 (fun t ht hW => ⟨⟨r, σ, by rw [hr1], hr2, by rw [ht]; exact hP, va_K.moved hW.alike hK⟩, hS.F ht⟩) hS.2.2 hd hlocks
end
