section
-- ===== PART A: goes FIRST, ahead of the names: the tables' words, and 'selects' of the private methods out of them =====
/-- a private method of a class that the tables say can be made, by its rows of tables_1 -/
def lw_okq (q : MethodName × Nat) : Prop := (q.1.cls ≠ "java/lang/invoke/MethodHandle" ∧ q.1.cls ≠ "java/lang/invoke/VarHandle") ∧ Cond.instantiable q.1.cls q.2 ∈ tables_1 ∧ Cond.privateMethod q.1 ∈ tables_1 ∧ Cond.instanceMethod q.1 ∈ tables_1
theorem lw_p0 : lw_okq (⟨"EvenTables", "slotAt", "(I)LEvenTables$Table;"⟩, 9) := ⟨⟨by decide +kernel, by decide +kernel⟩, List.mem_of_getElem? (i := 20) (by decide +kernel), List.mem_of_getElem? (i := 339) (by decide +kernel), List.mem_of_getElem? (i := 340) (by decide +kernel)⟩
theorem lw_p1 : lw_okq (⟨"EvenTables$Tape", "readPiece", "()V"⟩, 10) := ⟨⟨by decide +kernel, by decide +kernel⟩, List.mem_of_getElem? (i := 30) (by decide +kernel), List.mem_of_getElem? (i := 351) (by decide +kernel), List.mem_of_getElem? (i := 352) (by decide +kernel)⟩
theorem lw_p2 : lw_okq (⟨"EvenTables$Tape", "isBlank", "(I)Z"⟩, 10) := ⟨⟨by decide +kernel, by decide +kernel⟩, List.mem_of_getElem? (i := 30) (by decide +kernel), List.mem_of_getElem? (i := 355) (by decide +kernel), List.mem_of_getElem? (i := 356) (by decide +kernel)⟩
theorem lw_p3 : lw_okq (⟨"EvenTables$Tape", "isSign", "(II)Z"⟩, 10) := ⟨⟨by decide +kernel, by decide +kernel⟩, List.mem_of_getElem? (i := 30) (by decide +kernel), List.mem_of_getElem? (i := 359) (by decide +kernel), List.mem_of_getElem? (i := 360) (by decide +kernel)⟩
theorem lw_p4 : lw_okq (⟨"EvenTables$Tape", "closeRow", "()V"⟩, 10) := ⟨⟨by decide +kernel, by decide +kernel⟩, List.mem_of_getElem? (i := 30) (by decide +kernel), List.mem_of_getElem? (i := 363) (by decide +kernel), List.mem_of_getElem? (i := 364) (by decide +kernel)⟩
theorem lw_p5 : lw_okq (⟨"EvenTables$Tape", "fail", "(II)V"⟩, 10) := ⟨⟨by decide +kernel, by decide +kernel⟩, List.mem_of_getElem? (i := 30) (by decide +kernel), List.mem_of_getElem? (i := 367) (by decide +kernel), List.mem_of_getElem? (i := 368) (by decide +kernel)⟩
theorem lw_p6 : lw_okq (⟨"EvenTables$Tape", "isDigit", "(I)Z"⟩, 10) := ⟨⟨by decide +kernel, by decide +kernel⟩, List.mem_of_getElem? (i := 30) (by decide +kernel), List.mem_of_getElem? (i := 371) (by decide +kernel), List.mem_of_getElem? (i := 372) (by decide +kernel)⟩
theorem lw_p7 : lw_okq (⟨"EvenTables$Tape", "readFraction", "()V"⟩, 10) := ⟨⟨by decide +kernel, by decide +kernel⟩, List.mem_of_getElem? (i := 30) (by decide +kernel), List.mem_of_getElem? (i := 375) (by decide +kernel), List.mem_of_getElem? (i := 376) (by decide +kernel)⟩
theorem lw_p8 : lw_okq (⟨"EvenTables$Tape", "countDigits", "()I"⟩, 10) := ⟨⟨by decide +kernel, by decide +kernel⟩, List.mem_of_getElem? (i := 30) (by decide +kernel), List.mem_of_getElem? (i := 379) (by decide +kernel), List.mem_of_getElem? (i := 380) (by decide +kernel)⟩
theorem lw_p9 : lw_okq (⟨"EvenTables$Tape", "readNumber", "()I"⟩, 10) := ⟨⟨by decide +kernel, by decide +kernel⟩, List.mem_of_getElem? (i := 30) (by decide +kernel), List.mem_of_getElem? (i := 383) (by decide +kernel), List.mem_of_getElem? (i := 384) (by decide +kernel)⟩
theorem lw_p10 : lw_okq (⟨"EvenTables$Tape", "readDivisor", "()I"⟩, 10) := ⟨⟨by decide +kernel, by decide +kernel⟩, List.mem_of_getElem? (i := 30) (by decide +kernel), List.mem_of_getElem? (i := 387) (by decide +kernel), List.mem_of_getElem? (i := 388) (by decide +kernel)⟩
theorem lw_p11 : lw_okq (⟨"EvenTables$Tape", "skipBlanks", "()V"⟩, 10) := ⟨⟨by decide +kernel, by decide +kernel⟩, List.mem_of_getElem? (i := 30) (by decide +kernel), List.mem_of_getElem? (i := 391) (by decide +kernel), List.mem_of_getElem? (i := 392) (by decide +kernel)⟩
theorem lw_p12 : lw_okq (⟨"EvenTables$Tape", "keepFraction", "(II)V"⟩, 10) := ⟨⟨by decide +kernel, by decide +kernel⟩, List.mem_of_getElem? (i := 30) (by decide +kernel), List.mem_of_getElem? (i := 395) (by decide +kernel), List.mem_of_getElem? (i := 396) (by decide +kernel)⟩
theorem lw_p13 : lw_okq (⟨"EvenTables$Tape", "checkEnd", "()V"⟩, 10) := ⟨⟨by decide +kernel, by decide +kernel⟩, List.mem_of_getElem? (i := 30) (by decide +kernel), List.mem_of_getElem? (i := 402) (by decide +kernel), List.mem_of_getElem? (i := 403) (by decide +kernel)⟩
theorem lw_p14 : lw_okq (⟨"EvenTables$Tape", "fill", "(LEvenTables$Table;)V"⟩, 10) := ⟨⟨by decide +kernel, by decide +kernel⟩, List.mem_of_getElem? (i := 30) (by decide +kernel), List.mem_of_getElem? (i := 406) (by decide +kernel), List.mem_of_getElem? (i := 407) (by decide +kernel)⟩
theorem lw_p15 : lw_okq (⟨"EvenTables$Tape", "commonBelow", "()I"⟩, 10) := ⟨⟨by decide +kernel, by decide +kernel⟩, List.mem_of_getElem? (i := 30) (by decide +kernel), List.mem_of_getElem? (i := 410) (by decide +kernel), List.mem_of_getElem? (i := 411) (by decide +kernel)⟩
def lw_privs_1 : List (MethodName × Nat) := [(⟨"EvenTables", "slotAt", "(I)LEvenTables$Table;"⟩, 9), (⟨"EvenTables$Tape", "readPiece", "()V"⟩, 10), (⟨"EvenTables$Tape", "isBlank", "(I)Z"⟩, 10), (⟨"EvenTables$Tape", "isSign", "(II)Z"⟩, 10), (⟨"EvenTables$Tape", "closeRow", "()V"⟩, 10), (⟨"EvenTables$Tape", "fail", "(II)V"⟩, 10), (⟨"EvenTables$Tape", "isDigit", "(I)Z"⟩, 10), (⟨"EvenTables$Tape", "readFraction", "()V"⟩, 10), (⟨"EvenTables$Tape", "countDigits", "()I"⟩, 10), (⟨"EvenTables$Tape", "readNumber", "()I"⟩, 10), (⟨"EvenTables$Tape", "readDivisor", "()I"⟩, 10), (⟨"EvenTables$Tape", "skipBlanks", "()V"⟩, 10), (⟨"EvenTables$Tape", "keepFraction", "(II)V"⟩, 10), (⟨"EvenTables$Tape", "checkEnd", "()V"⟩, 10), (⟨"EvenTables$Tape", "fill", "(LEvenTables$Table;)V"⟩, 10), (⟨"EvenTables$Tape", "commonBelow", "()I"⟩, 10)]
theorem lw_r1 : ∀ q ∈ lw_privs_1, lw_okq q := List.forall_mem_cons.mpr ⟨lw_p0, List.forall_mem_cons.mpr ⟨lw_p1, List.forall_mem_cons.mpr ⟨lw_p2, List.forall_mem_cons.mpr ⟨lw_p3, List.forall_mem_cons.mpr ⟨lw_p4, List.forall_mem_cons.mpr ⟨lw_p5, List.forall_mem_cons.mpr ⟨lw_p6, List.forall_mem_cons.mpr ⟨lw_p7, List.forall_mem_cons.mpr ⟨lw_p8, List.forall_mem_cons.mpr ⟨lw_p9, List.forall_mem_cons.mpr ⟨lw_p10, List.forall_mem_cons.mpr ⟨lw_p11, List.forall_mem_cons.mpr ⟨lw_p12, List.forall_mem_cons.mpr ⟨lw_p13, List.forall_mem_cons.mpr ⟨lw_p14, List.forall_mem_cons.mpr ⟨lw_p15, fun _ h => absurd h List.not_mem_nil⟩⟩⟩⟩⟩⟩⟩⟩⟩⟩⟩⟩⟩⟩⟩⟩
theorem lw_p16 : lw_okq (⟨"EvenTables$Tape", "areCells", "(I)Z"⟩, 10) := ⟨⟨by decide +kernel, by decide +kernel⟩, List.mem_of_getElem? (i := 30) (by decide +kernel), List.mem_of_getElem? (i := 420) (by decide +kernel), List.mem_of_getElem? (i := 421) (by decide +kernel)⟩
theorem lw_p17 : lw_okq (⟨"EvenTables", "filledSlot", "(I)LEvenTables$Table;"⟩, 9) := ⟨⟨by decide +kernel, by decide +kernel⟩, List.mem_of_getElem? (i := 20) (by decide +kernel), List.mem_of_getElem? (i := 508) (by decide +kernel), List.mem_of_getElem? (i := 509) (by decide +kernel)⟩
theorem lw_p18 : lw_okq (⟨"EvenTables", "areLike", "(III)Z"⟩, 9) := ⟨⟨by decide +kernel, by decide +kernel⟩, List.mem_of_getElem? (i := 20) (by decide +kernel), List.mem_of_getElem? (i := 520) (by decide +kernel), List.mem_of_getElem? (i := 521) (by decide +kernel)⟩
theorem lw_p19 : lw_okq (⟨"EvenTables$Maker", "bring", "(JILEvenTables$Table;)Z"⟩, 1) := ⟨⟨by decide +kernel, by decide +kernel⟩, List.mem_of_getElem? (i := 71) (by decide +kernel), List.mem_of_getElem? (i := 535) (by decide +kernel), List.mem_of_getElem? (i := 536) (by decide +kernel)⟩
theorem lw_p20 : lw_okq (⟨"EvenTables$Maker", "sharedDivisor", "(JI)J"⟩, 1) := ⟨⟨by decide +kernel, by decide +kernel⟩, List.mem_of_getElem? (i := 71) (by decide +kernel), List.mem_of_getElem? (i := 539) (by decide +kernel), List.mem_of_getElem? (i := 540) (by decide +kernel)⟩
theorem lw_p21 : lw_okq (⟨"EvenTables$Maker", "areCells", "(JI)Z"⟩, 1) := ⟨⟨by decide +kernel, by decide +kernel⟩, List.mem_of_getElem? (i := 71) (by decide +kernel), List.mem_of_getElem? (i := 545) (by decide +kernel), List.mem_of_getElem? (i := 546) (by decide +kernel)⟩
theorem lw_p22 : lw_okq (⟨"EvenTables", "evenSlot", "(I)LEvenTables$Table;"⟩, 9) := ⟨⟨by decide +kernel, by decide +kernel⟩, List.mem_of_getElem? (i := 20) (by decide +kernel), List.mem_of_getElem? (i := 574) (by decide +kernel), List.mem_of_getElem? (i := 575) (by decide +kernel)⟩
theorem lw_p23 : lw_okq (⟨"EvenTables", "keepParts", "(I)I"⟩, 9) := ⟨⟨by decide +kernel, by decide +kernel⟩, List.mem_of_getElem? (i := 20) (by decide +kernel), List.mem_of_getElem? (i := 592) (by decide +kernel), List.mem_of_getElem? (i := 593) (by decide +kernel)⟩
theorem lw_p24 : lw_okq (⟨"EvenTables$Peeler", "choose", "(I)Z"⟩, 6) := ⟨⟨by decide +kernel, by decide +kernel⟩, List.mem_of_getElem? (i := 104) (by decide +kernel), List.mem_of_getElem? (i := 600) (by decide +kernel), List.mem_of_getElem? (i := 601) (by decide +kernel)⟩
theorem lw_p25 : lw_okq (⟨"EvenTables$Choices", "nextColumn", "(IIII)I"⟩, 4) := ⟨⟨by decide +kernel, by decide +kernel⟩, List.mem_of_getElem? (i := 82) (by decide +kernel), List.mem_of_getElem? (i := 623) (by decide +kernel), List.mem_of_getElem? (i := 624) (by decide +kernel)⟩
theorem lw_p26 : lw_okq (⟨"EvenTables$Peeler", "leastPlace", "()I"⟩, 6) := ⟨⟨by decide +kernel, by decide +kernel⟩, List.mem_of_getElem? (i := 104) (by decide +kernel), List.mem_of_getElem? (i := 627) (by decide +kernel), List.mem_of_getElem? (i := 628) (by decide +kernel)⟩
theorem lw_p27 : lw_okq (⟨"EvenTables$Choices", "sumUp", "([IJI)V"⟩, 4) := ⟨⟨by decide +kernel, by decide +kernel⟩, List.mem_of_getElem? (i := 82) (by decide +kernel), List.mem_of_getElem? (i := 640) (by decide +kernel), List.mem_of_getElem? (i := 641) (by decide +kernel)⟩
theorem lw_p28 : lw_okq (⟨"EvenTables$Choices", "richestColumn", "([IIIII)I"⟩, 4) := ⟨⟨by decide +kernel, by decide +kernel⟩, List.mem_of_getElem? (i := 82) (by decide +kernel), List.mem_of_getElem? (i := 644) (by decide +kernel), List.mem_of_getElem? (i := 645) (by decide +kernel)⟩
theorem lw_p29 : lw_okq (⟨"EvenTables$Seeker", "addWeight", "(I)V"⟩, 5) := ⟨⟨by decide +kernel, by decide +kernel⟩, List.mem_of_getElem? (i := 170) (by decide +kernel), List.mem_of_getElem? (i := 712) (by decide +kernel), List.mem_of_getElem? (i := 713) (by decide +kernel)⟩
theorem lw_p30 : lw_okq (⟨"EvenTables$Choices", "multiplySet", "([III)J"⟩, 4) := ⟨⟨by decide +kernel, by decide +kernel⟩, List.mem_of_getElem? (i := 82) (by decide +kernel), List.mem_of_getElem? (i := 768) (by decide +kernel), List.mem_of_getElem? (i := 769) (by decide +kernel)⟩
theorem lw_p31 : lw_okq (⟨"EvenTables$Seeker", "isNewStep", "(II)Z"⟩, 5) := ⟨⟨by decide +kernel, by decide +kernel⟩, List.mem_of_getElem? (i := 170) (by decide +kernel), List.mem_of_getElem? (i := 781) (by decide +kernel), List.mem_of_getElem? (i := 782) (by decide +kernel)⟩
def lw_privs_2 : List (MethodName × Nat) := [(⟨"EvenTables$Tape", "areCells", "(I)Z"⟩, 10), (⟨"EvenTables", "filledSlot", "(I)LEvenTables$Table;"⟩, 9), (⟨"EvenTables", "areLike", "(III)Z"⟩, 9), (⟨"EvenTables$Maker", "bring", "(JILEvenTables$Table;)Z"⟩, 1), (⟨"EvenTables$Maker", "sharedDivisor", "(JI)J"⟩, 1), (⟨"EvenTables$Maker", "areCells", "(JI)Z"⟩, 1), (⟨"EvenTables", "evenSlot", "(I)LEvenTables$Table;"⟩, 9), (⟨"EvenTables", "keepParts", "(I)I"⟩, 9), (⟨"EvenTables$Peeler", "choose", "(I)Z"⟩, 6), (⟨"EvenTables$Choices", "nextColumn", "(IIII)I"⟩, 4), (⟨"EvenTables$Peeler", "leastPlace", "()I"⟩, 6), (⟨"EvenTables$Choices", "sumUp", "([IJI)V"⟩, 4), (⟨"EvenTables$Choices", "richestColumn", "([IIIII)I"⟩, 4), (⟨"EvenTables$Seeker", "addWeight", "(I)V"⟩, 5), (⟨"EvenTables$Choices", "multiplySet", "([III)J"⟩, 4), (⟨"EvenTables$Seeker", "isNewStep", "(II)Z"⟩, 5)]
theorem lw_r2 : ∀ q ∈ lw_privs_2, lw_okq q := List.forall_mem_cons.mpr ⟨lw_p16, List.forall_mem_cons.mpr ⟨lw_p17, List.forall_mem_cons.mpr ⟨lw_p18, List.forall_mem_cons.mpr ⟨lw_p19, List.forall_mem_cons.mpr ⟨lw_p20, List.forall_mem_cons.mpr ⟨lw_p21, List.forall_mem_cons.mpr ⟨lw_p22, List.forall_mem_cons.mpr ⟨lw_p23, List.forall_mem_cons.mpr ⟨lw_p24, List.forall_mem_cons.mpr ⟨lw_p25, List.forall_mem_cons.mpr ⟨lw_p26, List.forall_mem_cons.mpr ⟨lw_p27, List.forall_mem_cons.mpr ⟨lw_p28, List.forall_mem_cons.mpr ⟨lw_p29, List.forall_mem_cons.mpr ⟨lw_p30, List.forall_mem_cons.mpr ⟨lw_p31, fun _ h => absurd h List.not_mem_nil⟩⟩⟩⟩⟩⟩⟩⟩⟩⟩⟩⟩⟩⟩⟩⟩
theorem lw_p32 : lw_okq (⟨"EvenTables$Seeker", "finish", "(LEvenTables$Table;I)V"⟩, 5) := ⟨⟨by decide +kernel, by decide +kernel⟩, List.mem_of_getElem? (i := 170) (by decide +kernel), List.mem_of_getElem? (i := 793) (by decide +kernel), List.mem_of_getElem? (i := 794) (by decide +kernel)⟩
theorem lw_p33 : lw_okq (⟨"EvenTables$Rounder", "lay", "(LEvenTables$Table;)V"⟩, 5) := ⟨⟨by decide +kernel, by decide +kernel⟩, List.mem_of_getElem? (i := 195) (by decide +kernel), List.mem_of_getElem? (i := 805) (by decide +kernel), List.mem_of_getElem? (i := 806) (by decide +kernel)⟩
theorem lw_p34 : lw_okq (⟨"EvenTables$Rounder", "setBounds", "(IIII)V"⟩, 5) := ⟨⟨by decide +kernel, by decide +kernel⟩, List.mem_of_getElem? (i := 195) (by decide +kernel), List.mem_of_getElem? (i := 810) (by decide +kernel), List.mem_of_getElem? (i := 811) (by decide +kernel)⟩
theorem lw_p35 : lw_okq (⟨"EvenTables$Rounder", "meetLows", "(I)V"⟩, 5) := ⟨⟨by decide +kernel, by decide +kernel⟩, List.mem_of_getElem? (i := 195) (by decide +kernel), List.mem_of_getElem? (i := 814) (by decide +kernel), List.mem_of_getElem? (i := 815) (by decide +kernel)⟩
theorem lw_p36 : lw_okq (⟨"EvenTables$Rounder", "meetLow", "(II)V"⟩, 5) := ⟨⟨by decide +kernel, by decide +kernel⟩, List.mem_of_getElem? (i := 195) (by decide +kernel), List.mem_of_getElem? (i := 818) (by decide +kernel), List.mem_of_getElem? (i := 819) (by decide +kernel)⟩
theorem lw_p37 : lw_okq (⟨"EvenTables$Rounder", "findWay", "(II)Z"⟩, 5) := ⟨⟨by decide +kernel, by decide +kernel⟩, List.mem_of_getElem? (i := 195) (by decide +kernel), List.mem_of_getElem? (i := 822) (by decide +kernel), List.mem_of_getElem? (i := 823) (by decide +kernel)⟩
theorem lw_p38 : lw_okq (⟨"EvenTables$Rounder", "isOpen", "(II)Z"⟩, 5) := ⟨⟨by decide +kernel, by decide +kernel⟩, List.mem_of_getElem? (i := 195) (by decide +kernel), List.mem_of_getElem? (i := 826) (by decide +kernel), List.mem_of_getElem? (i := 827) (by decide +kernel)⟩
theorem lw_p39 : lw_okq (⟨"EvenTables$Rounder", "flowAlong", "(II)V"⟩, 5) := ⟨⟨by decide +kernel, by decide +kernel⟩, List.mem_of_getElem? (i := 195) (by decide +kernel), List.mem_of_getElem? (i := 830) (by decide +kernel), List.mem_of_getElem? (i := 831) (by decide +kernel)⟩
theorem lw_p40 : lw_okq (⟨"EvenTables$Rounder", "lessen", "(I)J"⟩, 5) := ⟨⟨by decide +kernel, by decide +kernel⟩, List.mem_of_getElem? (i := 195) (by decide +kernel), List.mem_of_getElem? (i := 834) (by decide +kernel), List.mem_of_getElem? (i := 835) (by decide +kernel)⟩
theorem lw_p41 : lw_okq (⟨"EvenTables$Shown", "putNumber", "(I)V"⟩, 2) := ⟨⟨by decide +kernel, by decide +kernel⟩, List.mem_of_getElem? (i := 217) (by decide +kernel), List.mem_of_getElem? (i := 885) (by decide +kernel), List.mem_of_getElem? (i := 886) (by decide +kernel)⟩
theorem lw_p42 : lw_okq (⟨"EvenTables$Shown", "put", "(I)V"⟩, 2) := ⟨⟨by decide +kernel, by decide +kernel⟩, List.mem_of_getElem? (i := 217) (by decide +kernel), List.mem_of_getElem? (i := 889) (by decide +kernel), List.mem_of_getElem? (i := 890) (by decide +kernel)⟩
theorem lw_p43 : lw_okq (⟨"EvenTablesModel", "isTable", "(I)Z"⟩, 43) := ⟨⟨by decide +kernel, by decide +kernel⟩, List.mem_of_getElem? (i := 946) (by decide +kernel), List.mem_of_getElem? (i := 1087) (by decide +kernel), List.mem_of_getElem? (i := 1088) (by decide +kernel)⟩
theorem lw_p44 : lw_okq (⟨"EvenTablesModel", "rowOf", "(II)J"⟩, 43) := ⟨⟨by decide +kernel, by decide +kernel⟩, List.mem_of_getElem? (i := 946) (by decide +kernel), List.mem_of_getElem? (i := 1098) (by decide +kernel), List.mem_of_getElem? (i := 1099) (by decide +kernel)⟩
theorem lw_p45 : lw_okq (⟨"EvenTablesModel", "at", "(III)I"⟩, 43) := ⟨⟨by decide +kernel, by decide +kernel⟩, List.mem_of_getElem? (i := 946) (by decide +kernel), List.mem_of_getElem? (i := 1102) (by decide +kernel), List.mem_of_getElem? (i := 1103) (by decide +kernel)⟩
theorem lw_p46 : lw_okq (⟨"EvenTablesModel", "columnOf", "(II)J"⟩, 43) := ⟨⟨by decide +kernel, by decide +kernel⟩, List.mem_of_getElem? (i := 946) (by decide +kernel), List.mem_of_getElem? (i := 1106) (by decide +kernel), List.mem_of_getElem? (i := 1107) (by decide +kernel)⟩
theorem lw_p47 : lw_okq (⟨"EvenTablesModel", "four", "(I)V"⟩, 43) := ⟨⟨by decide +kernel, by decide +kernel⟩, List.mem_of_getElem? (i := 946) (by decide +kernel), List.mem_of_getElem? (i := 1114) (by decide +kernel), List.mem_of_getElem? (i := 1115) (by decide +kernel)⟩
def lw_privs_3 : List (MethodName × Nat) := [(⟨"EvenTables$Seeker", "finish", "(LEvenTables$Table;I)V"⟩, 5), (⟨"EvenTables$Rounder", "lay", "(LEvenTables$Table;)V"⟩, 5), (⟨"EvenTables$Rounder", "setBounds", "(IIII)V"⟩, 5), (⟨"EvenTables$Rounder", "meetLows", "(I)V"⟩, 5), (⟨"EvenTables$Rounder", "meetLow", "(II)V"⟩, 5), (⟨"EvenTables$Rounder", "findWay", "(II)Z"⟩, 5), (⟨"EvenTables$Rounder", "isOpen", "(II)Z"⟩, 5), (⟨"EvenTables$Rounder", "flowAlong", "(II)V"⟩, 5), (⟨"EvenTables$Rounder", "lessen", "(I)J"⟩, 5), (⟨"EvenTables$Shown", "putNumber", "(I)V"⟩, 2), (⟨"EvenTables$Shown", "put", "(I)V"⟩, 2), (⟨"EvenTablesModel", "isTable", "(I)Z"⟩, 43), (⟨"EvenTablesModel", "rowOf", "(II)J"⟩, 43), (⟨"EvenTablesModel", "at", "(III)I"⟩, 43), (⟨"EvenTablesModel", "columnOf", "(II)J"⟩, 43), (⟨"EvenTablesModel", "four", "(I)V"⟩, 43)]
theorem lw_r3 : ∀ q ∈ lw_privs_3, lw_okq q := List.forall_mem_cons.mpr ⟨lw_p32, List.forall_mem_cons.mpr ⟨lw_p33, List.forall_mem_cons.mpr ⟨lw_p34, List.forall_mem_cons.mpr ⟨lw_p35, List.forall_mem_cons.mpr ⟨lw_p36, List.forall_mem_cons.mpr ⟨lw_p37, List.forall_mem_cons.mpr ⟨lw_p38, List.forall_mem_cons.mpr ⟨lw_p39, List.forall_mem_cons.mpr ⟨lw_p40, List.forall_mem_cons.mpr ⟨lw_p41, List.forall_mem_cons.mpr ⟨lw_p42, List.forall_mem_cons.mpr ⟨lw_p43, List.forall_mem_cons.mpr ⟨lw_p44, List.forall_mem_cons.mpr ⟨lw_p45, List.forall_mem_cons.mpr ⟨lw_p46, List.forall_mem_cons.mpr ⟨lw_p47, fun _ h => absurd h List.not_mem_nil⟩⟩⟩⟩⟩⟩⟩⟩⟩⟩⟩⟩⟩⟩⟩⟩
theorem lw_p48 : lw_okq (⟨"EvenTablesModel", "next", "()V"⟩, 43) := ⟨⟨by decide +kernel, by decide +kernel⟩, List.mem_of_getElem? (i := 946) (by decide +kernel), List.mem_of_getElem? (i := 1126) (by decide +kernel), List.mem_of_getElem? (i := 1127) (by decide +kernel)⟩
theorem lw_p49 : lw_okq (⟨"EvenTablesModel", "see", "(I)I"⟩, 43) := ⟨⟨by decide +kernel, by decide +kernel⟩, List.mem_of_getElem? (i := 946) (by decide +kernel), List.mem_of_getElem? (i := 1130) (by decide +kernel), List.mem_of_getElem? (i := 1131) (by decide +kernel)⟩
theorem lw_p50 : lw_okq (⟨"EvenTablesModel", "readRow", "()Z"⟩, 43) := ⟨⟨by decide +kernel, by decide +kernel⟩, List.mem_of_getElem? (i := 946) (by decide +kernel), List.mem_of_getElem? (i := 1136) (by decide +kernel), List.mem_of_getElem? (i := 1137) (by decide +kernel)⟩
theorem lw_p51 : lw_okq (⟨"EvenTablesModel", "isNumber", "()Z"⟩, 43) := ⟨⟨by decide +kernel, by decide +kernel⟩, List.mem_of_getElem? (i := 946) (by decide +kernel), List.mem_of_getElem? (i := 1140) (by decide +kernel), List.mem_of_getElem? (i := 1141) (by decide +kernel)⟩
theorem lw_p52 : lw_okq (⟨"EvenTablesModel", "fails", "(I)Z"⟩, 43) := ⟨⟨by decide +kernel, by decide +kernel⟩, List.mem_of_getElem? (i := 946) (by decide +kernel), List.mem_of_getElem? (i := 1144) (by decide +kernel), List.mem_of_getElem? (i := 1145) (by decide +kernel)⟩
theorem lw_p53 : lw_okq (⟨"EvenTablesModel", "readFraction", "(I)Z"⟩, 43) := ⟨⟨by decide +kernel, by decide +kernel⟩, List.mem_of_getElem? (i := 946) (by decide +kernel), List.mem_of_getElem? (i := 1148) (by decide +kernel), List.mem_of_getElem? (i := 1149) (by decide +kernel)⟩
theorem lw_p54 : lw_okq (⟨"EvenTablesModel", "isOver", "(I)Z"⟩, 43) := ⟨⟨by decide +kernel, by decide +kernel⟩, List.mem_of_getElem? (i := 946) (by decide +kernel), List.mem_of_getElem? (i := 1152) (by decide +kernel), List.mem_of_getElem? (i := 1153) (by decide +kernel)⟩
theorem lw_p55 : lw_okq (⟨"EvenTablesModel", "takes", "(II)Z"⟩, 43) := ⟨⟨by decide +kernel, by decide +kernel⟩, List.mem_of_getElem? (i := 946) (by decide +kernel), List.mem_of_getElem? (i := 1160) (by decide +kernel), List.mem_of_getElem? (i := 1161) (by decide +kernel)⟩
theorem lw_p56 : lw_okq (⟨"EvenTablesModel", "isEven", "(I)Z"⟩, 43) := ⟨⟨by decide +kernel, by decide +kernel⟩, List.mem_of_getElem? (i := 946) (by decide +kernel), List.mem_of_getElem? (i := 1174) (by decide +kernel), List.mem_of_getElem? (i := 1175) (by decide +kernel)⟩
theorem lw_p57 : lw_okq (⟨"EvenTablesModel", "aboveNought", "(I)I"⟩, 43) := ⟨⟨by decide +kernel, by decide +kernel⟩, List.mem_of_getElem? (i := 946) (by decide +kernel), List.mem_of_getElem? (i := 1179) (by decide +kernel), List.mem_of_getElem? (i := 1180) (by decide +kernel)⟩
theorem lw_p58 : lw_okq (⟨"EvenTablesModel", "groupsOf", "(I)I"⟩, 43) := ⟨⟨by decide +kernel, by decide +kernel⟩, List.mem_of_getElem? (i := 946) (by decide +kernel), List.mem_of_getElem? (i := 1186) (by decide +kernel), List.mem_of_getElem? (i := 1187) (by decide +kernel)⟩
theorem lw_p59 : lw_okq (⟨"EvenTablesModel", "isCell", "(III)Z"⟩, 43) := ⟨⟨by decide +kernel, by decide +kernel⟩, List.mem_of_getElem? (i := 946) (by decide +kernel), List.mem_of_getElem? (i := 1194) (by decide +kernel), List.mem_of_getElem? (i := 1195) (by decide +kernel)⟩
theorem lw_p60 : lw_okq (⟨"EvenTablesModel", "worksOn", "(I)V"⟩, 43) := ⟨⟨by decide +kernel, by decide +kernel⟩, List.mem_of_getElem? (i := 946) (by decide +kernel), List.mem_of_getElem? (i := 1231) (by decide +kernel), List.mem_of_getElem? (i := 1232) (by decide +kernel)⟩
theorem lw_p61 : lw_okq (⟨"EvenTablesModel", "keepsAll", "(III)I"⟩, 43) := ⟨⟨by decide +kernel, by decide +kernel⟩, List.mem_of_getElem? (i := 946) (by decide +kernel), List.mem_of_getElem? (i := 1235) (by decide +kernel), List.mem_of_getElem? (i := 1236) (by decide +kernel)⟩
theorem lw_p62 : lw_okq (⟨"EvenTablesModel", "isLeft", "()Z"⟩, 43) := ⟨⟨by decide +kernel, by decide +kernel⟩, List.mem_of_getElem? (i := 946) (by decide +kernel), List.mem_of_getElem? (i := 1239) (by decide +kernel), List.mem_of_getElem? (i := 1240) (by decide +kernel)⟩
theorem lw_p63 : lw_okq (⟨"EvenTablesModel", "peels", "(I)I"⟩, 43) := ⟨⟨by decide +kernel, by decide +kernel⟩, List.mem_of_getElem? (i := 946) (by decide +kernel), List.mem_of_getElem? (i := 1243) (by decide +kernel), List.mem_of_getElem? (i := 1244) (by decide +kernel)⟩
def lw_privs_4 : List (MethodName × Nat) := [(⟨"EvenTablesModel", "next", "()V"⟩, 43), (⟨"EvenTablesModel", "see", "(I)I"⟩, 43), (⟨"EvenTablesModel", "readRow", "()Z"⟩, 43), (⟨"EvenTablesModel", "isNumber", "()Z"⟩, 43), (⟨"EvenTablesModel", "fails", "(I)Z"⟩, 43), (⟨"EvenTablesModel", "readFraction", "(I)Z"⟩, 43), (⟨"EvenTablesModel", "isOver", "(I)Z"⟩, 43), (⟨"EvenTablesModel", "takes", "(II)Z"⟩, 43), (⟨"EvenTablesModel", "isEven", "(I)Z"⟩, 43), (⟨"EvenTablesModel", "aboveNought", "(I)I"⟩, 43), (⟨"EvenTablesModel", "groupsOf", "(I)I"⟩, 43), (⟨"EvenTablesModel", "isCell", "(III)Z"⟩, 43), (⟨"EvenTablesModel", "worksOn", "(I)V"⟩, 43), (⟨"EvenTablesModel", "keepsAll", "(III)I"⟩, 43), (⟨"EvenTablesModel", "isLeft", "()Z"⟩, 43), (⟨"EvenTablesModel", "peels", "(I)I"⟩, 43)]
theorem lw_r4 : ∀ q ∈ lw_privs_4, lw_okq q := List.forall_mem_cons.mpr ⟨lw_p48, List.forall_mem_cons.mpr ⟨lw_p49, List.forall_mem_cons.mpr ⟨lw_p50, List.forall_mem_cons.mpr ⟨lw_p51, List.forall_mem_cons.mpr ⟨lw_p52, List.forall_mem_cons.mpr ⟨lw_p53, List.forall_mem_cons.mpr ⟨lw_p54, List.forall_mem_cons.mpr ⟨lw_p55, List.forall_mem_cons.mpr ⟨lw_p56, List.forall_mem_cons.mpr ⟨lw_p57, List.forall_mem_cons.mpr ⟨lw_p58, List.forall_mem_cons.mpr ⟨lw_p59, List.forall_mem_cons.mpr ⟨lw_p60, List.forall_mem_cons.mpr ⟨lw_p61, List.forall_mem_cons.mpr ⟨lw_p62, List.forall_mem_cons.mpr ⟨lw_p63, fun _ h => absurd h List.not_mem_nil⟩⟩⟩⟩⟩⟩⟩⟩⟩⟩⟩⟩⟩⟩⟩⟩
theorem lw_p64 : lw_okq (⟨"EvenTablesModel", "choose", "(I)V"⟩, 43) := ⟨⟨by decide +kernel, by decide +kernel⟩, List.mem_of_getElem? (i := 946) (by decide +kernel), List.mem_of_getElem? (i := 1247) (by decide +kernel), List.mem_of_getElem? (i := 1248) (by decide +kernel)⟩
theorem lw_p65 : lw_okq (⟨"EvenTablesModel", "isChosen", "(III)Z"⟩, 43) := ⟨⟨by decide +kernel, by decide +kernel⟩, List.mem_of_getElem? (i := 946) (by decide +kernel), List.mem_of_getElem? (i := 1251) (by decide +kernel), List.mem_of_getElem? (i := 1252) (by decide +kernel)⟩
theorem lw_p66 : lw_okq (⟨"EvenTablesModel", "isOpen", "(IIIII)Z"⟩, 43) := ⟨⟨by decide +kernel, by decide +kernel⟩, List.mem_of_getElem? (i := 946) (by decide +kernel), List.mem_of_getElem? (i := 1258) (by decide +kernel), List.mem_of_getElem? (i := 1259) (by decide +kernel)⟩
theorem lw_p67 : lw_okq (⟨"EvenTablesModel", "worked", "(II)I"⟩, 43) := ⟨⟨by decide +kernel, by decide +kernel⟩, List.mem_of_getElem? (i := 946) (by decide +kernel), List.mem_of_getElem? (i := 1262) (by decide +kernel), List.mem_of_getElem? (i := 1263) (by decide +kernel)⟩
theorem lw_p68 : lw_okq (⟨"EvenTablesModel", "laysCan", "(IZ)V"⟩, 43) := ⟨⟨by decide +kernel, by decide +kernel⟩, List.mem_of_getElem? (i := 946) (by decide +kernel), List.mem_of_getElem? (i := 1266) (by decide +kernel), List.mem_of_getElem? (i := 1267) (by decide +kernel)⟩
theorem lw_p69 : lw_okq (⟨"EvenTablesModel", "chooseGreatest", "(I)J"⟩, 43) := ⟨⟨by decide +kernel, by decide +kernel⟩, List.mem_of_getElem? (i := 946) (by decide +kernel), List.mem_of_getElem? (i := 1273) (by decide +kernel), List.mem_of_getElem? (i := 1274) (by decide +kernel)⟩
theorem lw_p70 : lw_okq (⟨"EvenTablesModel", "isPartThere", "(I)Z"⟩, 43) := ⟨⟨by decide +kernel, by decide +kernel⟩, List.mem_of_getElem? (i := 946) (by decide +kernel), List.mem_of_getElem? (i := 1283) (by decide +kernel), List.mem_of_getElem? (i := 1284) (by decide +kernel)⟩
theorem lw_p71 : lw_okq (⟨"EvenTablesModel", "isKeptRow", "(I)Z"⟩, 43) := ⟨⟨by decide +kernel, by decide +kernel⟩, List.mem_of_getElem? (i := 946) (by decide +kernel), List.mem_of_getElem? (i := 1287) (by decide +kernel), List.mem_of_getElem? (i := 1288) (by decide +kernel)⟩
theorem lw_p72 : lw_okq (⟨"EvenTablesModel", "together", "(II)I"⟩, 43) := ⟨⟨by decide +kernel, by decide +kernel⟩, List.mem_of_getElem? (i := 946) (by decide +kernel), List.mem_of_getElem? (i := 1308) (by decide +kernel), List.mem_of_getElem? (i := 1309) (by decide +kernel)⟩
theorem lw_p73 : lw_okq (⟨"EvenTablesModel", "fewest", "(I)I"⟩, 43) := ⟨⟨by decide +kernel, by decide +kernel⟩, List.mem_of_getElem? (i := 946) (by decide +kernel), List.mem_of_getElem? (i := 1316) (by decide +kernel), List.mem_of_getElem? (i := 1317) (by decide +kernel)⟩
theorem lw_p74 : lw_okq (⟨"EvenTablesModel", "lies", "(III)J"⟩, 43) := ⟨⟨by decide +kernel, by decide +kernel⟩, List.mem_of_getElem? (i := 946) (by decide +kernel), List.mem_of_getElem? (i := 1320) (by decide +kernel), List.mem_of_getElem? (i := 1321) (by decide +kernel)⟩
theorem lw_p75 : lw_okq (⟨"EvenTablesModel", "laysBounds", "(I)V"⟩, 43) := ⟨⟨by decide +kernel, by decide +kernel⟩, List.mem_of_getElem? (i := 946) (by decide +kernel), List.mem_of_getElem? (i := 1336) (by decide +kernel), List.mem_of_getElem? (i := 1337) (by decide +kernel)⟩
theorem lw_p76 : lw_okq (⟨"EvenTablesModel", "isKept", "(I)Z"⟩, 43) := ⟨⟨by decide +kernel, by decide +kernel⟩, List.mem_of_getElem? (i := 946) (by decide +kernel), List.mem_of_getElem? (i := 1346) (by decide +kernel), List.mem_of_getElem? (i := 1347) (by decide +kernel)⟩
theorem lw_p77 : lw_okq (⟨"EvenTablesModel", "edge", "(IIII)V"⟩, 43) := ⟨⟨by decide +kernel, by decide +kernel⟩, List.mem_of_getElem? (i := 946) (by decide +kernel), List.mem_of_getElem? (i := 1350) (by decide +kernel), List.mem_of_getElem? (i := 1351) (by decide +kernel)⟩
theorem lw_p78 : lw_okq (⟨"EvenTablesModel", "isWay", "()Z"⟩, 43) := ⟨⟨by decide +kernel, by decide +kernel⟩, List.mem_of_getElem? (i := 946) (by decide +kernel), List.mem_of_getElem? (i := 1354) (by decide +kernel), List.mem_of_getElem? (i := 1355) (by decide +kernel)⟩
theorem lw_p79 : lw_okq (⟨"EvenTablesModel", "joined", "(III)I"⟩, 43) := ⟨⟨by decide +kernel, by decide +kernel⟩, List.mem_of_getElem? (i := 946) (by decide +kernel), List.mem_of_getElem? (i := 1365) (by decide +kernel), List.mem_of_getElem? (i := 1366) (by decide +kernel)⟩
def lw_privs_5 : List (MethodName × Nat) := [(⟨"EvenTablesModel", "choose", "(I)V"⟩, 43), (⟨"EvenTablesModel", "isChosen", "(III)Z"⟩, 43), (⟨"EvenTablesModel", "isOpen", "(IIIII)Z"⟩, 43), (⟨"EvenTablesModel", "worked", "(II)I"⟩, 43), (⟨"EvenTablesModel", "laysCan", "(IZ)V"⟩, 43), (⟨"EvenTablesModel", "chooseGreatest", "(I)J"⟩, 43), (⟨"EvenTablesModel", "isPartThere", "(I)Z"⟩, 43), (⟨"EvenTablesModel", "isKeptRow", "(I)Z"⟩, 43), (⟨"EvenTablesModel", "together", "(II)I"⟩, 43), (⟨"EvenTablesModel", "fewest", "(I)I"⟩, 43), (⟨"EvenTablesModel", "lies", "(III)J"⟩, 43), (⟨"EvenTablesModel", "laysBounds", "(I)V"⟩, 43), (⟨"EvenTablesModel", "isKept", "(I)Z"⟩, 43), (⟨"EvenTablesModel", "edge", "(IIII)V"⟩, 43), (⟨"EvenTablesModel", "isWay", "()Z"⟩, 43), (⟨"EvenTablesModel", "joined", "(III)I"⟩, 43)]
theorem lw_r5 : ∀ q ∈ lw_privs_5, lw_okq q := List.forall_mem_cons.mpr ⟨lw_p64, List.forall_mem_cons.mpr ⟨lw_p65, List.forall_mem_cons.mpr ⟨lw_p66, List.forall_mem_cons.mpr ⟨lw_p67, List.forall_mem_cons.mpr ⟨lw_p68, List.forall_mem_cons.mpr ⟨lw_p69, List.forall_mem_cons.mpr ⟨lw_p70, List.forall_mem_cons.mpr ⟨lw_p71, List.forall_mem_cons.mpr ⟨lw_p72, List.forall_mem_cons.mpr ⟨lw_p73, List.forall_mem_cons.mpr ⟨lw_p74, List.forall_mem_cons.mpr ⟨lw_p75, List.forall_mem_cons.mpr ⟨lw_p76, List.forall_mem_cons.mpr ⟨lw_p77, List.forall_mem_cons.mpr ⟨lw_p78, List.forall_mem_cons.mpr ⟨lw_p79, fun _ h => absurd h List.not_mem_nil⟩⟩⟩⟩⟩⟩⟩⟩⟩⟩⟩⟩⟩⟩⟩⟩
theorem lw_p80 : lw_okq (⟨"EvenTablesModel", "isSummed", "(IIZ)Z"⟩, 43) := ⟨⟨by decide +kernel, by decide +kernel⟩, List.mem_of_getElem? (i := 946) (by decide +kernel), List.mem_of_getElem? (i := 1377) (by decide +kernel), List.mem_of_getElem? (i := 1378) (by decide +kernel)⟩
theorem lw_p81 : lw_okq (⟨"EvenTablesModel", "says", "(I)V"⟩, 43) := ⟨⟨by decide +kernel, by decide +kernel⟩, List.mem_of_getElem? (i := 946) (by decide +kernel), List.mem_of_getElem? (i := 1407) (by decide +kernel), List.mem_of_getElem? (i := 1408) (by decide +kernel)⟩
theorem lw_p82 : lw_okq (⟨"EvenTablesModel", "isJob", "(I)Z"⟩, 43) := ⟨⟨by decide +kernel, by decide +kernel⟩, List.mem_of_getElem? (i := 946) (by decide +kernel), List.mem_of_getElem? (i := 1423) (by decide +kernel), List.mem_of_getElem? (i := 1424) (by decide +kernel)⟩
def lw_privs_6 : List (MethodName × Nat) := [(⟨"EvenTablesModel", "isSummed", "(IIZ)Z"⟩, 43), (⟨"EvenTablesModel", "says", "(I)V"⟩, 43), (⟨"EvenTablesModel", "isJob", "(I)Z"⟩, 43)]
theorem lw_r6 : ∀ q ∈ lw_privs_6, lw_okq q := List.forall_mem_cons.mpr ⟨lw_p80, List.forall_mem_cons.mpr ⟨lw_p81, List.forall_mem_cons.mpr ⟨lw_p82, fun _ h => absurd h List.not_mem_nil⟩⟩⟩
def lw_privs : List (MethodName × Nat) := lw_privs_1 ++ (lw_privs_2 ++ (lw_privs_3 ++ (lw_privs_4 ++ (lw_privs_5 ++ (lw_privs_6)))))
def lw_tbl : List Cond := k2_sels lw_privs ++ tables_1
theorem lw_privs_ok : ∀ q ∈ lw_privs, lw_okq q := by
  show ∀ q ∈ lw_privs_1 ++ (lw_privs_2 ++ (lw_privs_3 ++ (lw_privs_4 ++ (lw_privs_5 ++ (lw_privs_6))))), lw_okq q
  exact List.forall_mem_append.mpr ⟨lw_r1, List.forall_mem_append.mpr ⟨lw_r2, List.forall_mem_append.mpr ⟨lw_r3, List.forall_mem_append.mpr ⟨lw_r4, List.forall_mem_append.mpr ⟨lw_r5, lw_r6⟩⟩⟩⟩⟩
end
section
def RX0 : String := "EvenTables$Choices"
def TX0 : u_T := fun k => match k with
  | 0 => ("EvenTables$Choices", "columns", "[I", true)
  | 1 => ("EvenTables$Choices", "values", "[J", true)
  | 2 => ("EvenTables$Choices", "leadsNowhere", "[I", true)
  | _ => ("EvenTables$Choices", "search", "I", false)
def tyX0 : Nat → FieldType := fun k => match k with
  | 0 => .array .int
  | 1 => .array .long
  | 2 => .array .int
  | _ => .int
abbrev wsX00 : List Cond := u_ws RX0 TX0 4
theorem nmX0 : ∀ a, a < 4 → ∀ b, b < 4 → a ≠ b → (TX0 a).2.1 ≠ (TX0 b).2.1 := by decide +kernel
theorem tyX0_ok : ∀ k, k < 4 → parseFieldDescriptor (TX0 k).2.2.1 = some (tyX0 k) := by decide +kernel
abbrev cX0_init : ByteArray := prog_2_method_1_code
def yX0_init : MethodName := ⟨RX0, "<init>", "()V"⟩
abbrev cX0_findFirst : ByteArray := prog_2_method_2_code
def yX0_findFirst : MethodName := ⟨RX0, "findFirst", "(JI)Z"⟩
abbrev cX0_nextColumn : ByteArray := prog_2_method_3_code
def yX0_nextColumn : MethodName := ⟨RX0, "nextColumn", "(IIII)I"⟩
abbrev cX0_greatestLeast : ByteArray := prog_2_method_4_code
def yX0_greatestLeast : MethodName := ⟨RX0, "greatestLeast", "([IJI)J"⟩
abbrev cX0_findRichest : ByteArray := prog_2_method_5_code
def yX0_findRichest : MethodName := ⟨RX0, "findRichest", "([IJI)J"⟩
abbrev cX0_sumUp : ByteArray := prog_2_method_6_code
def yX0_sumUp : MethodName := ⟨RX0, "sumUp", "([IJI)V"⟩
abbrev cX0_richestColumn : ByteArray := prog_2_method_7_code
def yX0_richestColumn : MethodName := ⟨RX0, "richestColumn", "([IIIII)I"⟩
abbrev cX0_countAll : ByteArray := prog_2_method_8_code
def yX0_countAll : MethodName := ⟨RX0, "countAll", "(JI)J"⟩
abbrev cX0_multiplyAll : ByteArray := prog_2_method_9_code
def yX0_multiplyAll : MethodName := ⟨RX0, "multiplyAll", "([II)J"⟩
abbrev cX0_multiplySet : ByteArray := prog_2_method_10_code
def yX0_multiplySet : MethodName := ⟨RX0, "multiplySet", "([III)J"⟩
def RX1 : String := "EvenTables$Joins"
def TX1 : u_T := fun k => match k with
  | _ => ("", "", "", false)
def tyX1 : Nat → FieldType := fun k => match k with
  | _ => .int
abbrev wsX10 : List Cond := u_ws RX1 TX1 0
theorem nmX1 : ∀ a, a < 0 → ∀ b, b < 0 → a ≠ b → (TX1 a).2.1 ≠ (TX1 b).2.1 := by decide +kernel
theorem tyX1_ok : ∀ k, k < 0 → parseFieldDescriptor (TX1 k).2.2.1 = some (tyX1 k) := by decide +kernel
abbrev cX1_of : ByteArray := prog_3_method_2_code
def yX1_of : MethodName := ⟨RX1, "of", "([III)J"⟩
abbrev cX1_rowOf : ByteArray := prog_3_method_3_code
def yX1_rowOf : MethodName := ⟨RX1, "rowOf", "(JI)I"⟩
abbrev cX1_through : ByteArray := prog_3_method_4_code
def yX1_through : MethodName := ⟨RX1, "through", "(JII)J"⟩
abbrev cX1_columnsOf : ByteArray := prog_3_method_5_code
def yX1_columnsOf : MethodName := ⟨RX1, "columnsOf", "(JII)I"⟩
abbrev cX1_rowsOf : ByteArray := prog_3_method_6_code
def yX1_rowsOf : MethodName := ⟨RX1, "rowsOf", "(JII)I"⟩
abbrev cX1_countGroups : ByteArray := prog_3_method_7_code
def yX1_countGroups : MethodName := ⟨RX1, "countGroups", "(JI)I"⟩
abbrev cX1_groupOf : ByteArray := prog_3_method_8_code
def yX1_groupOf : MethodName := ⟨RX1, "groupOf", "(JII)I"⟩
abbrev cX1_rowsMostLacking : ByteArray := prog_3_method_9_code
def yX1_rowsMostLacking : MethodName := ⟨RX1, "rowsMostLacking", "(JI)I"⟩
abbrev cX1_kinOf : ByteArray := prog_3_method_10_code
def yX1_kinOf : MethodName := ⟨RX1, "kinOf", "(JII)I"⟩
abbrev cX1_reachedFrom : ByteArray := prog_3_method_11_code
def yX1_reachedFrom : MethodName := ⟨RX1, "reachedFrom", "(JII)I"⟩
abbrev cX1_leastFullPower : ByteArray := prog_3_method_12_code
def yX1_leastFullPower : MethodName := ⟨RX1, "leastFullPower", "(JJI)I"⟩
abbrev cX1_product : ByteArray := prog_3_method_13_code
def yX1_product : MethodName := ⟨RX1, "product", "(JJI)J"⟩
def RX2 : String := "EvenTables$Maker"
def TX2 : u_T := fun k => match k with
  | _ => ("EvenTables$Maker", "sums", "[J", true)
def tyX2 : Nat → FieldType := fun k => match k with
  | _ => .array .long
abbrev wsX20 : List Cond := u_ws RX2 TX2 1
theorem nmX2 : ∀ a, a < 1 → ∀ b, b < 1 → a ≠ b → (TX2 a).2.1 ≠ (TX2 b).2.1 := by decide +kernel
theorem tyX2_ok : ∀ k, k < 1 → parseFieldDescriptor (TX2 k).2.2.1 = some (tyX2 k) := by decide +kernel
abbrev cX2_init : ByteArray := prog_4_method_1_code
def yX2_init : MethodName := ⟨RX2, "<init>", "()V"⟩
abbrev cX2_makeMixture : ByteArray := prog_4_method_2_code
def yX2_makeMixture : MethodName := ⟨RX2, "makeMixture", "(LEvenTables$Table;IILEvenTables$Table;IILEvenTables$Table;)Z"⟩
abbrev cX2_multiplied : ByteArray := prog_4_method_3_code
def yX2_multiplied : MethodName := ⟨RX2, "multiplied", "(JJ)J"⟩
abbrev cX2_makeProduct : ByteArray := prog_4_method_4_code
def yX2_makeProduct : MethodName := ⟨RX2, "makeProduct", "(LEvenTables$Table;LEvenTables$Table;LEvenTables$Table;)Z"⟩
abbrev cX2_makeTurned : ByteArray := prog_4_method_5_code
def yX2_makeTurned : MethodName := ⟨RX2, "makeTurned", "(LEvenTables$Table;IILEvenTables$Table;)Z"⟩
abbrev cX2_turnedFrom : ByteArray := prog_4_method_6_code
def yX2_turnedFrom : MethodName := ⟨RX2, "turnedFrom", "(IZZII)I"⟩
abbrev cX2_bring : ByteArray := prog_4_method_7_code
def yX2_bring : MethodName := ⟨RX2, "bring", "(JILEvenTables$Table;)Z"⟩
abbrev cX2_sharedDivisor : ByteArray := prog_4_method_8_code
def yX2_sharedDivisor : MethodName := ⟨RX2, "sharedDivisor", "(JI)J"⟩
abbrev cX2_areCells : ByteArray := prog_4_method_9_code
def yX2_areCells : MethodName := ⟨RX2, "areCells", "(JI)Z"⟩
def RX3 : String := "EvenTables$Mixture"
def TX3 : u_T := fun k => match k with
  | 0 => ("EvenTables$Mixture", "weights", "[I", true)
  | 1 => ("EvenTables$Mixture", "columns", "[I", true)
  | 2 => ("EvenTables$Mixture", "kind", "I", false)
  | 3 => ("EvenTables$Mixture", "n", "I", false)
  | 4 => ("EvenTables$Mixture", "rows", "I", false)
  | 5 => ("EvenTables$Mixture", "size", "I", false)
  | _ => ("EvenTables$Mixture", "whole", "I", false)
def tyX3 : Nat → FieldType := fun k => match k with
  | 0 => .array .int
  | 1 => .array .int
  | 2 => .int
  | 3 => .int
  | 4 => .int
  | 5 => .int
  | _ => .int
abbrev wsX30 : List Cond := u_ws RX3 TX3 7
theorem nmX3 : ∀ a, a < 7 → ∀ b, b < 7 → a ≠ b → (TX3 a).2.1 ≠ (TX3 b).2.1 := by decide +kernel
theorem tyX3_ok : ∀ k, k < 7 → parseFieldDescriptor (TX3 k).2.2.1 = some (tyX3 k) := by decide +kernel
abbrev cX3_init : ByteArray := prog_5_method_1_code
def yX3_init : MethodName := ⟨RX3, "<init>", "()V"⟩
abbrev cX3_start : ByteArray := prog_5_method_2_code
def yX3_start : MethodName := ⟨RX3, "start", "(IIII)V"⟩
abbrev cX3_add : ByteArray := prog_5_method_3_code
def yX3_add : MethodName := ⟨RX3, "add", "(I[I)V"⟩
abbrev cX3_hasPart : ByteArray := prog_5_method_4_code
def yX3_hasPart : MethodName := ⟨RX3, "hasPart", "(I)Z"⟩
abbrev cX3_hasRow : ByteArray := prog_5_method_5_code
def yX3_hasRow : MethodName := ⟨RX3, "hasRow", "(I)Z"⟩
abbrev cX3_hasJob : ByteArray := prog_5_method_6_code
def yX3_hasJob : MethodName := ⟨RX3, "hasJob", "(I)Z"⟩
abbrev cX3_columnOf : ByteArray := prog_5_method_7_code
def yX3_columnOf : MethodName := ⟨RX3, "columnOf", "(II)I"⟩
abbrev cX3_inLeastTerms : ByteArray := prog_5_method_8_code
def yX3_inLeastTerms : MethodName := ⟨RX3, "inLeastTerms", "(IZ)I"⟩
abbrev cX3_partAt : ByteArray := prog_5_method_9_code
def yX3_partAt : MethodName := ⟨RX3, "partAt", "(I)I"⟩
abbrev cX3_weightOfBoth : ByteArray := prog_5_method_10_code
def yX3_weightOfBoth : MethodName := ⟨RX3, "weightOfBoth", "(IIII)I"⟩
abbrev cX3_weightOf : ByteArray := prog_5_method_11_code
def yX3_weightOf : MethodName := ⟨RX3, "weightOf", "(II)I"⟩
abbrev cX3_commonestColumn : ByteArray := prog_5_method_12_code
def yX3_commonestColumn : MethodName := ⟨RX3, "commonestColumn", "(I)I"⟩
abbrev cX3_countColumns : ByteArray := prog_5_method_13_code
def yX3_countColumns : MethodName := ⟨RX3, "countColumns", "(I)I"⟩
abbrev cX3_machineOf : ByteArray := prog_5_method_14_code
def yX3_machineOf : MethodName := ⟨RX3, "machineOf", "(II)I"⟩
abbrev cX3_lastHour : ByteArray := prog_5_method_15_code
def yX3_lastHour : MethodName := ⟨RX3, "lastHour", "(I)I"⟩
abbrev cX3_countPieces : ByteArray := prog_5_method_16_code
def yX3_countPieces : MethodName := ⟨RX3, "countPieces", "(I)I"⟩
abbrev cX3_countMoves : ByteArray := prog_5_method_17_code
def yX3_countMoves : MethodName := ⟨RX3, "countMoves", "(I)I"⟩
def RX4 : String := "EvenTables$Numbers"
def TX4 : u_T := fun k => match k with
  | _ => ("", "", "", false)
def tyX4 : Nat → FieldType := fun k => match k with
  | _ => .int
abbrev wsX40 : List Cond := u_ws RX4 TX4 0
theorem nmX4 : ∀ a, a < 0 → ∀ b, b < 0 → a ≠ b → (TX4 a).2.1 ≠ (TX4 b).2.1 := by decide +kernel
theorem tyX4_ok : ∀ k, k < 0 → parseFieldDescriptor (TX4 k).2.2.1 = some (tyX4 k) := by decide +kernel
abbrev cX4_greatestDivisor : ByteArray := prog_6_method_2_code
def yX4_greatestDivisor : MethodName := ⟨RX4, "greatestDivisor", "(JJ)J"⟩
abbrev cX4_leastMultiple : ByteArray := prog_6_method_3_code
def yX4_leastMultiple : MethodName := ⟨RX4, "leastMultiple", "(JJJ)J"⟩
def RX5 : String := "EvenTables$Peeler"
def TX5 : u_T := fun k => match k with
  | 0 => ("EvenTables$Peeler", "choices", "LEvenTables$Choices;", true)
  | 1 => ("EvenTables$Peeler", "cells", "[I", true)
  | 2 => ("EvenTables$Peeler", "n", "I", false)
  | 3 => ("EvenTables$Peeler", "left", "I", false)
  | 4 => ("EvenTables$Peeler", "parts", "I", false)
  | _ => ("EvenTables$Peeler", "weight", "I", false)
def tyX5 : Nat → FieldType := fun k => match k with
  | 0 => .object "EvenTables$Choices"
  | 1 => .array .int
  | 2 => .int
  | 3 => .int
  | 4 => .int
  | _ => .int
abbrev wsX50 : List Cond := u_ws RX5 TX5 6
theorem nmX5 : ∀ a, a < 6 → ∀ b, b < 6 → a ≠ b → (TX5 a).2.1 ≠ (TX5 b).2.1 := by decide +kernel
theorem tyX5_ok : ∀ k, k < 6 → parseFieldDescriptor (TX5 k).2.2.1 = some (tyX5 k) := by decide +kernel
abbrev cX5_init : ByteArray := prog_7_method_1_code
def yX5_init : MethodName := ⟨RX5, "<init>", "(LEvenTables$Choices;)V"⟩
abbrev cX5_startTable : ByteArray := prog_7_method_2_code
def yX5_startTable : MethodName := ⟨RX5, "startTable", "(LEvenTables$Table;)V"⟩
abbrev cX5_startShop : ByteArray := prog_7_method_3_code
def yX5_startShop : MethodName := ⟨RX5, "startShop", "(LEvenTables$Table;)V"⟩
abbrev cX5_startLike : ByteArray := prog_7_method_4_code
def yX5_startLike : MethodName := ⟨RX5, "startLike", "(LEvenTables$Peeler;)V"⟩
abbrev cX5_takePart : ByteArray := prog_7_method_5_code
def yX5_takePart : MethodName := ⟨RX5, "takePart", "(I)V"⟩
abbrev cX5_choose : ByteArray := prog_7_method_6_code
def yX5_choose : MethodName := ⟨RX5, "choose", "(I)Z"⟩
abbrev cX5_leastPlace : ByteArray := prog_7_method_7_code
def yX5_leastPlace : MethodName := ⟨RX5, "leastPlace", "()I"⟩
abbrev cX5_choiceNumber : ByteArray := prog_7_method_8_code
def yX5_choiceNumber : MethodName := ⟨RX5, "choiceNumber", "()I"⟩
def RX6 : String := "EvenTables$Rounder"
def TX6 : u_T := fun k => match k with
  | 0 => ("EvenTables$Rounder", "flow", "[I", true)
  | 1 => ("EvenTables$Rounder", "low", "[I", true)
  | 2 => ("EvenTables$Rounder", "high", "[I", true)
  | 3 => ("EvenTables$Rounder", "before", "[I", true)
  | _ => ("EvenTables$Rounder", "queue", "[I", true)
def tyX6 : Nat → FieldType := fun k => match k with
  | 0 => .array .int
  | 1 => .array .int
  | 2 => .array .int
  | 3 => .array .int
  | _ => .array .int
abbrev wsX60 : List Cond := u_ws RX6 TX6 5
theorem nmX6 : ∀ a, a < 5 → ∀ b, b < 5 → a ≠ b → (TX6 a).2.1 ≠ (TX6 b).2.1 := by decide +kernel
theorem tyX6_ok : ∀ k, k < 5 → parseFieldDescriptor (TX6 k).2.2.1 = some (tyX6 k) := by decide +kernel
abbrev cX6_init : ByteArray := prog_8_method_1_code
def yX6_init : MethodName := ⟨RX6, "<init>", "()V"⟩
abbrev cX6_round : ByteArray := prog_8_method_2_code
def yX6_round : MethodName := ⟨RX6, "round", "(LEvenTables$Table;)V"⟩
abbrev cX6_lay : ByteArray := prog_8_method_3_code
def yX6_lay : MethodName := ⟨RX6, "lay", "(LEvenTables$Table;)V"⟩
abbrev cX6_setBounds : ByteArray := prog_8_method_4_code
def yX6_setBounds : MethodName := ⟨RX6, "setBounds", "(IIII)V"⟩
abbrev cX6_meetLows : ByteArray := prog_8_method_5_code
def yX6_meetLows : MethodName := ⟨RX6, "meetLows", "(I)V"⟩
abbrev cX6_meetLow : ByteArray := prog_8_method_6_code
def yX6_meetLow : MethodName := ⟨RX6, "meetLow", "(II)V"⟩
abbrev cX6_lessen : ByteArray := prog_8_method_7_code
def yX6_lessen : MethodName := ⟨RX6, "lessen", "(I)J"⟩
abbrev cX6_findWay : ByteArray := prog_8_method_8_code
def yX6_findWay : MethodName := ⟨RX6, "findWay", "(II)Z"⟩
abbrev cX6_isOpen : ByteArray := prog_8_method_9_code
def yX6_isOpen : MethodName := ⟨RX6, "isOpen", "(II)Z"⟩
abbrev cX6_flowAlong : ByteArray := prog_8_method_10_code
def yX6_flowAlong : MethodName := ⟨RX6, "flowAlong", "(II)V"⟩
def RX7 : String := "EvenTables$Seeker"
def TX7 : u_T := fun k => match k with
  | 0 => ("EvenTables$Seeker", "choices", "LEvenTables$Choices;", true)
  | 1 => ("EvenTables$Seeker", "levels", "[LEvenTables$Peeler;", true)
  | 2 => ("EvenTables$Seeker", "numbers", "[I", true)
  | 3 => ("EvenTables$Seeker", "evenWeights", "[I", true)
  | _ => ("EvenTables$Seeker", "oddWeights", "[I", true)
def tyX7 : Nat → FieldType := fun k => match k with
  | 0 => .object "EvenTables$Choices"
  | 1 => .array (.object "EvenTables$Peeler")
  | 2 => .array .int
  | 3 => .array .int
  | _ => .array .int
abbrev wsX70 : List Cond := u_ws RX7 TX7 5
theorem nmX7 : ∀ a, a < 5 → ∀ b, b < 5 → a ≠ b → (TX7 a).2.1 ≠ (TX7 b).2.1 := by decide +kernel
theorem tyX7_ok : ∀ k, k < 5 → parseFieldDescriptor (TX7 k).2.2.1 = some (tyX7 k) := by decide +kernel
abbrev cX7_init : ByteArray := prog_9_method_1_code
def yX7_init : MethodName := ⟨RX7, "<init>", "(LEvenTables$Choices;)V"⟩
abbrev cX7_seek : ByteArray := prog_9_method_2_code
def yX7_seek : MethodName := ⟨RX7, "seek", "(LEvenTables$Table;)V"⟩
abbrev cX7_isNewStep : ByteArray := prog_9_method_3_code
def yX7_isNewStep : MethodName := ⟨RX7, "isNewStep", "(II)Z"⟩
abbrev cX7_finish : ByteArray := prog_9_method_4_code
def yX7_finish : MethodName := ⟨RX7, "finish", "(LEvenTables$Table;I)V"⟩
abbrev cX7_countFewest : ByteArray := prog_9_method_5_code
def yX7_countFewest : MethodName := ⟨RX7, "countFewest", "(LEvenTables$Table;)I"⟩
abbrev cX7_addWeight : ByteArray := prog_9_method_6_code
def yX7_addWeight : MethodName := ⟨RX7, "addWeight", "(I)V"⟩
abbrev cX7_leastOf : ByteArray := prog_9_method_7_code
def yX7_leastOf : MethodName := ⟨RX7, "leastOf", "([I)I"⟩
abbrev cX7_countAbove : ByteArray := prog_9_method_8_code
def yX7_countAbove : MethodName := ⟨RX7, "countAbove", "([II)I"⟩
def RX8 : String := "EvenTables$Shown"
def TX8 : u_T := fun k => match k with
  | 0 => ("EvenTables$Shown", "bytes", "[I", true)
  | _ => ("EvenTables$Shown", "length", "I", false)
def tyX8 : Nat → FieldType := fun k => match k with
  | 0 => .array .int
  | _ => .int
abbrev wsX80 : List Cond := u_ws RX8 TX8 2
theorem nmX8 : ∀ a, a < 2 → ∀ b, b < 2 → a ≠ b → (TX8 a).2.1 ≠ (TX8 b).2.1 := by decide +kernel
theorem tyX8_ok : ∀ k, k < 2 → parseFieldDescriptor (TX8 k).2.2.1 = some (tyX8 k) := by decide +kernel
abbrev cX8_init : ByteArray := prog_10_method_1_code
def yX8_init : MethodName := ⟨RX8, "<init>", "()V"⟩
abbrev cX8_write : ByteArray := prog_10_method_2_code
def yX8_write : MethodName := ⟨RX8, "write", "(LEvenTables$Mixture;)V"⟩
abbrev cX8_putNumber : ByteArray := prog_10_method_3_code
def yX8_putNumber : MethodName := ⟨RX8, "putNumber", "(I)V"⟩
abbrev cX8_put : ByteArray := prog_10_method_4_code
def yX8_put : MethodName := ⟨RX8, "put", "(I)V"⟩
def RX9 : String := "EvenTables$Table"
def TX9 : u_T := fun k => match k with
  | 0 => ("EvenTables$Table", "cells", "[I", true)
  | 1 => ("EvenTables$Table", "n", "I", false)
  | 2 => ("EvenTables$Table", "below", "I", false)
  | 3 => ("EvenTables$Table", "margin", "I", false)
  | 4 => ("EvenTables$Table", "roundingKnown", "Z", false)
  | 5 => ("EvenTables$Table", "roundedUp", "J", false)
  | 6 => ("EvenTables$Table", "seekingKnown", "Z", false)
  | 7 => ("EvenTables$Table", "soughtParts", "I", false)
  | _ => ("EvenTables$Table", "soughtRules", "I", false)
def tyX9 : Nat → FieldType := fun k => match k with
  | 0 => .array .int
  | 1 => .int
  | 2 => .int
  | 3 => .int
  | 4 => .boolean
  | 5 => .long
  | 6 => .boolean
  | 7 => .int
  | _ => .int
abbrev wsX90 : List Cond := u_ws RX9 TX9 9
theorem nmX9 : ∀ a, a < 9 → ∀ b, b < 9 → a ≠ b → (TX9 a).2.1 ≠ (TX9 b).2.1 := by decide +kernel
theorem tyX9_ok : ∀ k, k < 9 → parseFieldDescriptor (TX9 k).2.2.1 = some (tyX9 k) := by decide +kernel
abbrev cX9_init : ByteArray := prog_11_method_1_code
def yX9_init : MethodName := ⟨RX9, "<init>", "()V"⟩
abbrev cX9_settle : ByteArray := prog_11_method_2_code
def yX9_settle : MethodName := ⟨RX9, "settle", "(II)V"⟩
abbrev cX9_has : ByteArray := prog_11_method_3_code
def yX9_has : MethodName := ⟨RX9, "has", "(I)Z"⟩
abbrev cX9_joinedBy : ByteArray := prog_11_method_4_code
def yX9_joinedBy : MethodName := ⟨RX9, "joinedBy", "(I)J"⟩
abbrev cX9_sumOfRow : ByteArray := prog_11_method_5_code
def yX9_sumOfRow : MethodName := ⟨RX9, "sumOfRow", "(I)I"⟩
abbrev cX9_sumOfColumn : ByteArray := prog_11_method_6_code
def yX9_sumOfColumn : MethodName := ⟨RX9, "sumOfColumn", "(I)I"⟩
abbrev cX9_greatestSum : ByteArray := prog_11_method_7_code
def yX9_greatestSum : MethodName := ⟨RX9, "greatestSum", "()I"⟩
abbrev cX9_firstUneven : ByteArray := prog_11_method_8_code
def yX9_firstUneven : MethodName := ⟨RX9, "firstUneven", "()I"⟩
abbrev cX9_countAbove0 : ByteArray := prog_11_method_9_code
def yX9_countAbove0 : MethodName := ⟨RX9, "countAbove0", "()I"⟩
abbrev cX9_greatestCell : ByteArray := prog_11_method_10_code
def yX9_greatestCell : MethodName := ⟨RX9, "greatestCell", "()I"⟩
def RX10 : String := "EvenTables$Tape"
def TX10 : u_T := fun k => match k with
  | 0 => ("EvenTables$Tape", "bytes", "[I", true)
  | 1 => ("EvenTables$Tape", "above", "[I", true)
  | 2 => ("EvenTables$Tape", "under", "[I", true)
  | 3 => ("EvenTables$Tape", "length", "I", false)
  | 4 => ("EvenTables$Tape", "fault", "I", false)
  | 5 => ("EvenTables$Tape", "place", "I", false)
  | 6 => ("EvenTables$Tape", "at", "I", false)
  | 7 => ("EvenTables$Tape", "rows", "I", false)
  | 8 => ("EvenTables$Tape", "fractions", "I", false)
  | _ => ("EvenTables$Tape", "width", "I", false)
def tyX10 : Nat → FieldType := fun k => match k with
  | 0 => .array .int
  | 1 => .array .int
  | 2 => .array .int
  | 3 => .int
  | 4 => .int
  | 5 => .int
  | 6 => .int
  | 7 => .int
  | 8 => .int
  | _ => .int
abbrev wsX100 : List Cond := u_ws RX10 TX10 10
theorem nmX10 : ∀ a, a < 10 → ∀ b, b < 10 → a ≠ b → (TX10 a).2.1 ≠ (TX10 b).2.1 := by decide +kernel
theorem tyX10_ok : ∀ k, k < 10 → parseFieldDescriptor (TX10 k).2.2.1 = some (tyX10 k) := by decide +kernel
abbrev cX10_init : ByteArray := prog_12_method_1_code
def yX10_init : MethodName := ⟨RX10, "<init>", "()V"⟩
abbrev cX10_hasRoom : ByteArray := prog_12_method_2_code
def yX10_hasRoom : MethodName := ⟨RX10, "hasRoom", "()Z"⟩
abbrev cX10_putNumber : ByteArray := prog_12_method_3_code
def yX10_putNumber : MethodName := ⟨RX10, "putNumber", "(I)V"⟩
abbrev cX10_drop : ByteArray := prog_12_method_4_code
def yX10_drop : MethodName := ⟨RX10, "drop", "()V"⟩
abbrev cX10_readInto : ByteArray := prog_12_method_5_code
def yX10_readInto : MethodName := ⟨RX10, "readInto", "(LEvenTables$Table;)I"⟩
abbrev cX10_readPiece : ByteArray := prog_12_method_6_code
def yX10_readPiece : MethodName := ⟨RX10, "readPiece", "()V"⟩
abbrev cX10_closeRow : ByteArray := prog_12_method_7_code
def yX10_closeRow : MethodName := ⟨RX10, "closeRow", "()V"⟩
abbrev cX10_readFraction : ByteArray := prog_12_method_8_code
def yX10_readFraction : MethodName := ⟨RX10, "readFraction", "()V"⟩
abbrev cX10_readDivisor : ByteArray := prog_12_method_9_code
def yX10_readDivisor : MethodName := ⟨RX10, "readDivisor", "()I"⟩
abbrev cX10_keepFraction : ByteArray := prog_12_method_10_code
def yX10_keepFraction : MethodName := ⟨RX10, "keepFraction", "(II)V"⟩
abbrev cX10_countDigits : ByteArray := prog_12_method_11_code
def yX10_countDigits : MethodName := ⟨RX10, "countDigits", "()I"⟩
abbrev cX10_readNumber : ByteArray := prog_12_method_12_code
def yX10_readNumber : MethodName := ⟨RX10, "readNumber", "()I"⟩
abbrev cX10_skipBlanks : ByteArray := prog_12_method_13_code
def yX10_skipBlanks : MethodName := ⟨RX10, "skipBlanks", "()V"⟩
abbrev cX10_isSign : ByteArray := prog_12_method_14_code
def yX10_isSign : MethodName := ⟨RX10, "isSign", "(II)Z"⟩
abbrev cX10_isBlank : ByteArray := prog_12_method_15_code
def yX10_isBlank : MethodName := ⟨RX10, "isBlank", "(I)Z"⟩
abbrev cX10_isDigit : ByteArray := prog_12_method_16_code
def yX10_isDigit : MethodName := ⟨RX10, "isDigit", "(I)Z"⟩
abbrev cX10_fail : ByteArray := prog_12_method_17_code
def yX10_fail : MethodName := ⟨RX10, "fail", "(II)V"⟩
abbrev cX10_checkEnd : ByteArray := prog_12_method_18_code
def yX10_checkEnd : MethodName := ⟨RX10, "checkEnd", "()V"⟩
abbrev cX10_fill : ByteArray := prog_12_method_19_code
def yX10_fill : MethodName := ⟨RX10, "fill", "(LEvenTables$Table;)V"⟩
abbrev cX10_commonBelow : ByteArray := prog_12_method_20_code
def yX10_commonBelow : MethodName := ⟨RX10, "commonBelow", "()I"⟩
abbrev cX10_areCells : ByteArray := prog_12_method_21_code
def yX10_areCells : MethodName := ⟨RX10, "areCells", "(I)Z"⟩
def RX11 : String := "EvenTables"
def TX11 : u_T := fun k => match k with
  | 0 => ("EvenTables", "slots", "[LEvenTables$Table;", true)
  | 1 => ("EvenTables", "tape", "LEvenTables$Tape;", true)
  | 2 => ("EvenTables", "maker", "LEvenTables$Maker;", true)
  | 3 => ("EvenTables", "choices", "LEvenTables$Choices;", true)
  | 4 => ("EvenTables", "peeler", "LEvenTables$Peeler;", true)
  | 5 => ("EvenTables", "mixture", "LEvenTables$Mixture;", true)
  | 6 => ("EvenTables", "seeker", "LEvenTables$Seeker;", true)
  | 7 => ("EvenTables", "rounder", "LEvenTables$Rounder;", true)
  | _ => ("EvenTables", "shown", "LEvenTables$Shown;", true)
def tyX11 : Nat → FieldType := fun k => match k with
  | 0 => .array (.object "EvenTables$Table")
  | 1 => .object "EvenTables$Tape"
  | 2 => .object "EvenTables$Maker"
  | 3 => .object "EvenTables$Choices"
  | 4 => .object "EvenTables$Peeler"
  | 5 => .object "EvenTables$Mixture"
  | 6 => .object "EvenTables$Seeker"
  | 7 => .object "EvenTables$Rounder"
  | _ => .object "EvenTables$Shown"
abbrev wsX110 : List Cond := u_ws RX11 TX11 9
theorem nmX11 : ∀ a, a < 9 → ∀ b, b < 9 → a ≠ b → (TX11 a).2.1 ≠ (TX11 b).2.1 := by decide +kernel
theorem tyX11_ok : ∀ k, k < 9 → parseFieldDescriptor (TX11 k).2.2.1 = some (tyX11 k) := by decide +kernel
abbrev cX11_init : ByteArray := prog_1_method_1_code
def yX11_init : MethodName := ⟨RX11, "<init>", "()V"⟩
abbrev cX11_feed : ByteArray := prog_1_method_2_code
def yX11_feed : MethodName := ⟨RX11, "feed", "(IIIII)I"⟩
abbrev cX11_end : ByteArray := prog_1_method_3_code
def yX11_end : MethodName := ⟨RX11, "end", "(I)Z"⟩
abbrev cX11_table : ByteArray := prog_1_method_4_code
def yX11_table : MethodName := ⟨RX11, "table", "(I)I"⟩
abbrev cX11_fault : ByteArray := prog_1_method_5_code
def yX11_fault : MethodName := ⟨RX11, "fault", "(I)I"⟩
abbrev cX11_look : ByteArray := prog_1_method_6_code
def yX11_look : MethodName := ⟨RX11, "look", "(II)I"⟩
abbrev cX11_cell : ByteArray := prog_1_method_7_code
def yX11_cell : MethodName := ⟨RX11, "cell", "(III)I"⟩
abbrev cX11_uneven : ByteArray := prog_1_method_8_code
def yX11_uneven : MethodName := ⟨RX11, "uneven", "(I)I"⟩
abbrev cX11_mix : ByteArray := prog_1_method_9_code
def yX11_mix : MethodName := ⟨RX11, "mix", "(IIIIIII)Z"⟩
abbrev cX11_times : ByteArray := prog_1_method_10_code
def yX11_times : MethodName := ⟨RX11, "times", "(III)Z"⟩
abbrev cX11_turn : ByteArray := prog_1_method_11_code
def yX11_turn : MethodName := ⟨RX11, "turn", "(IIII)Z"⟩
abbrev cX11_peel : ByteArray := prog_1_method_12_code
def yX11_peel : MethodName := ⟨RX11, "peel", "(II)I"⟩
abbrev cX11_part : ByteArray := prog_1_method_13_code
def yX11_part : MethodName := ⟨RX11, "part", "(II)I"⟩
abbrev cX11_weight : ByteArray := prog_1_method_14_code
def yX11_weight : MethodName := ⟨RX11, "weight", "(II)I"⟩
abbrev cX11_draw : ByteArray := prog_1_method_15_code
def yX11_draw : MethodName := ⟨RX11, "draw", "(I)I"⟩
abbrev cX11_joint : ByteArray := prog_1_method_16_code
def yX11_joint : MethodName := ⟨RX11, "joint", "(IIIII)I"⟩
abbrev cX11_bound : ByteArray := prog_1_method_17_code
def yX11_bound : MethodName := ⟨RX11, "bound", "(II)I"⟩
abbrev cX11_lack : ByteArray := prog_1_method_18_code
def yX11_lack : MethodName := ⟨RX11, "lack", "(III)I"⟩
abbrev cX11_paired : ByteArray := prog_1_method_19_code
def yX11_paired : MethodName := ⟨RX11, "paired", "(III)I"⟩
abbrev cX11_ways : ByteArray := prog_1_method_20_code
def yX11_ways : MethodName := ⟨RX11, "ways", "(II)I"⟩
abbrev cX11_widest : ByteArray := prog_1_method_21_code
def yX11_widest : MethodName := ⟨RX11, "widest", "(I)I"⟩
abbrev cX11_best : ByteArray := prog_1_method_22_code
def yX11_best : MethodName := ⟨RX11, "best", "(II)J"⟩
abbrev cX11_permanent : ByteArray := prog_1_method_23_code
def yX11_permanent : MethodName := ⟨RX11, "permanent", "(I)J"⟩
abbrev cX11_sought : ByteArray := prog_1_method_24_code
def yX11_sought : MethodName := ⟨RX11, "sought", "(II)I"⟩
abbrev cX11_rounded : ByteArray := prog_1_method_25_code
def yX11_rounded : MethodName := ⟨RX11, "rounded", "(III)I"⟩
abbrev cX11_most : ByteArray := prog_1_method_26_code
def yX11_most : MethodName := ⟨RX11, "most", "(II)I"⟩
abbrev cX11_mixing : ByteArray := prog_1_method_27_code
def yX11_mixing : MethodName := ⟨RX11, "mixing", "(I)I"⟩
abbrev cX11_kin : ByteArray := prog_1_method_28_code
def yX11_kin : MethodName := ⟨RX11, "kin", "(II)I"⟩
abbrev cX11_show : ByteArray := prog_1_method_29_code
def yX11_show : MethodName := ⟨RX11, "show", "()I"⟩
abbrev cX11_out : ByteArray := prog_1_method_30_code
def yX11_out : MethodName := ⟨RX11, "out", "(I)I"⟩
abbrev cX11_shop : ByteArray := prog_1_method_31_code
def yX11_shop : MethodName := ⟨RX11, "shop", "(II)I"⟩
abbrev cX11_works : ByteArray := prog_1_method_32_code
def yX11_works : MethodName := ⟨RX11, "works", "(II)I"⟩
abbrev cX11_job : ByteArray := prog_1_method_33_code
def yX11_job : MethodName := ⟨RX11, "job", "(II)I"⟩
abbrev cX11_kept : ByteArray := prog_1_method_34_code
def yX11_kept : MethodName := ⟨RX11, "kept", "(I)I"⟩
abbrev cX11_slotAt : ByteArray := prog_1_method_35_code
def yX11_slotAt : MethodName := ⟨RX11, "slotAt", "(I)LEvenTables$Table;"⟩
abbrev cX11_filledSlot : ByteArray := prog_1_method_36_code
def yX11_filledSlot : MethodName := ⟨RX11, "filledSlot", "(I)LEvenTables$Table;"⟩
abbrev cX11_evenSlot : ByteArray := prog_1_method_37_code
def yX11_evenSlot : MethodName := ⟨RX11, "evenSlot", "(I)LEvenTables$Table;"⟩
abbrev cX11_areLike : ByteArray := prog_1_method_38_code
def yX11_areLike : MethodName := ⟨RX11, "areLike", "(III)Z"⟩
abbrev cX11_keepParts : ByteArray := prog_1_method_39_code
def yX11_keepParts : MethodName := ⟨RX11, "keepParts", "(I)I"⟩
abbrev cX11_isRule : ByteArray := prog_1_method_40_code
def yX11_isRule : MethodName := ⟨RX11, "isRule", "(I)Z"⟩
abbrev cX11_isCell : ByteArray := prog_1_method_41_code
def yX11_isCell : MethodName := ⟨RX11, "isCell", "(I)Z"⟩
abbrev cX11_isShare : ByteArray := prog_1_method_42_code
def yX11_isShare : MethodName := ⟨RX11, "isShare", "(II)Z"⟩
def RX12 : String := "EvenTablesModel"
def TX12 : u_T := fun k => match k with
  | 0 => ("EvenTablesModel", "size", "[I", true)
  | 1 => ("EvenTablesModel", "below", "[I", true)
  | 2 => ("EvenTablesModel", "cells", "[I", true)
  | 3 => ("EvenTablesModel", "fresh", "[J", true)
  | 4 => ("EvenTablesModel", "freshBelow", "J", false)
  | 5 => ("EvenTablesModel", "tape", "[I", true)
  | 6 => ("EvenTablesModel", "taped", "I", false)
  | 7 => ("EvenTablesModel", "fault", "I", false)
  | 8 => ("EvenTablesModel", "faultPlace", "I", false)
  | 9 => ("EvenTablesModel", "bad", "I", false)
  | 10 => ("EvenTablesModel", "badPlace", "I", false)
  | 11 => ("EvenTablesModel", "sort", "I", false)
  | 12 => ("EvenTablesModel", "from", "I", false)
  | 13 => ("EvenTablesModel", "to", "I", false)
  | 14 => ("EvenTablesModel", "number", "I", false)
  | 15 => ("EvenTablesModel", "sign", "I", false)
  | 16 => ("EvenTablesModel", "above", "[I", true)
  | 17 => ("EvenTablesModel", "under", "[I", true)
  | 18 => ("EvenTablesModel", "rows", "I", false)
  | 19 => ("EvenTablesModel", "wide", "I", false)
  | 20 => ("EvenTablesModel", "group", "[I", true)
  | 21 => ("EvenTablesModel", "work", "[I", true)
  | 22 => ("EvenTablesModel", "workSize", "I", false)
  | 23 => ("EvenTablesModel", "can", "[J", true)
  | 24 => ("EvenTablesModel", "choice", "[I", true)
  | 25 => ("EvenTablesModel", "weight", "[I", true)
  | 26 => ("EvenTablesModel", "column", "[I", true)
  | 27 => ("EvenTablesModel", "parts", "I", false)
  | 28 => ("EvenTablesModel", "keptSize", "I", false)
  | 29 => ("EvenTablesModel", "keptSum", "I", false)
  | 30 => ("EvenTablesModel", "keptKind", "I", false)
  | 31 => ("EvenTablesModel", "shopSize", "I", false)
  | 32 => ("EvenTablesModel", "free", "[I", true)
  | 33 => ("EvenTablesModel", "low", "[I", true)
  | 34 => ("EvenTablesModel", "high", "[I", true)
  | 35 => ("EvenTablesModel", "cap", "[I", true)
  | 36 => ("EvenTablesModel", "came", "[I", true)
  | 37 => ("EvenTablesModel", "line", "[I", true)
  | 38 => ("EvenTablesModel", "sums", "[J", true)
  | 39 => ("EvenTablesModel", "reach", "[Z", true)
  | 40 => ("EvenTablesModel", "further", "[Z", true)
  | 41 => ("EvenTablesModel", "shown", "[I", true)
  | _ => ("EvenTablesModel", "showns", "I", false)
def tyX12 : Nat → FieldType := fun k => match k with
  | 0 => .array .int
  | 1 => .array .int
  | 2 => .array .int
  | 3 => .array .long
  | 4 => .long
  | 5 => .array .int
  | 6 => .int
  | 7 => .int
  | 8 => .int
  | 9 => .int
  | 10 => .int
  | 11 => .int
  | 12 => .int
  | 13 => .int
  | 14 => .int
  | 15 => .int
  | 16 => .array .int
  | 17 => .array .int
  | 18 => .int
  | 19 => .int
  | 20 => .array .int
  | 21 => .array .int
  | 22 => .int
  | 23 => .array .long
  | 24 => .array .int
  | 25 => .array .int
  | 26 => .array .int
  | 27 => .int
  | 28 => .int
  | 29 => .int
  | 30 => .int
  | 31 => .int
  | 32 => .array .int
  | 33 => .array .int
  | 34 => .array .int
  | 35 => .array .int
  | 36 => .array .int
  | 37 => .array .int
  | 38 => .array .long
  | 39 => .array .boolean
  | 40 => .array .boolean
  | 41 => .array .int
  | _ => .int
abbrev wsX120 : List Cond := u_ws RX12 TX12 43
theorem nmX12 : ∀ a, a < 43 → ∀ b, b < 43 → a ≠ b → (TX12 a).2.1 ≠ (TX12 b).2.1 := by decide +kernel
theorem tyX12_ok : ∀ k, k < 43 → parseFieldDescriptor (TX12 k).2.2.1 = some (tyX12 k) := by decide +kernel
abbrev cX12_isIn : ByteArray := prog_14_method_1_code
def yX12_isIn : MethodName := ⟨RX12, "isIn", "(JJJ)Z"⟩
abbrev cX12_one : ByteArray := prog_14_method_2_code
def yX12_one : MethodName := ⟨RX12, "one", "(Z)I"⟩
abbrev cX12_init : ByteArray := prog_14_method_3_code
def yX12_init : MethodName := ⟨RX12, "<init>", "()V"⟩
abbrev cX12_common : ByteArray := prog_14_method_4_code
def yX12_common : MethodName := ⟨RX12, "common", "(JJ)J"⟩
abbrev cX12_takes : ByteArray := prog_14_method_5_code
def yX12_takes : MethodName := ⟨RX12, "takes", "(II)Z"⟩
abbrev cX12_isSlot : ByteArray := prog_14_method_6_code
def yX12_isSlot : MethodName := ⟨RX12, "isSlot", "(I)Z"⟩
abbrev cX12_isTable : ByteArray := prog_14_method_7_code
def yX12_isTable : MethodName := ⟨RX12, "isTable", "(I)Z"⟩
abbrev cX12_at : ByteArray := prog_14_method_8_code
def yX12_at : MethodName := ⟨RX12, "at", "(III)I"⟩
abbrev cX12_rowOf : ByteArray := prog_14_method_9_code
def yX12_rowOf : MethodName := ⟨RX12, "rowOf", "(II)J"⟩
abbrev cX12_columnOf : ByteArray := prog_14_method_10_code
def yX12_columnOf : MethodName := ⟨RX12, "columnOf", "(II)J"⟩
abbrev cX12_isEven : ByteArray := prog_14_method_11_code
def yX12_isEven : MethodName := ⟨RX12, "isEven", "(I)Z"⟩
abbrev cX12_uneven : ByteArray := prog_14_method_12_code
def yX12_uneven : MethodName := ⟨RX12, "uneven", "(I)I"⟩
abbrev cX12_four : ByteArray := prog_14_method_13_code
def yX12_four : MethodName := ⟨RX12, "four", "(I)V"⟩
abbrev cX12_feed : ByteArray := prog_14_method_14_code
def yX12_feed : MethodName := ⟨RX12, "feed", "(IIIII)I"⟩
abbrev cX12_end : ByteArray := prog_14_method_15_code
def yX12_end : MethodName := ⟨RX12, "end", "(I)Z"⟩
abbrev cX12_see : ByteArray := prog_14_method_16_code
def yX12_see : MethodName := ⟨RX12, "see", "(I)I"⟩
abbrev cX12_next : ByteArray := prog_14_method_17_code
def yX12_next : MethodName := ⟨RX12, "next", "()V"⟩
abbrev cX12_fails : ByteArray := prog_14_method_18_code
def yX12_fails : MethodName := ⟨RX12, "fails", "(I)Z"⟩
abbrev cX12_isNumber : ByteArray := prog_14_method_19_code
def yX12_isNumber : MethodName := ⟨RX12, "isNumber", "()Z"⟩
abbrev cX12_readFraction : ByteArray := prog_14_method_20_code
def yX12_readFraction : MethodName := ⟨RX12, "readFraction", "(I)Z"⟩
abbrev cX12_readRow : ByteArray := prog_14_method_21_code
def yX12_readRow : MethodName := ⟨RX12, "readRow", "()Z"⟩
abbrev cX12_isOver : ByteArray := prog_14_method_22_code
def yX12_isOver : MethodName := ⟨RX12, "isOver", "(I)Z"⟩
abbrev cX12_table : ByteArray := prog_14_method_23_code
def yX12_table : MethodName := ⟨RX12, "table", "(I)I"⟩
abbrev cX12_fault : ByteArray := prog_14_method_24_code
def yX12_fault : MethodName := ⟨RX12, "fault", "(I)I"⟩
abbrev cX12_groupsOf : ByteArray := prog_14_method_25_code
def yX12_groupsOf : MethodName := ⟨RX12, "groupsOf", "(I)I"⟩
abbrev cX12_aboveNought : ByteArray := prog_14_method_26_code
def yX12_aboveNought : MethodName := ⟨RX12, "aboveNought", "(I)I"⟩
abbrev cX12_look : ByteArray := prog_14_method_27_code
def yX12_look : MethodName := ⟨RX12, "look", "(II)I"⟩
abbrev cX12_isCell : ByteArray := prog_14_method_28_code
def yX12_isCell : MethodName := ⟨RX12, "isCell", "(III)Z"⟩
abbrev cX12_cell : ByteArray := prog_14_method_29_code
def yX12_cell : MethodName := ⟨RX12, "cell", "(III)I"⟩
abbrev cX12_isPart : ByteArray := prog_14_method_30_code
def yX12_isPart : MethodName := ⟨RX12, "isPart", "(II)Z"⟩
abbrev cX12_grown : ByteArray := prog_14_method_31_code
def yX12_grown : MethodName := ⟨RX12, "grown", "(JJ)J"⟩
abbrev cX12_mix : ByteArray := prog_14_method_32_code
def yX12_mix : MethodName := ⟨RX12, "mix", "(IIIIIII)Z"⟩
abbrev cX12_times : ByteArray := prog_14_method_33_code
def yX12_times : MethodName := ⟨RX12, "times", "(III)Z"⟩
abbrev cX12_behind : ByteArray := prog_14_method_34_code
def yX12_behind : MethodName := ⟨RX12, "behind", "(III)I"⟩
abbrev cX12_turn : ByteArray := prog_14_method_35_code
def yX12_turn : MethodName := ⟨RX12, "turn", "(IIII)Z"⟩
abbrev cX12_bits : ByteArray := prog_14_method_36_code
def yX12_bits : MethodName := ⟨RX12, "bits", "(I)I"⟩
abbrev cX12_worked : ByteArray := prog_14_method_37_code
def yX12_worked : MethodName := ⟨RX12, "worked", "(II)I"⟩
abbrev cX12_worksOn : ByteArray := prog_14_method_38_code
def yX12_worksOn : MethodName := ⟨RX12, "worksOn", "(I)V"⟩
abbrev cX12_laysCan : ByteArray := prog_14_method_39_code
def yX12_laysCan : MethodName := ⟨RX12, "laysCan", "(IZ)V"⟩
abbrev cX12_isChosen : ByteArray := prog_14_method_40_code
def yX12_isChosen : MethodName := ⟨RX12, "isChosen", "(III)Z"⟩
abbrev cX12_isOpen : ByteArray := prog_14_method_41_code
def yX12_isOpen : MethodName := ⟨RX12, "isOpen", "(IIIII)Z"⟩
abbrev cX12_chooseGreatest : ByteArray := prog_14_method_42_code
def yX12_chooseGreatest : MethodName := ⟨RX12, "chooseGreatest", "(I)J"⟩
abbrev cX12_choose : ByteArray := prog_14_method_43_code
def yX12_choose : MethodName := ⟨RX12, "choose", "(I)V"⟩
abbrev cX12_isLeft : ByteArray := prog_14_method_44_code
def yX12_isLeft : MethodName := ⟨RX12, "isLeft", "()Z"⟩
abbrev cX12_peels : ByteArray := prog_14_method_45_code
def yX12_peels : MethodName := ⟨RX12, "peels", "(I)I"⟩
abbrev cX12_keepsAll : ByteArray := prog_14_method_46_code
def yX12_keepsAll : MethodName := ⟨RX12, "keepsAll", "(III)I"⟩
abbrev cX12_isRule : ByteArray := prog_14_method_47_code
def yX12_isRule : MethodName := ⟨RX12, "isRule", "(I)Z"⟩
abbrev cX12_peel : ByteArray := prog_14_method_48_code
def yX12_peel : MethodName := ⟨RX12, "peel", "(II)I"⟩
abbrev cX12_isPartThere : ByteArray := prog_14_method_49_code
def yX12_isPartThere : MethodName := ⟨RX12, "isPartThere", "(I)Z"⟩
abbrev cX12_isKeptRow : ByteArray := prog_14_method_50_code
def yX12_isKeptRow : MethodName := ⟨RX12, "isKeptRow", "(I)Z"⟩
abbrev cX12_part : ByteArray := prog_14_method_51_code
def yX12_part : MethodName := ⟨RX12, "part", "(II)I"⟩
abbrev cX12_weight : ByteArray := prog_14_method_52_code
def yX12_weight : MethodName := ⟨RX12, "weight", "(II)I"⟩
abbrev cX12_draw : ByteArray := prog_14_method_53_code
def yX12_draw : MethodName := ⟨RX12, "draw", "(I)I"⟩
abbrev cX12_joint : ByteArray := prog_14_method_54_code
def yX12_joint : MethodName := ⟨RX12, "joint", "(IIIII)I"⟩
abbrev cX12_together : ByteArray := prog_14_method_55_code
def yX12_together : MethodName := ⟨RX12, "together", "(II)I"⟩
abbrev cX12_most : ByteArray := prog_14_method_56_code
def yX12_most : MethodName := ⟨RX12, "most", "(II)I"⟩
abbrev cX12_bound : ByteArray := prog_14_method_57_code
def yX12_bound : MethodName := ⟨RX12, "bound", "(II)I"⟩
abbrev cX12_fewest : ByteArray := prog_14_method_58_code
def yX12_fewest : MethodName := ⟨RX12, "fewest", "(I)I"⟩
abbrev cX12_lies : ByteArray := prog_14_method_59_code
def yX12_lies : MethodName := ⟨RX12, "lies", "(III)J"⟩
abbrev cX12_sought : ByteArray := prog_14_method_60_code
def yX12_sought : MethodName := ⟨RX12, "sought", "(II)I"⟩
abbrev cX12_ruleOf : ByteArray := prog_14_method_61_code
def yX12_ruleOf : MethodName := ⟨RX12, "ruleOf", "(II)I"⟩
abbrev cX12_cut : ByteArray := prog_14_method_62_code
def yX12_cut : MethodName := ⟨RX12, "cut", "(JI)I"⟩
abbrev cX12_up : ByteArray := prog_14_method_63_code
def yX12_up : MethodName := ⟨RX12, "up", "(JI)I"⟩
abbrev cX12_laysBounds : ByteArray := prog_14_method_64_code
def yX12_laysBounds : MethodName := ⟨RX12, "laysBounds", "(I)V"⟩
abbrev cX12_edge : ByteArray := prog_14_method_65_code
def yX12_edge : MethodName := ⟨RX12, "edge", "(IIII)V"⟩
abbrev cX12_isKept : ByteArray := prog_14_method_66_code
def yX12_isKept : MethodName := ⟨RX12, "isKept", "(I)Z"⟩
abbrev cX12_isWay : ByteArray := prog_14_method_67_code
def yX12_isWay : MethodName := ⟨RX12, "isWay", "()Z"⟩
abbrev cX12_rounded : ByteArray := prog_14_method_68_code
def yX12_rounded : MethodName := ⟨RX12, "rounded", "(III)I"⟩
abbrev cX12_isLeast : ByteArray := prog_14_method_69_code
def yX12_isLeast : MethodName := ⟨RX12, "isLeast", "(I)Z"⟩
abbrev cX12_joined : ByteArray := prog_14_method_70_code
def yX12_joined : MethodName := ⟨RX12, "joined", "(III)I"⟩
abbrev cX12_lack : ByteArray := prog_14_method_71_code
def yX12_lack : MethodName := ⟨RX12, "lack", "(III)I"⟩
abbrev cX12_paired : ByteArray := prog_14_method_72_code
def yX12_paired : MethodName := ⟨RX12, "paired", "(III)I"⟩
abbrev cX12_isSummed : ByteArray := prog_14_method_73_code
def yX12_isSummed : MethodName := ⟨RX12, "isSummed", "(IIZ)Z"⟩
abbrev cX12_ways : ByteArray := prog_14_method_74_code
def yX12_ways : MethodName := ⟨RX12, "ways", "(II)I"⟩
abbrev cX12_widest : ByteArray := prog_14_method_75_code
def yX12_widest : MethodName := ⟨RX12, "widest", "(I)I"⟩
abbrev cX12_best : ByteArray := prog_14_method_76_code
def yX12_best : MethodName := ⟨RX12, "best", "(II)J"⟩
abbrev cX12_permanent : ByteArray := prog_14_method_77_code
def yX12_permanent : MethodName := ⟨RX12, "permanent", "(I)J"⟩
abbrev cX12_mixing : ByteArray := prog_14_method_78_code
def yX12_mixing : MethodName := ⟨RX12, "mixing", "(I)I"⟩
abbrev cX12_kin : ByteArray := prog_14_method_79_code
def yX12_kin : MethodName := ⟨RX12, "kin", "(II)I"⟩
abbrev cX12_says : ByteArray := prog_14_method_80_code
def yX12_says : MethodName := ⟨RX12, "says", "(I)V"⟩
abbrev cX12_show : ByteArray := prog_14_method_81_code
def yX12_show : MethodName := ⟨RX12, "show", "()I"⟩
abbrev cX12_out : ByteArray := prog_14_method_82_code
def yX12_out : MethodName := ⟨RX12, "out", "(I)I"⟩
abbrev cX12_shop : ByteArray := prog_14_method_83_code
def yX12_shop : MethodName := ⟨RX12, "shop", "(II)I"⟩
abbrev cX12_isJob : ByteArray := prog_14_method_84_code
def yX12_isJob : MethodName := ⟨RX12, "isJob", "(I)Z"⟩
abbrev cX12_works : ByteArray := prog_14_method_85_code
def yX12_works : MethodName := ⟨RX12, "works", "(II)I"⟩
abbrev cX12_job : ByteArray := prog_14_method_86_code
def yX12_job : MethodName := ⟨RX12, "job", "(II)I"⟩
abbrev cX12_kept : ByteArray := prog_14_method_87_code
def yX12_kept : MethodName := ⟨RX12, "kept", "(I)I"⟩
def RJ6 : String := "java/lang/Integer"
abbrev cJ6_bitCount_0f7a4 : ByteArray := prog_15_method_49_code
def yJ6_bitCount_0f7a4 : MethodName := ⟨RJ6, "bitCount", "(I)I"⟩
def RJ13 : String := "java/lang/Long"
abbrev cJ13_bitCount_95d88 : ByteArray := prog_16_method_50_code
def yJ13_bitCount_95d88 : MethodName := ⟨RJ13, "bitCount", "(J)I"⟩
def RJ9 : String := "java/lang/Math"
abbrev cJ9_max_7cf53 : ByteArray := prog_17_method_65_code
def yJ9_max_7cf53 : MethodName := ⟨RJ9, "max", "(II)I"⟩
abbrev cJ9_max_f86c9 : ByteArray := prog_17_method_66_code
def yJ9_max_f86c9 : MethodName := ⟨RJ9, "max", "(JJ)J"⟩
abbrev cJ9_min_7cf53 : ByteArray := prog_17_method_69_code
def yJ9_min_7cf53 : MethodName := ⟨RJ9, "min", "(II)I"⟩
abbrev cJ9_min_f86c9 : ByteArray := prog_17_method_70_code
def yJ9_min_f86c9 : MethodName := ⟨RJ9, "min", "(JJ)J"⟩
def RJ10 : String := "java/lang/System"
def RJ7 : String := "java/util/Arrays"
abbrev cJ7_fill_53178 : ByteArray := prog_19_method_103_code
def yJ7_fill_53178 : MethodName := ⟨RJ7, "fill", "([II)V"⟩
def RL : String := "EvenTablesLaw"
abbrev cL_law : ByteArray := code
def yL_law : MethodName := ⟨RL, "law", "([I)Z"⟩
abbrev eCl : List vw_C := [(RX0, TX0, 4), (RX2, TX2, 1), (RX3, TX3, 7), (RX5, TX5, 6), (RX6, TX6, 5), (RX7, TX7, 5), (RX8, TX8, 2), (RX9, TX9, 9), (RX10, TX10, 10), (RX11, TX11, 9), (RX12, TX12, 43)]
theorem inX0 : ∀ w ∈ u_ws RX0 TX0 4, w ∈ lw_tbl := by decide +kernel
theorem inX2 : ∀ w ∈ u_ws RX2 TX2 1, w ∈ lw_tbl := by decide +kernel
theorem inX3 : ∀ w ∈ u_ws RX3 TX3 7, w ∈ lw_tbl := by decide +kernel
theorem inX5 : ∀ w ∈ u_ws RX5 TX5 6, w ∈ lw_tbl := by decide +kernel
theorem inX6 : ∀ w ∈ u_ws RX6 TX6 5, w ∈ lw_tbl := by decide +kernel
theorem inX7 : ∀ w ∈ u_ws RX7 TX7 5, w ∈ lw_tbl := by decide +kernel
theorem inX8 : ∀ w ∈ u_ws RX8 TX8 2, w ∈ lw_tbl := by decide +kernel
theorem inX9 : ∀ w ∈ u_ws RX9 TX9 9, w ∈ lw_tbl := by decide +kernel
theorem inX10 : ∀ w ∈ u_ws RX10 TX10 10, w ∈ lw_tbl := by decide +kernel
theorem inX11 : ∀ w ∈ u_ws RX11 TX11 9, w ∈ lw_tbl := by decide +kernel
theorem inX12 : ∀ w ∈ u_ws RX12 TX12 43, w ∈ lw_tbl := by decide +kernel
end
section
/-! PURE STATES: a value is an int, a long, or a reference (the number of a cell) or null; a state is a number for each cell and place -/
abbrev eV : Type := Int ⊕ (Int ⊕ Option Nat)
abbrev eS : Type := Nat → Int → Int
abbrev eSh : Type := List (Nat × Nat × List Nat)
abbrev eM : Type := String × MethodName × ByteArray × Nat × Option FieldType × Room × List (Nat × Instr × Nat)
abbrev vi (z : Int) : eV := .inl z
abbrev vl (z : Int) : eV := .inr (.inl z)
abbrev vr (c : Nat) : eV := .inr (.inr (some c))
abbrev vn : eV := .inr (.inr none)
abbrev eOwn (M : eM) : String := M.1
abbrev eNm (M : eM) : MethodName := M.2.1
abbrev eCode (M : eM) : ByteArray := M.2.2.1
abbrev eNL (M : eM) : Nat := M.2.2.2.1
abbrev eRet (M : eM) : Option FieldType := M.2.2.2.2.1
abbrev eRm (M : eM) : Room := M.2.2.2.2.2.1
abbrev eTab (M : eM) : List (Nat × Instr × Nat) := M.2.2.2.2.2.2
abbrev rg (z : Int) : Prop := -2147483648 ≤ z ∧ z < 2147483648
abbrev rl (z : Int) : Prop := -9223372036854775808 ≤ z ∧ z < 9223372036854775808
def wr (z : Int) : Int := (Int32.ofInt z).toInt
def wl (z : Int) : Int := (Int64.ofInt z).toInt
def eTbl : List Cond := lw_tbl.filter goodWord
theorem eTbl_in {w : Cond} (h : w ∈ eTbl) : w ∈ lw_tbl := (List.mem_filter.mp h).1
theorem eTbl_good {w : Cond} (h : w ∈ eTbl) : goodWord w = true := (List.mem_filter.mp h).2
theorem eTbl_mk {w : Cond} (h : w ∈ lw_tbl) (g : goodWord w = true) : w ∈ eTbl := List.mem_filter.mpr ⟨h, g⟩
theorem eTbl_all (L : List Cond) (h : L.all (fun w => decide (w ∈ lw_tbl) && goodWord w) = true) : ∀ w ∈ L, w ∈ eTbl := fun w hw => by
  have h1 := List.all_eq_true.mp h w hw
  simp only [Bool.and_eq_true, decide_eq_true_eq] at h1
  exact eTbl_mk h1.1 h1.2
/-- the n-th of a list, by its numeral -/
def nth {α : Type} : List α → Nat → Option α
  | [], _ => none
  | a :: _, 0 => some a
  | _ :: l, n + 1 => nth l n
theorem nth_mem {α : Type} : ∀ {l : List α} {n : Nat} {a : α}, nth l n = some a → a ∈ l
  | [], _, _, h => by cases h
  | b :: l, 0, a, h => by cases h; exact List.mem_cons_self
  | b :: l, n + 1, a, h => List.mem_cons_of_mem _ (nth_mem (l := l) (n := n) h)
theorem nth_get {α : Type} : ∀ {l : List α} {n : Nat} {a : α}, nth l n = some a → l[n]? = some a
  | [], _, _, h => by cases h
  | b :: l, 0, a, h => by cases h; rfl
  | b :: l, n + 1, a, h => by rw [List.getElem?_cons_succ]; exact nth_get (l := l) (n := n) h
def eWs (M : eM) : List Cond := Cond.code (eNm M) (eCode M) (eNL M) (eRet M) :: eTbl
/-- a method's table is its code, its word stands in the tables -/
def okM (M : eM) : Prop := (∀ e ∈ eTab M, decode (eCode M) e.1 = .ok (e.2.1, e.2.2 - e.1)) ∧ Cond.code (eNm M) (eCode M) (eNL M) (eRet M) ∈ eTbl ∧ plainName (eNm M).cls = true ∧ (eNm M).cls = eOwn M ∧ (eRm M).cells = 0 ∧ (eRm M).slots = 0
theorem okM.dec {M : eM} (h : okM M) {i pc n n' : Nat} {ins : Instr} (hd : nth (eTab M) i = some (pc, ins, n')) (hn : pc + n = n') : decode (eCode M) pc = .ok (ins, n) := by
  have h1 := h.1 _ (nth_mem hd)
  rw [h1, ← hn]
  show Except.ok (ins, pc + n - pc) = _
  rw [Nat.add_sub_cancel_left]
/-! values of the machine -/
def eR (ad : Nat → Nat) : eV → Value
  | .inl z => .int (Int32.ofInt z)
  | .inr (.inl z) => .long (Int64.ofInt z)
  | .inr (.inr none) => .null
  | .inr (.inr (some c)) => .ref (ad c)
def eK : eV → Prop
  | .inl z => rg z
  | .inr (.inl z) => rl z
  | .inr (.inr _) => True
def eKs : List eV → Prop
  | [] => True
  | v :: l => eK v ∧ eKs l
def eCat : eV → Nat
  | .inr (.inl _) => 2
  | _ => 1
theorem eR_cat (ad : Nat → Nat) (v : eV) : (eR ad v).category = eCat v := by
  rcases v with z | z | _ | c <;> rfl
def eFv (ad : Nat → Nat) (z : Int) (t : Nat) : Value := if t = 1 then .long (Int64.ofInt z) else if t < 3 then .int (Int32.ofInt z) else .ref (ad (t - 3))
def eTy : Nat → FieldType
  | 2 => .long
  | 3 => .boolean
  | 4 => .object "EvenTables$Table"
  | 5 => .object "EvenTables$Peeler"
  | _ => .int
def eE (dA : Nat → ClassId) (ad : Nat → Nat) (σ : eS) (c : Nat) (r : Nat × Nat × List Nat) : va_E :=
  if r.1 = 0 then .inr (r.2.1, r.2.2.mapIdx (fun k t => eFv ad (σ c (k : Nat)) t))
  else if r.1 = 2 then .inl (dA c, r.2.1, .inr (.inl (fun k => Int64.ofInt (σ c ((k : Nat) : Int)))))
  else if r.1 = 4 ∨ r.1 = 5 then .inl (dA c, r.2.1, .inr (.inr (.inr (.inr (fun k => r.2.2[k]?.map ad)))))
  else .inl (dA c, r.2.1, .inl (fun k => Int32.ofInt (σ c ((k : Nat) : Int))))
def eW (sh : eSh) (dA : Nat → ClassId) (ad : Nat → Nat) (σ : eS) : va_W := sh.mapIdx (fun c r => (ad c, eE dA ad σ c r))
def eA (sh : eSh) (ad : Nat → Nat) : Nat → Prop := fun q => ∃ c, c < sh.length ∧ q = ad c
def eKA (sh : eSh) (dA : Nat → ClassId) (U : State) : Prop := ∀ (c : Nat) (r : Nat × Nat × List Nat), sh[c]? = some r → r.1 ≠ 0 → ArrOfT U (dA c) (eTy r.1) ∧ va_RA U (dA c) (eTy r.1)
def eLong (sh : eSh) (c : Nat) (k : Int) : Bool := match sh[c]? with
  | some (0, _, ts) => ts[k.toNat]? == some 1
  | some (2, _, _) => true
  | _ => false
/-- the numbers are in the range of their types -/
def eGd (sh : eSh) (σ : eS) : Prop := ∀ c (k : Int), rl (σ c k) ∧ (eLong sh c k = false → rg (σ c k))
def eInj (sh : eSh) (ad : Nat → Nat) : Prop := ∀ i j, i < sh.length → j < sh.length → ad i = ad j → i = j
theorem eW_at {sh : eSh} {dA : Nat → ClassId} {ad : Nat → Nat} {σ : eS} {c : Nat} {r : Nat × Nat × List Nat} (h : sh[c]? = some r) : (eW sh dA ad σ)[c]? = some (ad c, eE dA ad σ c r) := by
  simp [eW, h]
theorem eW_inv {sh : eSh} {dA : Nat → ClassId} {ad : Nat → Nat} {σ : eS} {c : Nat} {q : Nat × va_E} (h : (eW sh dA ad σ)[c]? = some q) : ∃ r, sh[c]? = some r ∧ q = (ad c, eE dA ad σ c r) := by
  simp only [eW, List.getElem?_mapIdx, Option.map_eq_some_iff] at h
  obtain ⟨r, h1, h2⟩ := h
  exact ⟨r, h1, h2.symm⟩
theorem eD {sh : eSh} {dA : Nat → ClassId} {ad : Nat → Nat} {σ : eS} (h : eInj sh ad) : va_D (eA sh ad) (eW sh dA ad σ) := by
  refine ⟨fun i j p q hp hq hpq => ?_, fun k q hk => ?_⟩
  · obtain ⟨r1, h1, rfl⟩ := eW_inv hp
    obtain ⟨r2, h2, rfl⟩ := eW_inv hq
    exact h i j (List.getElem?_eq_some_iff.mp h1).1 (List.getElem?_eq_some_iff.mp h2).1 hpq
  · obtain ⟨r, h1, rfl⟩ := eW_inv hk
    exact ⟨k, (List.getElem?_eq_some_iff.mp h1).1, rfl⟩
/-! locals -/
def eLs (la : Array Slot) (nL : Nat) (ad : Nat → Nat) (ls : List (Option eV)) : Prop := la.size = nL ∧ ls.length = nL ∧ lv_wf la ∧ ∀ (i : Nat) (v : eV), ls[i]? = some (some v) → la[i]? = some (.val (eR ad v)) ∧ eK v
/-! the judgements -/
def eQ (sh : eSh) (D : va_G) (dA : Nat → ClassId) (ad : Nat → Nat) (Q : eS → Option eV → Prop) : Array Value → State → Outcome → State → Prop := fun _ st oc t =>
  (∃ (v : Option eV) (σ : eS), oc = .returned (v.map (eR ad)) ∧ Q σ v ∧ (∀ x, v = some x → eK x) ∧ eGd sh σ ∧ va_P D eCl (eW sh dA ad σ) t.heap) ∧ va_F (eA sh ad) st t
def eCx (sh : eSh) (M : eM) (p : Program) (s : State) (m : MethodId) (args : Array Value) (meth : Method) (c : Code) (D : va_G) (dA : Nat → ClassId) (ad : Nat → Nat) : Prop :=
  okM M ∧ p.tables.exec = Jvm.exec ∧ c.code = eCode M ∧ c.maxLocals = eNL M ∧ meth.sig.returnType = eRet M ∧ meth.locks = false ∧ s.vm.findClass (eOwn M) = some m.cls ∧ (∀ w ∈ eTbl, w.before args s = true) ∧ va_K D eCl [] s ∧ eKA sh dA s ∧ eInj sh ad
def eHp (sh : eSh) (s : State) (D : va_G) (dA : Nat → ClassId) (ad : Nat → Nat) (σ : eS) (H : Heap) (locs : List Loc) : Prop := va_P D eCl (eW sh dA ad σ) H ∧ va_S (eA sh ad) s.heap H locs ∧ eGd sh σ
def Ok (sh : eSh) (M : eM) (pc : Nat) (ls : List (Option eV)) (st : List eV) (σ : eS) (Q : eS → Option eV → Prop) : Prop :=
  ∀ (l : Launch) (p : Program) (e : Env) (s : State) (m : MethodId) (args : Array Value) (below : List Frame) (meth : Method) (c : Code) (D : va_G) (dA : Nat → ClassId) (ad : Nat → Nat) (H : Heap) (locs : List Loc) (la : Array Slot),
    eCx sh M p s m args meth c D dA ad → eHp sh s D dA ad σ H locs → eLs la (eNL M) ad ls → eKs st →
    W p l e (eRm M) s m args below meth c H locs 0 0 (MQ below (eQ sh D dA ad Q) args s 0 0 (eA sh ad)) (F0 m pc la (st.map (eR ad)))
def ePc (sh : eSh) (D : va_G) (dA : Nat → ClassId) (ad : Nat → Nat) (as : List eV) (σ : eS) : Array Value → State → Prop := fun v U =>
  v = (as.map (eR ad)).toArray ∧ va_P D eCl (eW sh dA ad σ) U.heap ∧ va_K D eCl [] U ∧ eKA sh dA U
/-- the method, called with these arguments in this state, ends as Q says -/
def Mt (sh : eSh) (M : eM) (as : List eV) (σ : eS) (Q : eS → Option eV → Prop) : Prop :=
  okM M ∧ ∀ (l : Launch) (D : va_G) (dA : Nat → ClassId) (ad : Nat → Nat), eInj sh ad → eKs as → eGd sh σ → Met l (eNm M) (eWs M) (eRm M) (ePc sh D dA ad as σ) (eQ sh D dA ad Q) 0 0 (eA sh ad)
def eAr : List eV → List (Option eV)
  | [] => []
  | .inr (.inl z) :: l => some (vl z) :: none :: eAr l
  | v :: l => some v :: eAr l
def eIn (as : List eV) (n : Nat) : List (Option eV) := eAr as ++ List.replicate (n - (eAr as).length) none
end
section
theorem lg_cons (v : Value) (vs : List Value) : lg_sl (v :: vs) = (if v.category = 2 then [Slot.val v, Slot.second] else [Slot.val v]) ++ lg_sl vs := by simp [lg_sl]
theorem eAr_one {v : eV} (h : eCat v = 1) (l : List eV) : eAr (v :: l) = some v :: eAr l := by
  rcases v with z | z | _ | c
  · rfl
  · cases h
  · rfl
  · rfl
theorem eCat_12 (v : eV) : eCat v = 1 ∨ ∃ z, v = vl z := by
  rcases v with z | z | _ | c
  · exact Or.inl rfl
  · exact Or.inr ⟨z, rfl⟩
  · exact Or.inl rfl
  · exact Or.inl rfl
theorem eAr_len (ad : Nat → Nat) : ∀ as : List eV, (lg_sl (as.map (eR ad))).length = (eAr as).length
  | [] => rfl
  | v :: l => by
    rw [List.map_cons, lg_cons, List.length_append, eAr_len ad l, eR_cat]
    rcases eCat_12 v with h | ⟨z, rfl⟩
    · rw [h, eAr_one h]
      simp
      omega
    · show 2 + _ = (some (vl z) :: none :: eAr l).length
      simp
      omega
theorem eAr_at (ad : Nat → Nat) : ∀ (as : List eV) (k i : Nat) (v : eV), (eAr as)[i]? = some (some v) → (k + i, eR ad v) ∈ lv_args k (as.map (eR ad)) ∧ v ∈ as := by
  intro as
  induction as with
  | nil => intro k i v h; simp [eAr] at h
  | cons a l ih =>
    intro k i v h
    rcases eCat_12 a with hc | ⟨z, rfl⟩
    · rw [eAr_one hc] at h
      have hcat : ¬ (eR ad a).category = 2 := by rw [eR_cat, hc]; decide
      simp only [List.map_cons, lv_args, hcat, if_false]
      cases i with
      | zero =>
        simp only [List.getElem?_cons_zero, Option.some.injEq] at h
        subst h
        exact ⟨List.mem_cons_self, List.mem_cons_self⟩
      | succ i =>
        rw [List.getElem?_cons_succ] at h
        obtain ⟨h1, h2⟩ := ih (k + 1) i v h
        rw [show k + 1 + i = k + (i + 1) by omega] at h1
        exact ⟨List.mem_cons_of_mem _ h1, List.mem_cons_of_mem _ h2⟩
    · have hcat : (eR ad (.inr (.inl z))).category = 2 := rfl
      simp only [List.map_cons, lv_args, hcat, if_true]
      match i, h with
      | 0, h =>
        simp only [eAr, List.getElem?_cons_zero, Option.some.injEq] at h
        subst h
        exact ⟨List.mem_cons_self, List.mem_cons_self⟩
      | 1, h => simp [eAr] at h
      | i + 2, h =>
        simp only [eAr, List.getElem?_cons_succ] at h
        obtain ⟨h1, h2⟩ := ih (k + 2) i v h
        rw [show k + 2 + i = k + (i + 2) by omega] at h1
        exact ⟨List.mem_cons_of_mem _ h1, List.mem_cons_of_mem _ h2⟩
theorem eKs_at : ∀ {l : List eV}, eKs l → ∀ v ∈ l, eK v
  | _ :: _, h, v, hv => by
    rcases List.mem_cons.mp hv with rfl | hv
    · exact h.1
    · exact eKs_at h.2 v hv
theorem eKs_of : ∀ {l : List eV}, (∀ v ∈ l, eK v) → eKs l
  | [], _ => trivial
  | _ :: _, h => ⟨h _ List.mem_cons_self, eKs_of fun v hv => h v (List.mem_cons_of_mem _ hv)⟩
theorem eLs_in {as : List eV} {n : Nat} (ad : Nat → Nat) (hl : (eAr as).length ≤ n) (hk : eKs as) : eLs (lg_sl (as.map (eR ad)) ++ List.replicate (n - (lg_sl (as.map (eR ad))).length) Slot.unset).toArray n ad (eIn as n) := by
  obtain ⟨h1, h2, h3⟩ := lv_entry (as.map (eR ad)) (n := n) (by rw [eAr_len]; exact hl)
  refine ⟨h1, by simp [eIn]; omega, h2, fun i v h => ?_⟩
  have h4 : (eAr as)[i]? = some (some v) := by
    unfold eIn at h
    by_cases hi : i < (eAr as).length
    · rwa [List.getElem?_append_left hi] at h
    · rw [List.getElem?_append_right (by omega)] at h
      have := List.eq_of_mem_replicate (List.mem_of_getElem? h)
      cases this
  obtain ⟨h5, h6⟩ := eAr_at ad as 0 i v h4
  rw [Nat.zero_add] at h5
  exact ⟨h3 _ h5, eKs_at hk v h6⟩
theorem rg_in {z : Int} (h : rg z) : (Int32.ofInt z).toInt = z := Int32.toInt_ofInt_of_le (by omega) (by omega)
theorem rl_in {z : Int} (h : rl z) : (Int64.ofInt z).toInt = z := Int64.toInt_ofInt_of_le (by omega) (by omega)
theorem rg_to (x : Int32) : rg x.toInt := ⟨Int32.le_toInt _, Int32.toInt_lt _⟩
theorem rl_to (x : Int64) : rl x.toInt := ⟨Int64.le_toInt _, Int64.toInt_lt _⟩
theorem rg_wr (z : Int) : rg (wr z) := rg_to _
theorem rl_wl (z : Int) : rl (wl z) := rl_to _
theorem wr_id {z : Int} (h : rg z) : wr z = z := rg_in h
theorem wl_id {z : Int} (h : rl z) : wl z = z := rl_in h
theorem of_wr (z : Int) : Int32.ofInt (wr z) = Int32.ofInt z := Int32.ofInt_toInt _
theorem of_wl (z : Int) : Int64.ofInt (wl z) = Int64.ofInt z := Int64.ofInt_toInt _
theorem rg_eq {a b : Int} (ha : rg a) (hb : rg b) : Int32.ofInt a = Int32.ofInt b ↔ a = b := ⟨fun h => by rw [← rg_in ha, ← rg_in hb, h], fun h => by rw [h]⟩
theorem rg_lt {a b : Int} (ha : rg a) (hb : rg b) : Int32.ofInt a < Int32.ofInt b ↔ a < b := by rw [Int32.lt_iff_toInt_lt, rg_in ha, rg_in hb]
theorem rg_le {a b : Int} (ha : rg a) (hb : rg b) : Int32.ofInt a ≤ Int32.ofInt b ↔ a ≤ b := by rw [Int32.le_iff_toInt_le, rg_in ha, rg_in hb]
theorem rl_eq {a b : Int} (ha : rl a) (hb : rl b) : Int64.ofInt a = Int64.ofInt b ↔ a = b := ⟨fun h => by rw [← rl_in ha, ← rl_in hb, h], fun h => by rw [h]⟩
theorem rl_lt {a b : Int} (ha : rl a) (hb : rl b) : Int64.ofInt a < Int64.ofInt b ↔ a < b := by rw [Int64.lt_iff_toInt_lt, rl_in ha, rl_in hb]
theorem of_0 : Int32.ofInt 0 = 0 := rfl
theorem rg_0 : rg 0 := by decide
def iand (a b : Int) : Int := (Int32.ofInt a &&& Int32.ofInt b).toInt
def ior (a b : Int) : Int := (Int32.ofInt a ||| Int32.ofInt b).toInt
def ixor (a b : Int) : Int := (Int32.ofInt a ^^^ Int32.ofInt b).toInt
def ishl (a b : Int) : Int := (Int32.ofInt a <<< (Int32.ofInt b &&& 31)).toInt
def ishr (a b : Int) : Int := (Int32.ofInt a >>> (Int32.ofInt b &&& 31)).toInt
def iushr (a b : Int) : Int := (((Int32.ofInt a).toUInt32 >>> ((Int32.ofInt b).toUInt32 &&& Int32.toUInt32 31)).toInt32).toInt
def land (a b : Int) : Int := (Int64.ofInt a &&& Int64.ofInt b).toInt
def lor (a b : Int) : Int := (Int64.ofInt a ||| Int64.ofInt b).toInt
def lxor (a b : Int) : Int := (Int64.ofInt a ^^^ Int64.ofInt b).toInt
def lshl (a b : Int) : Int := ((Int64.ofInt a) <<< ((Int32.ofInt b).toInt64 &&& 63)).toInt
def lushr (a b : Int) : Int := (((Int64.ofInt a).toUInt64 >>> ((Int32.ofInt b).toInt64.toUInt64 &&& Int64.toUInt64 63)).toInt64).toInt
theorem nn_div {a b : Int} (ha : rg a) (hb : rg b) (h0 : 0 ≤ a) (h1 : 0 < b) : Int32.ofInt a / Int32.ofInt b = Int32.ofInt (a / b) ∧ rg (a / b) := by
  have h2 : 0 ≤ a / b := Int.ediv_nonneg h0 (by omega)
  have h3 : a / b ≤ a := Int.ediv_le_self b h0
  have hr : rg (a / b) := ⟨by omega, by omega⟩
  refine ⟨?_, hr⟩
  apply Int32.toInt_inj.mp
  rw [Int32.toInt_div, rg_in ha, rg_in hb, rg_in hr, Int.tdiv_eq_ediv_of_nonneg h0]
  have := wr_id hr
  unfold wr at this
  rwa [Int32.toInt_ofInt] at this
theorem nn_divL {a b : Int} (ha : rl a) (hb : rl b) (h0 : 0 ≤ a) (h1 : 0 < b) : Int64.ofInt a / Int64.ofInt b = Int64.ofInt (a / b) ∧ rl (a / b) := by
  have h2 : 0 ≤ a / b := Int.ediv_nonneg h0 (by omega)
  have h3 : a / b ≤ a := Int.ediv_le_self b h0
  have hr : rl (a / b) := ⟨by omega, by omega⟩
  refine ⟨?_, hr⟩
  apply Int64.toInt_inj.mp
  rw [Int64.toInt_div, rl_in ha, rl_in hb, rl_in hr, Int.tdiv_eq_ediv_of_nonneg h0]
  have := wl_id hr
  unfold wl at this
  rwa [Int64.toInt_ofInt] at this
theorem nn_rem {a b : Int} (ha : rg a) (hb : rg b) (h0 : 0 ≤ a) (h1 : 0 < b) : Int32.ofInt a - Int32.ofInt a / Int32.ofInt b * Int32.ofInt b = Int32.ofInt (a % b) ∧ rg (a % b) := by
  have h4 := Int.emod_nonneg a (by omega : b ≠ 0)
  have h5 := Int.emod_lt_of_pos a h1
  refine ⟨?_, by omega, by omega⟩
  rw [(nn_div ha hb h0 h1).1, ← Int32.ofInt_mul, ← Int32.ofInt_sub]
  congr 1
  have := Int.emod_def a b
  rw [this, Int.mul_comm]
theorem nn_remL {a b : Int} (ha : rl a) (hb : rl b) (h0 : 0 ≤ a) (h1 : 0 < b) : Int64.ofInt a - Int64.ofInt a / Int64.ofInt b * Int64.ofInt b = Int64.ofInt (a % b) ∧ rl (a % b) := by
  have h4 := Int.emod_nonneg a (by omega : b ≠ 0)
  have h5 := Int.emod_lt_of_pos a h1
  refine ⟨?_, by omega, by omega⟩
  rw [(nn_divL ha hb h0 h1).1, ← Int64.ofInt_mul, ← Int64.ofInt_sub]
  congr 1
  have := Int.emod_def a b
  rw [this, Int.mul_comm]
theorem ne_0 {b : Int} (hb : rg b) (h : 0 < b) : ¬ Int32.ofInt b = 0 := fun q => by
  have := (rg_eq hb rg_0).mp (by rw [q]; rfl)
  omega
theorem ne_0L {b : Int} (hb : rl b) (h : 0 < b) : ¬ Int64.ofInt b = 0 := fun q => by
  have := (rl_eq hb (by decide : rl 0)).mp (by rw [q]; rfl)
  omega
theorem i2l_of {a : Int} (ha : rg a) : (Int32.ofInt a).toInt64 = Int64.ofInt a := by
  apply Int64.toInt_inj.mp
  rw [Int32.toInt_toInt64, rg_in ha, rl_in ⟨by omega, by omega⟩]
theorem l2i_of {a : Int} : (Int64.ofInt a).toInt32 = Int32.ofInt a := by
  apply Int32.toInt_inj.mp
  rw [Int64.toInt_toInt32, Int64.toInt_ofInt, Int32.toInt_ofInt]
  exact Int.bmod_bmod_of_dvd (by decide)
section E1
variable {sh : eSh} {M : eM} {pc pc' tgt : Nat} {ls : List (Option eV)} {st st' : List eV} {σ : eS} {Q : eS → Option eV → Prop}
theorem Mt.of {as : List eV} (hM : okM M) (hlen : (eAr as).length ≤ eNL M) (h : eKs as → eGd sh σ → Ok sh M 0 (eIn as (eNL M)) [] σ Q) : Mt sh M as σ Q := by
  refine ⟨hM, fun l D dA ad hi hk hg => ?_⟩
  refine Met.ofW (cc := eCode M) (maxL := eNL M) (ret := eRet M) hM.2.2.1 rfl ?_
  intro p e s m args below meth c s₁ B hml hv
  obtain ⟨rfl, hP, hK, hKA⟩ := hv
  have hown : s.vm.findClass (eNm M).cls = some m.cls := findClass_of_methodNamed B.named
  have hts := atoms_spec (ws := eWs M) B.pre
  rw [lg_entry_eq]
  exact h hk hg l p e s m _ below meth c D dA ad s.heap [] _ ⟨hM, B.exec, B.bytes, hml, B.returns, B.notSynchronized, by rw [← hM.2.2.2.1]; exact hown, fun w hw => hts w (List.mem_cons_of_mem _ hw), hK, hKA, hi⟩ ⟨hP, va_S.rf, hg⟩ (eLs_in ad hlen hk) trivial
theorem Mt.weaken {as : List eV} {Q' : eS → Option eV → Prop} (h : Mt sh M as σ Q) (k : ∀ σ' v, Q σ' v → Q' σ' v) : Mt sh M as σ Q' := by
  refine ⟨h.1, fun l D dA ad hi hk hg => ?_⟩
  have h1 := h.2 l D dA ad hi hk hg
  intro p e a b c s m args below d1 d2 d3 d4
  obtain ⟨t, o, r1, r2, r3, ⟨⟨⟨v, σ', q1, q2, q3⟩, q4⟩, q5⟩⟩ := h1 p e a b c s m args below d1 d2 d3 d4
  exact ⟨t, o, r1, r2, r3, ⟨⟨⟨v, σ', q1, k _ _ q2, q3⟩, q4⟩, q5⟩⟩
/-- what is known of a state's numbers -/
theorem ok_gd (k : eGd sh σ → Ok sh M pc ls st σ Q) : Ok sh M pc ls st σ Q := fun l p e s m args below meth c D dA ad H locs la C hH hL hS => k hH.2.2 l p e s m args below meth c D dA ad H locs la C hH hL hS
theorem ok_ks (k : eKs st → Ok sh M pc ls st σ Q) : Ok sh M pc ls st σ Q := fun l p e s m args below meth c D dA ad H locs la C hH hL hS => k hS l p e s m args below meth c D dA ad H locs la C hH hL hS
theorem ok_kl (k : (∀ (i : Nat) (v : eV), ls[i]? = some (some v) → eK v) → Ok sh M pc ls st σ Q) : Ok sh M pc ls st σ Q := fun l p e s m args below meth c D dA ad H locs la C hH hL hS => k (fun i v h => (hL.2.2.2 i v h).2) l p e s m args below meth c D dA ad H locs la C hH hL hS
theorem Ok.weaken {Q' : eS → Option eV → Prop} (h : Ok sh M pc ls st σ Q') (k : ∀ σ' v, Q' σ' v → Q σ' v) : Ok sh M pc ls st σ Q := by
  intro l p e s m args below meth c D dA ad H locs la C hH hL hS T hT X
  obtain ⟨t, a, o, b1, b2, ⟨⟨v, σ', q1, q2, q3⟩, q4⟩, b4⟩ := h l p e s m args below meth c D dA ad H locs la C hH hL hS T hT X
  exact ⟨t, a, o, b1, b2, ⟨⟨v, σ', q1, k _ _ q2, q3⟩, q4⟩, b4⟩
theorem Ok.go {l : Launch} {p : Program} {e : Env} {s : State} {m : MethodId} {args : Array Value} {below : List Frame} {meth : Method} {c : Code} {D : va_G} {dA : Nat → ClassId} {ad : Nat → Nat} {H : Heap} {locs : List Loc} {la : Array Slot} {n : Nat} {rest : List Value}
    (k : Ok sh M pc' ls st' σ Q) (C : eCx sh M p s m args meth c D dA ad) (hH : eHp sh s D dA ad σ H locs) (hL : eLs la (eNL M) ad ls) (hS : eKs st') (hn : n = pc') (hr : st'.map (eR ad) = rest) :
    W p l e (eRm M) s m args below meth c H locs 0 0 (MQ below (eQ sh D dA ad Q) args s 0 0 (eA sh ad)) (F0 m n la rest) := by
  subst hn; subst hr
  exact k l p e s m args below meth c D dA ad H locs la C hH hL hS
theorem ok_iadd (i : Nat) {a b : Int} (hd : nth (eTab M) i = some (pc, .iadd, pc')) (hn : pc + 1 = pc') (hr : rg (a + b)) (k : Ok sh M pc' ls (vi (a + b) :: st) σ Q) : Ok sh M pc ls (vi b :: vi a :: st) σ Q := by
  intro l p e s m args below meth c D dA ad H locs la C hH hL hS
  obtain ⟨hb, ha, hs⟩ := hS
  exact lv_iadd C.2.1 C.2.2.1 (C.1.dec hd hn) (Ok.go k C hH hL ⟨hr, hs⟩ hn (by show Value.int (Int32.ofInt (a + b)) :: _ = _; rw [Int32.ofInt_add]))
theorem ok_iaddW (i : Nat) {a b : Int} (hd : nth (eTab M) i = some (pc, .iadd, pc')) (hn : pc + 1 = pc') (k : Ok sh M pc' ls (vi (wr (a + b)) :: st) σ Q) : Ok sh M pc ls (vi b :: vi a :: st) σ Q := by
  intro l p e s m args below meth c D dA ad H locs la C hH hL hS
  obtain ⟨hb, ha, hs⟩ := hS
  exact lv_iadd C.2.1 C.2.2.1 (C.1.dec hd hn) (Ok.go k C hH hL ⟨rg_wr _, hs⟩ hn (by show Value.int (Int32.ofInt (wr (a + b))) :: _ = _; rw [of_wr, Int32.ofInt_add]))
theorem ok_isub (i : Nat) {a b : Int} (hd : nth (eTab M) i = some (pc, .isub, pc')) (hn : pc + 1 = pc') (hr : rg (a - b)) (k : Ok sh M pc' ls (vi (a - b) :: st) σ Q) : Ok sh M pc ls (vi b :: vi a :: st) σ Q := by
  intro l p e s m args below meth c D dA ad H locs la C hH hL hS
  obtain ⟨hb, ha, hs⟩ := hS
  exact lv_isub C.2.1 C.2.2.1 (C.1.dec hd hn) (Ok.go k C hH hL ⟨hr, hs⟩ hn (by show Value.int (Int32.ofInt (a - b)) :: _ = _; rw [Int32.ofInt_sub]))
theorem ok_isubW (i : Nat) {a b : Int} (hd : nth (eTab M) i = some (pc, .isub, pc')) (hn : pc + 1 = pc') (k : Ok sh M pc' ls (vi (wr (a - b)) :: st) σ Q) : Ok sh M pc ls (vi b :: vi a :: st) σ Q := by
  intro l p e s m args below meth c D dA ad H locs la C hH hL hS
  obtain ⟨hb, ha, hs⟩ := hS
  exact lv_isub C.2.1 C.2.2.1 (C.1.dec hd hn) (Ok.go k C hH hL ⟨rg_wr _, hs⟩ hn (by show Value.int (Int32.ofInt (wr (a - b))) :: _ = _; rw [of_wr, Int32.ofInt_sub]))
theorem ok_imul (i : Nat) {a b : Int} (hd : nth (eTab M) i = some (pc, .imul, pc')) (hn : pc + 1 = pc') (hr : rg (a * b)) (k : Ok sh M pc' ls (vi (a * b) :: st) σ Q) : Ok sh M pc ls (vi b :: vi a :: st) σ Q := by
  intro l p e s m args below meth c D dA ad H locs la C hH hL hS
  obtain ⟨hb, ha, hs⟩ := hS
  exact lv_imul C.2.1 C.2.2.1 (C.1.dec hd hn) (Ok.go k C hH hL ⟨hr, hs⟩ hn (by show Value.int (Int32.ofInt (a * b)) :: _ = _; rw [Int32.ofInt_mul]))
theorem ok_imulW (i : Nat) {a b : Int} (hd : nth (eTab M) i = some (pc, .imul, pc')) (hn : pc + 1 = pc') (k : Ok sh M pc' ls (vi (wr (a * b)) :: st) σ Q) : Ok sh M pc ls (vi b :: vi a :: st) σ Q := by
  intro l p e s m args below meth c D dA ad H locs la C hH hL hS
  obtain ⟨hb, ha, hs⟩ := hS
  exact lv_imul C.2.1 C.2.2.1 (C.1.dec hd hn) (Ok.go k C hH hL ⟨rg_wr _, hs⟩ hn (by show Value.int (Int32.ofInt (wr (a * b))) :: _ = _; rw [of_wr, Int32.ofInt_mul]))
theorem ok_ladd (i : Nat) {a b : Int} (hd : nth (eTab M) i = some (pc, .ladd, pc')) (hn : pc + 1 = pc') (hr : rl (a + b)) (k : Ok sh M pc' ls (vl (a + b) :: st) σ Q) : Ok sh M pc ls (vl b :: vl a :: st) σ Q := by
  intro l p e s m args below meth c D dA ad H locs la C hH hL hS
  obtain ⟨hb, ha, hs⟩ := hS
  exact lv_ladd C.2.1 C.2.2.1 (C.1.dec hd hn) (Ok.go k C hH hL ⟨hr, hs⟩ hn (by show Value.long (Int64.ofInt (a + b)) :: _ = _; rw [Int64.ofInt_add]))
theorem ok_laddW (i : Nat) {a b : Int} (hd : nth (eTab M) i = some (pc, .ladd, pc')) (hn : pc + 1 = pc') (k : Ok sh M pc' ls (vl (wl (a + b)) :: st) σ Q) : Ok sh M pc ls (vl b :: vl a :: st) σ Q := by
  intro l p e s m args below meth c D dA ad H locs la C hH hL hS
  obtain ⟨hb, ha, hs⟩ := hS
  exact lv_ladd C.2.1 C.2.2.1 (C.1.dec hd hn) (Ok.go k C hH hL ⟨rl_wl _, hs⟩ hn (by show Value.long (Int64.ofInt (wl (a + b))) :: _ = _; rw [of_wl, Int64.ofInt_add]))
theorem ok_lsub (i : Nat) {a b : Int} (hd : nth (eTab M) i = some (pc, .lsub, pc')) (hn : pc + 1 = pc') (hr : rl (a - b)) (k : Ok sh M pc' ls (vl (a - b) :: st) σ Q) : Ok sh M pc ls (vl b :: vl a :: st) σ Q := by
  intro l p e s m args below meth c D dA ad H locs la C hH hL hS
  obtain ⟨hb, ha, hs⟩ := hS
  exact lv_lsub C.2.1 C.2.2.1 (C.1.dec hd hn) (Ok.go k C hH hL ⟨hr, hs⟩ hn (by show Value.long (Int64.ofInt (a - b)) :: _ = _; rw [Int64.ofInt_sub]))
theorem ok_lsubW (i : Nat) {a b : Int} (hd : nth (eTab M) i = some (pc, .lsub, pc')) (hn : pc + 1 = pc') (k : Ok sh M pc' ls (vl (wl (a - b)) :: st) σ Q) : Ok sh M pc ls (vl b :: vl a :: st) σ Q := by
  intro l p e s m args below meth c D dA ad H locs la C hH hL hS
  obtain ⟨hb, ha, hs⟩ := hS
  exact lv_lsub C.2.1 C.2.2.1 (C.1.dec hd hn) (Ok.go k C hH hL ⟨rl_wl _, hs⟩ hn (by show Value.long (Int64.ofInt (wl (a - b))) :: _ = _; rw [of_wl, Int64.ofInt_sub]))
theorem ok_lmul (i : Nat) {a b : Int} (hd : nth (eTab M) i = some (pc, .lmul, pc')) (hn : pc + 1 = pc') (hr : rl (a * b)) (k : Ok sh M pc' ls (vl (a * b) :: st) σ Q) : Ok sh M pc ls (vl b :: vl a :: st) σ Q := by
  intro l p e s m args below meth c D dA ad H locs la C hH hL hS
  obtain ⟨hb, ha, hs⟩ := hS
  exact lv_lmul C.2.1 C.2.2.1 (C.1.dec hd hn) (Ok.go k C hH hL ⟨hr, hs⟩ hn (by show Value.long (Int64.ofInt (a * b)) :: _ = _; rw [Int64.ofInt_mul]))
theorem ok_lmulW (i : Nat) {a b : Int} (hd : nth (eTab M) i = some (pc, .lmul, pc')) (hn : pc + 1 = pc') (k : Ok sh M pc' ls (vl (wl (a * b)) :: st) σ Q) : Ok sh M pc ls (vl b :: vl a :: st) σ Q := by
  intro l p e s m args below meth c D dA ad H locs la C hH hL hS
  obtain ⟨hb, ha, hs⟩ := hS
  exact lv_lmul C.2.1 C.2.2.1 (C.1.dec hd hn) (Ok.go k C hH hL ⟨rl_wl _, hs⟩ hn (by show Value.long (Int64.ofInt (wl (a * b))) :: _ = _; rw [of_wl, Int64.ofInt_mul]))
theorem ok_idiv (i : Nat) {a b : Int} (hd : nth (eTab M) i = some (pc, .idiv, pc')) (hn : pc + 1 = pc') (h0 : 0 ≤ a) (h1 : 0 < b) (k : Ok sh M pc' ls (vi (a / b) :: st) σ Q) : Ok sh M pc ls (vi b :: vi a :: st) σ Q := by
  intro l p e s m args below meth c D dA ad H locs la C hH hL hS
  obtain ⟨hb, ha, hs⟩ := hS
  exact lv_idiv C.2.1 C.2.2.1 (C.1.dec hd hn) (ne_0 hb h1) (Ok.go k C hH hL ⟨(nn_div ha hb h0 h1).2, hs⟩ hn (by show Value.int (Int32.ofInt (a / b)) :: _ = _; rw [(nn_div ha hb h0 h1).1]))
theorem ok_irem (i : Nat) {a b : Int} (hd : nth (eTab M) i = some (pc, .irem, pc')) (hn : pc + 1 = pc') (h0 : 0 ≤ a) (h1 : 0 < b) (k : Ok sh M pc' ls (vi (a % b) :: st) σ Q) : Ok sh M pc ls (vi b :: vi a :: st) σ Q := by
  intro l p e s m args below meth c D dA ad H locs la C hH hL hS
  obtain ⟨hb, ha, hs⟩ := hS
  exact lv_irem C.2.1 C.2.2.1 (C.1.dec hd hn) (ne_0 hb h1) (Ok.go k C hH hL ⟨(nn_rem ha hb h0 h1).2, hs⟩ hn (by show Value.int (Int32.ofInt (a % b)) :: _ = _; rw [(nn_rem ha hb h0 h1).1]))
theorem ok_ldiv (i : Nat) {a b : Int} (hd : nth (eTab M) i = some (pc, .ldiv, pc')) (hn : pc + 1 = pc') (h0 : 0 ≤ a) (h1 : 0 < b) (k : Ok sh M pc' ls (vl (a / b) :: st) σ Q) : Ok sh M pc ls (vl b :: vl a :: st) σ Q := by
  intro l p e s m args below meth c D dA ad H locs la C hH hL hS
  obtain ⟨hb, ha, hs⟩ := hS
  exact lv_ldiv C.2.1 C.2.2.1 (C.1.dec hd hn) (ne_0L hb h1) (Ok.go k C hH hL ⟨(nn_divL ha hb h0 h1).2, hs⟩ hn (by show Value.long (Int64.ofInt (a / b)) :: _ = _; rw [(nn_divL ha hb h0 h1).1]))
theorem ok_lrem (i : Nat) {a b : Int} (hd : nth (eTab M) i = some (pc, .lrem, pc')) (hn : pc + 1 = pc') (h0 : 0 ≤ a) (h1 : 0 < b) (k : Ok sh M pc' ls (vl (a % b) :: st) σ Q) : Ok sh M pc ls (vl b :: vl a :: st) σ Q := by
  intro l p e s m args below meth c D dA ad H locs la C hH hL hS
  obtain ⟨hb, ha, hs⟩ := hS
  exact lv_lrem C.2.1 C.2.2.1 (C.1.dec hd hn) (ne_0L hb h1) (Ok.go k C hH hL ⟨(nn_remL ha hb h0 h1).2, hs⟩ hn (by show Value.long (Int64.ofInt (a % b)) :: _ = _; rw [(nn_remL ha hb h0 h1).1]))
theorem ok_ineg (i : Nat) {a : Int} (hd : nth (eTab M) i = some (pc, .ineg, pc')) (hn : pc + 1 = pc') (hr : rg (-a)) (k : Ok sh M pc' ls (vi (-a) :: st) σ Q) : Ok sh M pc ls (vi a :: st) σ Q := by
  intro l p e s m args below meth c D dA ad H locs la C hH hL hS
  obtain ⟨ha, hs⟩ := hS
  exact lv_ineg C.2.1 C.2.2.1 (C.1.dec hd hn) (Ok.go k C hH hL ⟨hr, hs⟩ hn (by show Value.int (Int32.ofInt (-a)) :: _ = _; rw [Int32.ofInt_neg]))
theorem ok_iand (i : Nat) {a b : Int} (hd : nth (eTab M) i = some (pc, .iand, pc')) (hn : pc + 1 = pc') (k : Ok sh M pc' ls (vi (iand a b) :: st) σ Q) : Ok sh M pc ls (vi b :: vi a :: st) σ Q := by
  intro l p e s m args below meth c D dA ad H locs la C hH hL hS
  obtain ⟨hb, ha, hs⟩ := hS
  exact lv_iand C.2.1 C.2.2.1 (C.1.dec hd hn) (Ok.go k C hH hL ⟨rg_to _, hs⟩ hn (by show Value.int (Int32.ofInt (iand a b)) :: _ = _; unfold iand; rw [Int32.ofInt_toInt]))
theorem ok_ior (i : Nat) {a b : Int} (hd : nth (eTab M) i = some (pc, .ior, pc')) (hn : pc + 1 = pc') (k : Ok sh M pc' ls (vi (ior a b) :: st) σ Q) : Ok sh M pc ls (vi b :: vi a :: st) σ Q := by
  intro l p e s m args below meth c D dA ad H locs la C hH hL hS
  obtain ⟨hb, ha, hs⟩ := hS
  exact lv_ior C.2.1 C.2.2.1 (C.1.dec hd hn) (Ok.go k C hH hL ⟨rg_to _, hs⟩ hn (by show Value.int (Int32.ofInt (ior a b)) :: _ = _; unfold ior; rw [Int32.ofInt_toInt]))
theorem ok_ixor (i : Nat) {a b : Int} (hd : nth (eTab M) i = some (pc, .ixor, pc')) (hn : pc + 1 = pc') (k : Ok sh M pc' ls (vi (ixor a b) :: st) σ Q) : Ok sh M pc ls (vi b :: vi a :: st) σ Q := by
  intro l p e s m args below meth c D dA ad H locs la C hH hL hS
  obtain ⟨hb, ha, hs⟩ := hS
  exact lv_ixor C.2.1 C.2.2.1 (C.1.dec hd hn) (Ok.go k C hH hL ⟨rg_to _, hs⟩ hn (by show Value.int (Int32.ofInt (ixor a b)) :: _ = _; unfold ixor; rw [Int32.ofInt_toInt]))
theorem ok_ishl (i : Nat) {a b : Int} (hd : nth (eTab M) i = some (pc, .ishl, pc')) (hn : pc + 1 = pc') (k : Ok sh M pc' ls (vi (ishl a b) :: st) σ Q) : Ok sh M pc ls (vi b :: vi a :: st) σ Q := by
  intro l p e s m args below meth c D dA ad H locs la C hH hL hS
  obtain ⟨hb, ha, hs⟩ := hS
  exact lv_ishl C.2.1 C.2.2.1 (C.1.dec hd hn) (Ok.go k C hH hL ⟨rg_to _, hs⟩ hn (by show Value.int (Int32.ofInt (ishl a b)) :: _ = _; unfold ishl; rw [Int32.ofInt_toInt]))
theorem ok_ishr (i : Nat) {a b : Int} (hd : nth (eTab M) i = some (pc, .ishr, pc')) (hn : pc + 1 = pc') (k : Ok sh M pc' ls (vi (ishr a b) :: st) σ Q) : Ok sh M pc ls (vi b :: vi a :: st) σ Q := by
  intro l p e s m args below meth c D dA ad H locs la C hH hL hS
  obtain ⟨hb, ha, hs⟩ := hS
  exact lv_ishr C.2.1 C.2.2.1 (C.1.dec hd hn) (Ok.go k C hH hL ⟨rg_to _, hs⟩ hn (by show Value.int (Int32.ofInt (ishr a b)) :: _ = _; unfold ishr; rw [Int32.ofInt_toInt]))
theorem ok_land (i : Nat) {a b : Int} (hd : nth (eTab M) i = some (pc, .land, pc')) (hn : pc + 1 = pc') (k : Ok sh M pc' ls (vl (land a b) :: st) σ Q) : Ok sh M pc ls (vl b :: vl a :: st) σ Q := by
  intro l p e s m args below meth c D dA ad H locs la C hH hL hS
  obtain ⟨hb, ha, hs⟩ := hS
  exact lv_land C.2.1 C.2.2.1 (C.1.dec hd hn) (Ok.go k C hH hL ⟨rl_to _, hs⟩ hn (by show Value.long (Int64.ofInt (land a b)) :: _ = _; unfold land; rw [Int64.ofInt_toInt]))
theorem ok_lor (i : Nat) {a b : Int} (hd : nth (eTab M) i = some (pc, .lor, pc')) (hn : pc + 1 = pc') (k : Ok sh M pc' ls (vl (lor a b) :: st) σ Q) : Ok sh M pc ls (vl b :: vl a :: st) σ Q := by
  intro l p e s m args below meth c D dA ad H locs la C hH hL hS
  obtain ⟨hb, ha, hs⟩ := hS
  exact lv_lor C.2.1 C.2.2.1 (C.1.dec hd hn) (Ok.go k C hH hL ⟨rl_to _, hs⟩ hn (by show Value.long (Int64.ofInt (lor a b)) :: _ = _; unfold lor; rw [Int64.ofInt_toInt]))
theorem ok_lxor (i : Nat) {a b : Int} (hd : nth (eTab M) i = some (pc, .lxor, pc')) (hn : pc + 1 = pc') (k : Ok sh M pc' ls (vl (lxor a b) :: st) σ Q) : Ok sh M pc ls (vl b :: vl a :: st) σ Q := by
  intro l p e s m args below meth c D dA ad H locs la C hH hL hS
  obtain ⟨hb, ha, hs⟩ := hS
  exact lv_lxor C.2.1 C.2.2.1 (C.1.dec hd hn) (Ok.go k C hH hL ⟨rl_to _, hs⟩ hn (by show Value.long (Int64.ofInt (lxor a b)) :: _ = _; unfold lxor; rw [Int64.ofInt_toInt]))
theorem ok_iushr (i : Nat) {a b : Int} (hd : nth (eTab M) i = some (pc, .iushr, pc')) (hn : pc + 1 = pc') (k : Ok sh M pc' ls (vi (iushr a b) :: st) σ Q) : Ok sh M pc ls (vi b :: vi a :: st) σ Q := by
  intro l p e s m args below meth c D dA ad H locs la C hH hL hS
  obtain ⟨hb, ha, hs⟩ := hS
  exact lv_iushr C.2.1 C.2.2.1 (C.1.dec hd hn) rfl (Ok.go k C hH hL ⟨rg_to _, hs⟩ hn (by show Value.int (Int32.ofInt (iushr a b)) :: _ = _; unfold iushr; rw [Int32.ofInt_toInt]))
theorem ok_lushr (i : Nat) {a b : Int} (hd : nth (eTab M) i = some (pc, .lushr, pc')) (hn : pc + 1 = pc') (k : Ok sh M pc' ls (vl (lushr a b) :: st) σ Q) : Ok sh M pc ls (vi b :: vl a :: st) σ Q := by
  intro l p e s m args below meth c D dA ad H locs la C hH hL hS
  obtain ⟨hb, ha, hs⟩ := hS
  exact lv_lushr C.2.1 C.2.2.1 (C.1.dec hd hn) rfl (Ok.go k C hH hL ⟨rl_to _, hs⟩ hn (by show Value.long (Int64.ofInt (lushr a b)) :: _ = _; unfold lushr; rw [Int64.ofInt_toInt]))
theorem ok_lshl (i : Nat) {a b : Int} (hd : nth (eTab M) i = some (pc, .lshl, pc')) (hn : pc + 1 = pc') (k : Ok sh M pc' ls (vl (lshl a b) :: st) σ Q) : Ok sh M pc ls (vi b :: vl a :: st) σ Q := by
  intro l p e s m args below meth c D dA ad H locs la C hH hL hS
  obtain ⟨hb, ha, hs⟩ := hS
  exact lv_lshl C.2.1 C.2.2.1 (C.1.dec hd hn) rfl (Ok.go k C hH hL ⟨rl_to _, hs⟩ hn (by show Value.long (Int64.ofInt (lshl a b)) :: _ = _; unfold lshl; rw [Int64.ofInt_toInt]))
theorem ok_i2l (i : Nat) {a : Int} (hd : nth (eTab M) i = some (pc, .i2l, pc')) (hn : pc + 1 = pc') (k : Ok sh M pc' ls (vl a :: st) σ Q) : Ok sh M pc ls (vi a :: st) σ Q := by
  intro l p e s m args below meth c D dA ad H locs la C hH hL hS
  obtain ⟨ha, hs⟩ := hS
  exact lv_i2l C.2.1 C.2.2.1 (C.1.dec hd hn) (i2l_of ha) (Ok.go k C hH hL ⟨⟨by obtain ⟨h1, h2⟩ : rg a := ha; omega, by obtain ⟨h1, h2⟩ : rg a := ha; omega⟩, hs⟩ hn (by rfl))
theorem ok_l2iW (i : Nat) {a : Int} (hd : nth (eTab M) i = some (pc, .l2i, pc')) (hn : pc + 1 = pc') (k : Ok sh M pc' ls (vi (wr a) :: st) σ Q) : Ok sh M pc ls (vl a :: st) σ Q := by
  intro l p e s m args below meth c D dA ad H locs la C hH hL hS
  obtain ⟨ha, hs⟩ := hS
  exact lv_l2i C.2.1 C.2.2.1 (C.1.dec hd hn) l2i_of (Ok.go k C hH hL ⟨rg_wr _, hs⟩ hn (by show Value.int (Int32.ofInt (wr a)) :: _ = _; rw [of_wr]))
theorem ok_l2i (i : Nat) {a : Int} (hd : nth (eTab M) i = some (pc, .l2i, pc')) (hn : pc + 1 = pc') (hr : rg a) (k : Ok sh M pc' ls (vi a :: st) σ Q) : Ok sh M pc ls (vl a :: st) σ Q := by
  intro l p e s m args below meth c D dA ad H locs la C hH hL hS
  obtain ⟨ha, hs⟩ := hS
  exact lv_l2i C.2.1 C.2.2.1 (C.1.dec hd hn) l2i_of (Ok.go k C hH hL ⟨hr, hs⟩ hn (by rfl))
theorem ok_iconst (i : Nat) {z : Int} (hd : nth (eTab M) i = some (pc, .iconst z, pc')) (hn : pc + 1 = pc') (hr : rg z) (k : Ok sh M pc' ls (vi z :: st) σ Q) : Ok sh M pc ls (st) σ Q := by
  intro l p e s m args below meth c D dA ad H locs la C hH hL hS
  exact lv_iconst C.2.1 C.2.2.1 (C.1.dec hd hn) rfl (Ok.go k C hH hL ⟨hr, hS⟩ hn (by rfl))
theorem ok_bipush (i : Nat) {z : Int} (hd : nth (eTab M) i = some (pc, .bipush z, pc')) (hn : pc + 2 = pc') (hr : rg z) (hv : (Int8.ofInt z).toInt32 = Int32.ofInt z) (k : Ok sh M pc' ls (vi z :: st) σ Q) : Ok sh M pc ls (st) σ Q := by
  intro l p e s m args below meth c D dA ad H locs la C hH hL hS
  exact lv_bipush C.2.1 C.2.2.1 (C.1.dec hd hn) hv (Ok.go k C hH hL ⟨hr, hS⟩ hn (by rfl))
theorem ok_sipush (i : Nat) {z : Int} (hd : nth (eTab M) i = some (pc, .sipush z, pc')) (hn : pc + 3 = pc') (hr : rg z) (hv : (Int16.ofInt z).toInt32 = Int32.ofInt z) (k : Ok sh M pc' ls (vi z :: st) σ Q) : Ok sh M pc ls (st) σ Q := by
  intro l p e s m args below meth c D dA ad H locs la C hH hL hS
  exact lv_sipush C.2.1 C.2.2.1 (C.1.dec hd hn) hv (Ok.go k C hH hL ⟨hr, hS⟩ hn (by rfl))
theorem ok_lconst (i : Nat) {z : Fin 2} {w : Int} (hd : nth (eTab M) i = some (pc, .lconst z, pc')) (hn : pc + 1 = pc') (hw : Int64.ofNat z.val = Int64.ofInt w) (hr : rl w) (k : Ok sh M pc' ls (vl w :: st) σ Q) : Ok sh M pc ls st σ Q := by
  intro l p e s m args below meth c D dA ad H locs la C hH hL hS
  exact lv_lconst C.2.1 C.2.2.1 (C.1.dec hd hn) hw (Ok.go k C hH hL ⟨hr, hS⟩ hn rfl)
theorem ok_ldcw (i : Nat) {x : Nat} (z : Int) (hd : nth (eTab M) i = some (pc, .ldc_w x, pc')) (hn : pc + 3 = pc') (hc : Cond.constant (eOwn M) x (Int32.ofInt z) ∈ eTbl) (hr : rg z) (k : Ok sh M pc' ls (vi z :: st) σ Q) : Ok sh M pc ls st σ Q := by
  intro l p e s m args below meth c D dA ad H locs la C hH hL hS
  exact lv_ldcw C.2.1 C.2.2.1 C.2.2.2.2.2.2.1 (C.2.2.2.2.2.2.2.1 _ hc) (C.1.dec hd hn) (Ok.go k C hH hL ⟨hr, hS⟩ hn rfl)
theorem ok_ldc (i : Nat) {x : Nat} (z : Int) (hd : nth (eTab M) i = some (pc, .ldc x, pc')) (hn : pc + 2 = pc') (hc : Cond.constant (eOwn M) x (Int32.ofInt z) ∈ eTbl) (hr : rg z) (k : Ok sh M pc' ls (vi z :: st) σ Q) : Ok sh M pc ls st σ Q := by
  intro l p e s m args below meth c D dA ad H locs la C hH hL hS
  exact lv_ldc C.2.1 C.2.2.1 C.2.2.2.2.2.2.1 (C.2.2.2.2.2.2.2.1 _ hc) (C.1.dec hd hn) (Ok.go k C hH hL ⟨hr, hS⟩ hn rfl)
theorem ok_ldc2 (i : Nat) {x : Nat} (z : Int) (hd : nth (eTab M) i = some (pc, .ldc2_w x, pc')) (hn : pc + 3 = pc') (hc : Cond.constantLong (eOwn M) x (Int64.ofInt z) ∈ eTbl) (hr : rl z) (k : Ok sh M pc' ls (vl z :: st) σ Q) : Ok sh M pc ls st σ Q := by
  intro l p e s m args below meth c D dA ad H locs la C hH hL hS
  exact lv_ldc2 C.2.1 C.2.2.1 C.2.2.2.2.2.2.1 (C.2.2.2.2.2.2.2.1 _ hc) (C.1.dec hd hn) (Ok.go k C hH hL ⟨hr, hS⟩ hn rfl)
theorem ok_null (i : Nat) (hd : nth (eTab M) i = some (pc, .aconst_null, pc')) (hn : pc + 1 = pc') (k : Ok sh M pc' ls (vn :: st) σ Q) : Ok sh M pc ls st σ Q := by
  intro l p e s m args below meth c D dA ad H locs la C hH hL hS
  exact lv_null C.2.1 C.2.2.1 (C.1.dec hd hn) (Ok.go k C hH hL ⟨trivial, hS⟩ hn rfl)
theorem ok_dup (i : Nat) {v : eV} (hd : nth (eTab M) i = some (pc, .dup, pc')) (hn : pc + 1 = pc') (hc : eCat v = 1) (k : Ok sh M pc' ls (v :: v :: st) σ Q) : Ok sh M pc ls (v :: st) σ Q := by
  intro l p e s m args below meth c D dA ad H locs la C hH hL hS
  exact lv_dup C.2.1 C.2.2.1 (C.1.dec hd hn) (by rw [eR_cat]; exact hc) (Ok.go k C hH hL ⟨hS.1, hS⟩ hn rfl)
theorem ok_dup2 (i : Nat) {v w : eV} (hd : nth (eTab M) i = some (pc, .dup2, pc')) (hn : pc + 1 = pc') (hc : eCat v = 1 ∧ eCat w = 1) (k : Ok sh M pc' ls (v :: w :: v :: w :: st) σ Q) : Ok sh M pc ls (v :: w :: st) σ Q := by
  intro l p e s m args below meth c D dA ad H locs la C hH hL hS
  exact lv_dup2_11 C.2.1 C.2.2.1 (C.1.dec hd hn) (by rw [eR_cat]; exact hc.1) (by rw [eR_cat]; exact hc.2) (Ok.go k C hH hL ⟨hS.1, hS.2.1, hS⟩ hn rfl)
theorem ok_pop (i : Nat) {v : eV} (hd : nth (eTab M) i = some (pc, .pop, pc')) (hn : pc + 1 = pc') (hc : eCat v = 1) (k : Ok sh M pc' ls st σ Q) : Ok sh M pc ls (v :: st) σ Q := by
  intro l p e s m args below meth c D dA ad H locs la C hH hL hS
  exact lv_pop C.2.1 C.2.2.1 (C.1.dec hd hn) (by rw [eR_cat]; exact hc) (Ok.go k C hH hL hS.2 hn rfl)
theorem ok_goto (i : Nat) {off : Int} (tgt : Nat) (hd : nth (eTab M) i = some (pc, .goto off, pc')) (hn : pc + 3 = pc') (ht : (pc : Int) + off = (tgt : Int)) (k : Ok sh M tgt ls st σ Q) : Ok sh M pc ls st σ Q := by
  intro l p e s m args below meth c D dA ad H locs la C hH hL hS
  exact lv_goto C.2.1 C.2.2.1 (C.1.dec hd hn) ht (Ok.go k C hH hL hS rfl rfl)
theorem ok_icmp_eq (i : Nat) {off : Int} {a b : Int} (tgt : Nat) (hd : nth (eTab M) i = some (pc, .if_icmp .eq off, pc')) (hn : pc + 3 = pc') (ht : (pc : Int) + off = (tgt : Int)) (kt : a = b → Ok sh M tgt ls st σ Q) (kf : ¬ a = b → Ok sh M pc' ls st σ Q) : Ok sh M pc ls (vi b :: vi a :: st) σ Q := by
  intro l p e s m args below meth c D dA ad H locs la C hH hL hS
  obtain ⟨hb, ha, hs⟩ := hS
  have e1 := rg_eq ha hb
  have e2 := rg_lt ha hb
  have e3 := rg_le ha hb
  have e4 := rg_lt hb ha
  have e5 := rg_le hb ha
  refine lv_icmp_eq C.2.1 C.2.2.1 (C.1.dec hd hn) ht (fun h => Ok.go (kt ?_) C hH hL hs rfl rfl) (fun h => Ok.go (kf ?_) C hH hL hs hn rfl)
  · simp only [e1, e2, e3, e4, e5] at h
    omega
  · simp only [e1, e2, e3, e4, e5] at h
    omega
theorem ok_if_eq (i : Nat) {off : Int} {a : Int} (tgt : Nat) (hd : nth (eTab M) i = some (pc, .ifCond .eq off, pc')) (hn : pc + 3 = pc') (ht : (pc : Int) + off = (tgt : Int)) (kt : a = 0 → Ok sh M tgt ls st σ Q) (kf : ¬ a = 0 → Ok sh M pc' ls st σ Q) : Ok sh M pc ls (vi a :: st) σ Q := by
  intro l p e s m args below meth c D dA ad H locs la C hH hL hS
  obtain ⟨ha, hs⟩ := hS
  have e1 := rg_eq ha rg_0
  have e2 := rg_lt ha rg_0
  have e3 := rg_le ha rg_0
  have e4 := rg_lt rg_0 ha
  have e5 := rg_le rg_0 ha
  rw [of_0] at e1 e2 e3 e4 e5
  refine lv_if_eq C.2.1 C.2.2.1 (C.1.dec hd hn) ht (fun h => Ok.go (kt ?_) C hH hL hs rfl rfl) (fun h => Ok.go (kf ?_) C hH hL hs hn rfl)
  · simp only [e1, e2, e3, e4, e5] at h
    omega
  · simp only [e1, e2, e3, e4, e5] at h
    omega
theorem ok_icmp_ne (i : Nat) {off : Int} {a b : Int} (tgt : Nat) (hd : nth (eTab M) i = some (pc, .if_icmp .ne off, pc')) (hn : pc + 3 = pc') (ht : (pc : Int) + off = (tgt : Int)) (kt : ¬ a = b → Ok sh M tgt ls st σ Q) (kf : a = b → Ok sh M pc' ls st σ Q) : Ok sh M pc ls (vi b :: vi a :: st) σ Q := by
  intro l p e s m args below meth c D dA ad H locs la C hH hL hS
  obtain ⟨hb, ha, hs⟩ := hS
  have e1 := rg_eq ha hb
  have e2 := rg_lt ha hb
  have e3 := rg_le ha hb
  have e4 := rg_lt hb ha
  have e5 := rg_le hb ha
  refine lv_icmp_ne C.2.1 C.2.2.1 (C.1.dec hd hn) ht (fun h => Ok.go (kt ?_) C hH hL hs rfl rfl) (fun h => Ok.go (kf ?_) C hH hL hs hn rfl)
  · simp only [e1, e2, e3, e4, e5] at h
    omega
  · simp only [e1, e2, e3, e4, e5] at h
    omega
theorem ok_if_ne (i : Nat) {off : Int} {a : Int} (tgt : Nat) (hd : nth (eTab M) i = some (pc, .ifCond .ne off, pc')) (hn : pc + 3 = pc') (ht : (pc : Int) + off = (tgt : Int)) (kt : ¬ a = 0 → Ok sh M tgt ls st σ Q) (kf : a = 0 → Ok sh M pc' ls st σ Q) : Ok sh M pc ls (vi a :: st) σ Q := by
  intro l p e s m args below meth c D dA ad H locs la C hH hL hS
  obtain ⟨ha, hs⟩ := hS
  have e1 := rg_eq ha rg_0
  have e2 := rg_lt ha rg_0
  have e3 := rg_le ha rg_0
  have e4 := rg_lt rg_0 ha
  have e5 := rg_le rg_0 ha
  rw [of_0] at e1 e2 e3 e4 e5
  refine lv_if_ne C.2.1 C.2.2.1 (C.1.dec hd hn) ht (fun h => Ok.go (kt ?_) C hH hL hs rfl rfl) (fun h => Ok.go (kf ?_) C hH hL hs hn rfl)
  · simp only [e1, e2, e3, e4, e5] at h
    omega
  · simp only [e1, e2, e3, e4, e5] at h
    omega
theorem ok_icmp_lt (i : Nat) {off : Int} {a b : Int} (tgt : Nat) (hd : nth (eTab M) i = some (pc, .if_icmp .lt off, pc')) (hn : pc + 3 = pc') (ht : (pc : Int) + off = (tgt : Int)) (kt : a < b → Ok sh M tgt ls st σ Q) (kf : b ≤ a → Ok sh M pc' ls st σ Q) : Ok sh M pc ls (vi b :: vi a :: st) σ Q := by
  intro l p e s m args below meth c D dA ad H locs la C hH hL hS
  obtain ⟨hb, ha, hs⟩ := hS
  have e1 := rg_eq ha hb
  have e2 := rg_lt ha hb
  have e3 := rg_le ha hb
  have e4 := rg_lt hb ha
  have e5 := rg_le hb ha
  refine lv_icmp_lt C.2.1 C.2.2.1 (C.1.dec hd hn) ht (fun h => Ok.go (kt ?_) C hH hL hs rfl rfl) (fun h => Ok.go (kf ?_) C hH hL hs hn rfl)
  · simp only [e1, e2, e3, e4, e5] at h
    omega
  · simp only [e1, e2, e3, e4, e5] at h
    omega
theorem ok_if_lt (i : Nat) {off : Int} {a : Int} (tgt : Nat) (hd : nth (eTab M) i = some (pc, .ifCond .lt off, pc')) (hn : pc + 3 = pc') (ht : (pc : Int) + off = (tgt : Int)) (kt : a < 0 → Ok sh M tgt ls st σ Q) (kf : 0 ≤ a → Ok sh M pc' ls st σ Q) : Ok sh M pc ls (vi a :: st) σ Q := by
  intro l p e s m args below meth c D dA ad H locs la C hH hL hS
  obtain ⟨ha, hs⟩ := hS
  have e1 := rg_eq ha rg_0
  have e2 := rg_lt ha rg_0
  have e3 := rg_le ha rg_0
  have e4 := rg_lt rg_0 ha
  have e5 := rg_le rg_0 ha
  rw [of_0] at e1 e2 e3 e4 e5
  refine lv_if_lt C.2.1 C.2.2.1 (C.1.dec hd hn) ht (fun h => Ok.go (kt ?_) C hH hL hs rfl rfl) (fun h => Ok.go (kf ?_) C hH hL hs hn rfl)
  · simp only [e1, e2, e3, e4, e5] at h
    omega
  · simp only [e1, e2, e3, e4, e5] at h
    omega
theorem ok_icmp_ge (i : Nat) {off : Int} {a b : Int} (tgt : Nat) (hd : nth (eTab M) i = some (pc, .if_icmp .ge off, pc')) (hn : pc + 3 = pc') (ht : (pc : Int) + off = (tgt : Int)) (kt : b ≤ a → Ok sh M tgt ls st σ Q) (kf : a < b → Ok sh M pc' ls st σ Q) : Ok sh M pc ls (vi b :: vi a :: st) σ Q := by
  intro l p e s m args below meth c D dA ad H locs la C hH hL hS
  obtain ⟨hb, ha, hs⟩ := hS
  have e1 := rg_eq ha hb
  have e2 := rg_lt ha hb
  have e3 := rg_le ha hb
  have e4 := rg_lt hb ha
  have e5 := rg_le hb ha
  refine lv_icmp_ge C.2.1 C.2.2.1 (C.1.dec hd hn) ht (fun h => Ok.go (kt ?_) C hH hL hs rfl rfl) (fun h => Ok.go (kf ?_) C hH hL hs hn rfl)
  · simp only [e1, e2, e3, e4, e5] at h
    omega
  · simp only [e1, e2, e3, e4, e5] at h
    omega
theorem ok_if_ge (i : Nat) {off : Int} {a : Int} (tgt : Nat) (hd : nth (eTab M) i = some (pc, .ifCond .ge off, pc')) (hn : pc + 3 = pc') (ht : (pc : Int) + off = (tgt : Int)) (kt : 0 ≤ a → Ok sh M tgt ls st σ Q) (kf : a < 0 → Ok sh M pc' ls st σ Q) : Ok sh M pc ls (vi a :: st) σ Q := by
  intro l p e s m args below meth c D dA ad H locs la C hH hL hS
  obtain ⟨ha, hs⟩ := hS
  have e1 := rg_eq ha rg_0
  have e2 := rg_lt ha rg_0
  have e3 := rg_le ha rg_0
  have e4 := rg_lt rg_0 ha
  have e5 := rg_le rg_0 ha
  rw [of_0] at e1 e2 e3 e4 e5
  refine lv_if_ge C.2.1 C.2.2.1 (C.1.dec hd hn) ht (fun h => Ok.go (kt ?_) C hH hL hs rfl rfl) (fun h => Ok.go (kf ?_) C hH hL hs hn rfl)
  · simp only [e1, e2, e3, e4, e5] at h
    omega
  · simp only [e1, e2, e3, e4, e5] at h
    omega
theorem ok_icmp_gt (i : Nat) {off : Int} {a b : Int} (tgt : Nat) (hd : nth (eTab M) i = some (pc, .if_icmp .gt off, pc')) (hn : pc + 3 = pc') (ht : (pc : Int) + off = (tgt : Int)) (kt : b < a → Ok sh M tgt ls st σ Q) (kf : a ≤ b → Ok sh M pc' ls st σ Q) : Ok sh M pc ls (vi b :: vi a :: st) σ Q := by
  intro l p e s m args below meth c D dA ad H locs la C hH hL hS
  obtain ⟨hb, ha, hs⟩ := hS
  have e1 := rg_eq ha hb
  have e2 := rg_lt ha hb
  have e3 := rg_le ha hb
  have e4 := rg_lt hb ha
  have e5 := rg_le hb ha
  refine lv_icmp_gt C.2.1 C.2.2.1 (C.1.dec hd hn) ht (fun h => Ok.go (kt ?_) C hH hL hs rfl rfl) (fun h => Ok.go (kf ?_) C hH hL hs hn rfl)
  · simp only [e1, e2, e3, e4, e5] at h
    omega
  · simp only [e1, e2, e3, e4, e5] at h
    omega
theorem ok_if_gt (i : Nat) {off : Int} {a : Int} (tgt : Nat) (hd : nth (eTab M) i = some (pc, .ifCond .gt off, pc')) (hn : pc + 3 = pc') (ht : (pc : Int) + off = (tgt : Int)) (kt : 0 < a → Ok sh M tgt ls st σ Q) (kf : a ≤ 0 → Ok sh M pc' ls st σ Q) : Ok sh M pc ls (vi a :: st) σ Q := by
  intro l p e s m args below meth c D dA ad H locs la C hH hL hS
  obtain ⟨ha, hs⟩ := hS
  have e1 := rg_eq ha rg_0
  have e2 := rg_lt ha rg_0
  have e3 := rg_le ha rg_0
  have e4 := rg_lt rg_0 ha
  have e5 := rg_le rg_0 ha
  rw [of_0] at e1 e2 e3 e4 e5
  refine lv_if_gt C.2.1 C.2.2.1 (C.1.dec hd hn) ht (fun h => Ok.go (kt ?_) C hH hL hs rfl rfl) (fun h => Ok.go (kf ?_) C hH hL hs hn rfl)
  · simp only [e1, e2, e3, e4, e5] at h
    omega
  · simp only [e1, e2, e3, e4, e5] at h
    omega
theorem ok_icmp_le (i : Nat) {off : Int} {a b : Int} (tgt : Nat) (hd : nth (eTab M) i = some (pc, .if_icmp .le off, pc')) (hn : pc + 3 = pc') (ht : (pc : Int) + off = (tgt : Int)) (kt : a ≤ b → Ok sh M tgt ls st σ Q) (kf : b < a → Ok sh M pc' ls st σ Q) : Ok sh M pc ls (vi b :: vi a :: st) σ Q := by
  intro l p e s m args below meth c D dA ad H locs la C hH hL hS
  obtain ⟨hb, ha, hs⟩ := hS
  have e1 := rg_eq ha hb
  have e2 := rg_lt ha hb
  have e3 := rg_le ha hb
  have e4 := rg_lt hb ha
  have e5 := rg_le hb ha
  refine lv_icmp_le C.2.1 C.2.2.1 (C.1.dec hd hn) ht (fun h => Ok.go (kt ?_) C hH hL hs rfl rfl) (fun h => Ok.go (kf ?_) C hH hL hs hn rfl)
  · simp only [e1, e2, e3, e4, e5] at h
    omega
  · simp only [e1, e2, e3, e4, e5] at h
    omega
theorem ok_if_le (i : Nat) {off : Int} {a : Int} (tgt : Nat) (hd : nth (eTab M) i = some (pc, .ifCond .le off, pc')) (hn : pc + 3 = pc') (ht : (pc : Int) + off = (tgt : Int)) (kt : a ≤ 0 → Ok sh M tgt ls st σ Q) (kf : 0 < a → Ok sh M pc' ls st σ Q) : Ok sh M pc ls (vi a :: st) σ Q := by
  intro l p e s m args below meth c D dA ad H locs la C hH hL hS
  obtain ⟨ha, hs⟩ := hS
  have e1 := rg_eq ha rg_0
  have e2 := rg_lt ha rg_0
  have e3 := rg_le ha rg_0
  have e4 := rg_lt rg_0 ha
  have e5 := rg_le rg_0 ha
  rw [of_0] at e1 e2 e3 e4 e5
  refine lv_if_le C.2.1 C.2.2.1 (C.1.dec hd hn) ht (fun h => Ok.go (kt ?_) C hH hL hs rfl rfl) (fun h => Ok.go (kf ?_) C hH hL hs hn rfl)
  · simp only [e1, e2, e3, e4, e5] at h
    omega
  · simp only [e1, e2, e3, e4, e5] at h
    omega
end E1
end
section
def eAl (ad : Nat → Nat) : Nat → List (Option eV) → List (Nat × Value)
  | _, [] => []
  | n, none :: l => eAl ad (n + 1) l
  | n, some v :: l => (n, eR ad v) :: eAl ad (n + 1) l
theorem eAl_mem (ad : Nat → Nat) : ∀ (l : List (Option eV)) (n i : Nat) (v : eV), l[i]? = some (some v) → (n + i, eR ad v) ∈ eAl ad n l
  | [], n, i, v, h => by simp at h
  | a :: l, n, 0, v, h => by
    simp only [List.getElem?_cons_zero, Option.some.injEq] at h
    subst h
    exact List.mem_cons_self
  | a :: l, n, i + 1, v, h => by
    rw [List.getElem?_cons_succ] at h
    have h1 := eAl_mem ad l (n + 1) i v h
    rw [show n + 1 + i = n + (i + 1) by omega] at h1
    cases a with
    | none => exact h1
    | some w => exact List.mem_cons_of_mem _ h1
theorem eAl_inv (ad : Nat → Nat) : ∀ (l : List (Option eV)) (n : Nat) (q : Nat × Value), q ∈ eAl ad n l → ∃ (i : Nat) (v : eV), q = (n + i, eR ad v) ∧ l[i]? = some (some v)
  | [], n, q, h => by cases h
  | none :: l, n, q, h => by
    obtain ⟨i, v, h1, h2⟩ := eAl_inv ad l (n + 1) q h
    exact ⟨i + 1, v, by rw [h1]; congr 1; omega, by rw [List.getElem?_cons_succ]; exact h2⟩
  | some w :: l, n, q, h => by
    rcases List.mem_cons.mp h with h | h
    · exact ⟨0, w, h, rfl⟩
    · obtain ⟨i, v, h1, h2⟩ := eAl_inv ad l (n + 1) q h
      exact ⟨i + 1, v, by rw [h1]; congr 1; omega, by rw [List.getElem?_cons_succ]; exact h2⟩
theorem eLs.has {la : Array Slot} {nL : Nat} {ad : Nat → Nat} {ls : List (Option eV)} (h : eLs la nL ad ls) : lv_has la nL (eAl ad 0 ls) := by
  refine ⟨h.1, h.2.2.1, fun q hq => ?_⟩
  obtain ⟨i, v, rfl, h2⟩ := eAl_inv ad ls 0 q hq
  rw [Nat.zero_add]
  exact (h.2.2.2 i v h2).1
def eClr : Option eV → Option eV
  | some (.inr (.inl _)) => none
  | x => x
def eNl : Option eV → Bool
  | some (.inr (.inl _)) => false
  | _ => true
theorem eClr_id {x : Option eV} (h : eNl x = true) : eClr x = x := by
  rcases x with _ | (z | z | _ | c) <;> first | rfl | cases h
theorem eClr_some {x : Option eV} {v : eV} (h : eClr x = some v) : x = some v ∧ eCat v = 1 := by
  rcases x with _ | (z | z | _ | c)
  · cases h
  · cases h; exact ⟨rfl, rfl⟩
  · cases h
  · cases h; exact ⟨rfl, rfl⟩
  · cases h; exact ⟨rfl, rfl⟩
def eSet : Nat → eV → List (Option eV) → List (Option eV)
  | _, _, [] => []
  | 0, v, _ :: l => some v :: l
  | 1, v, a :: _ :: l => eClr a :: some v :: l
  | 1, _, [a] => [a]
  | n + 2, v, a :: l => a :: eSet (n + 1) v l
theorem eSet_len : ∀ (n : Nat) (v : eV) (l : List (Option eV)), (eSet n v l).length = l.length
  | _, _, [] => by simp [eSet]
  | 0, v, _ :: l => rfl
  | 1, v, a :: _ :: l => rfl
  | 1, _, [a] => rfl
  | n + 2, v, a :: l => by show (a :: eSet (n + 1) v l).length = _; rw [List.length_cons, eSet_len (n + 1) v l, List.length_cons]
theorem eSet_at : ∀ (n : Nat) (v : eV) (l : List (Option eV)) (i : Nat) (w : eV), n < l.length → (eSet n v l)[i]? = some (some w) → (i = n ∧ w = v) ∨ (i ≠ n ∧ l[i]? = some (some w) ∧ ¬ (i + 1 = n ∧ eCat w = 2))
  | _, _, [], i, w, h, _ => by cases h
  | 0, v, _ :: l, 0, w, _, h => by cases h; exact Or.inl ⟨rfl, rfl⟩
  | 0, v, _ :: l, i + 1, w, _, h => Or.inr ⟨by omega, h, by omega⟩
  | 1, v, a :: _ :: l, 0, w, _, h => by
    have h1 : eClr a = some w := by simpa [eSet] using h
    obtain ⟨h2, h3⟩ := eClr_some h1
    exact Or.inr ⟨by omega, by rw [h2]; rfl, by omega⟩
  | 1, v, a :: _ :: l, 1, w, _, h => by cases h; exact Or.inl ⟨rfl, rfl⟩
  | 1, v, a :: _ :: l, i + 2, w, _, h => Or.inr ⟨by omega, h, by omega⟩
  | 1, _, [a], i, w, h, _ => by simp at h
  | n + 2, v, a :: l, 0, w, _, h => Or.inr ⟨by omega, h, by omega⟩
  | n + 2, v, a :: l, i + 1, w, hl, h => by
    have h1 : (eSet (n + 1) v l)[i]? = some (some w) := h
    rcases eSet_at (n + 1) v l i w (by have h9 : n + 2 < l.length + 1 := by simpa using hl
                                       omega) h1 with ⟨h2, h3⟩ | ⟨h2, h3, h4⟩
    · exact Or.inl ⟨by omega, h3⟩
    · exact Or.inr ⟨by omega, h3, by omega⟩
/-- a long's second half: what stood there is gone -/
def eDrop : Nat → List (Option eV) → List (Option eV)
  | _, [] => []
  | 0, _ :: l => none :: l
  | n + 1, a :: l => a :: eDrop n l
theorem eDrop_len : ∀ (n : Nat) (l : List (Option eV)), (eDrop n l).length = l.length
  | _, [] => by simp [eDrop]
  | 0, _ :: l => rfl
  | n + 1, a :: l => by show (a :: eDrop n l).length = _; rw [List.length_cons, eDrop_len n l, List.length_cons]
theorem eDrop_at : ∀ (n : Nat) (l : List (Option eV)) (i : Nat) (w : eV), (eDrop n l)[i]? = some (some w) → i ≠ n ∧ l[i]? = some (some w)
  | _, [], i, w, h => by simp [eDrop] at h
  | 0, _ :: l, 0, w, h => by simp [eDrop] at h
  | 0, _ :: l, i + 1, w, h => ⟨by omega, h⟩
  | n + 1, a :: l, 0, w, h => ⟨by omega, h⟩
  | n + 1, a :: l, i + 1, w, h => by
    have h1 : (eDrop n l)[i]? = some (some w) := h
    obtain ⟨h2, h3⟩ := eDrop_at n l i w h1
    exact ⟨by omega, h3⟩
theorem eLs.st1 {la la' : Array Slot} {nL : Nat} {ad : Nat → Nat} {ls : List (Option eV)} {j : Nat} {v : eV} (h : eLs la nL ad ls) (hj : j < nL) (hk : eK v) (h' : lv_has la' nL ((j, eR ad v) :: (eAl ad 0 ls).filter (fun q => !(q.1 == j) && !(q.1 + 1 == j && q.2.category == 2)))) : eLs la' nL ad (eSet j v ls) := by
  refine ⟨h'.1, by rw [eSet_len]; exact h.2.1, h'.2.1, fun i w hw => ?_⟩
  rcases eSet_at j v ls i w (by rw [h.2.1]; exact hj) hw with ⟨rfl, rfl⟩ | ⟨h1, h2, h3⟩
  · exact ⟨h'.2.2 _ List.mem_cons_self, hk⟩
  · refine ⟨h'.2.2 (i, eR ad w) (List.mem_cons_of_mem _ (List.mem_filter.mpr ⟨?_, ?_⟩)), (h.2.2.2 i w h2).2⟩
    · have := eAl_mem ad ls 0 i w h2
      rwa [Nat.zero_add] at this
    · simp only [eR_cat, Bool.and_eq_true, Bool.not_eq_true', beq_eq_false_iff_ne, ne_eq, Bool.and_eq_false_iff]
      refine ⟨h1, ?_⟩
      by_cases q : i + 1 = j
      · exact Or.inr fun z => h3 ⟨q, z⟩
      · exact Or.inl q
theorem eLs.st2 {la la' : Array Slot} {nL : Nat} {ad : Nat → Nat} {ls : List (Option eV)} {j : Nat} {v : eV} (h : eLs la nL ad ls) (hj : j < nL) (hk : eK v) (h' : lv_has la' nL ((j, eR ad v) :: (eAl ad 0 ls).filter (fun q => !(q.1 == j) && (!(q.1 == j + 1) && !(q.1 + 1 == j && q.2.category == 2))))) : eLs la' nL ad (eDrop (j + 1) (eSet j v ls)) := by
  refine ⟨h'.1, by rw [eDrop_len, eSet_len]; exact h.2.1, h'.2.1, fun i w hw => ?_⟩
  obtain ⟨h0, hw⟩ := eDrop_at _ _ _ _ hw
  rcases eSet_at j v ls i w (by rw [h.2.1]; exact hj) hw with ⟨rfl, rfl⟩ | ⟨h1, h2, h3⟩
  · exact ⟨h'.2.2 _ List.mem_cons_self, hk⟩
  · refine ⟨h'.2.2 (i, eR ad w) (List.mem_cons_of_mem _ (List.mem_filter.mpr ⟨?_, ?_⟩)), (h.2.2.2 i w h2).2⟩
    · have := eAl_mem ad ls 0 i w h2
      rwa [Nat.zero_add] at this
    · simp only [eR_cat, Bool.and_eq_true, Bool.not_eq_true', beq_eq_false_iff_ne, ne_eq, Bool.and_eq_false_iff]
      refine ⟨h1, h0, ?_⟩
      by_cases q : i + 1 = j
      · exact Or.inr fun z => h3 ⟨q, z⟩
      · exact Or.inl q
section E2
variable {sh : eSh} {M : eM} {pc pc' tgt : Nat} {ls : List (Option eV)} {st st' : List eV} {σ : eS} {Q : eS → Option eV → Prop}
theorem ok_iload_n (i : Nat) {k : Fin 4} {z : Int} (hd : nth (eTab M) i = some (pc, .iload_n k, pc')) (hn : pc + 1 = pc') (hl : nth ls k.val = some (some (vi z))) (K : Ok sh M pc' ls (vi z :: st) σ Q) : Ok sh M pc ls st σ Q := by
  intro l p e s m args below meth c D dA ad H locs la C hH hL hS
  have h := hL.2.2.2 _ _ (nth_get hl)
  exact lv_iload_n C.2.1 C.2.2.1 (C.1.dec hd hn) rfl h.1 (Ok.go K C hH hL ⟨h.2, hS⟩ hn rfl)
theorem ok_iload (i : Nat) {k : Nat} {z : Int} (hd : nth (eTab M) i = some (pc, .iload k, pc')) (hn : pc + 2 = pc') (hl : nth ls k = some (some (vi z))) (K : Ok sh M pc' ls (vi z :: st) σ Q) : Ok sh M pc ls st σ Q := by
  intro l p e s m args below meth c D dA ad H locs la C hH hL hS
  have h := hL.2.2.2 _ _ (nth_get hl)
  exact lv_iload C.2.1 C.2.2.1 (C.1.dec hd hn) h.1 (Ok.go K C hH hL ⟨h.2, hS⟩ hn rfl)
theorem ok_lload_n (i : Nat) {k : Fin 4} {z : Int} (hd : nth (eTab M) i = some (pc, .lload_n k, pc')) (hn : pc + 1 = pc') (hl : nth ls k.val = some (some (vl z))) (K : Ok sh M pc' ls (vl z :: st) σ Q) : Ok sh M pc ls st σ Q := by
  intro l p e s m args below meth c D dA ad H locs la C hH hL hS
  have h := hL.2.2.2 _ _ (nth_get hl)
  exact lv_lload_n C.2.1 C.2.2.1 (C.1.dec hd hn) rfl h.1 (Ok.go K C hH hL ⟨h.2, hS⟩ hn rfl)
theorem ok_lload (i : Nat) {k : Nat} {z : Int} (hd : nth (eTab M) i = some (pc, .lload k, pc')) (hn : pc + 2 = pc') (hl : nth ls k = some (some (vl z))) (K : Ok sh M pc' ls (vl z :: st) σ Q) : Ok sh M pc ls st σ Q := by
  intro l p e s m args below meth c D dA ad H locs la C hH hL hS
  have h := hL.2.2.2 _ _ (nth_get hl)
  exact lv_lload C.2.1 C.2.2.1 (C.1.dec hd hn) h.1 (Ok.go K C hH hL ⟨h.2, hS⟩ hn rfl)
theorem ok_aload_n (i : Nat) {k : Fin 4} {z : Option Nat} (hd : nth (eTab M) i = some (pc, .aload_n k, pc')) (hn : pc + 1 = pc') (hl : nth ls k.val = some (some (.inr (.inr z)))) (K : Ok sh M pc' ls (.inr (.inr z) :: st) σ Q) : Ok sh M pc ls st σ Q := by
  intro l p e s m args below meth c D dA ad H locs la C hH hL hS
  have h := hL.2.2.2 _ _ (nth_get hl)
  cases z with
  | none => exact lv_aload_nN C.2.1 C.2.2.1 (C.1.dec hd hn) rfl h.1 (Ok.go K C hH hL ⟨h.2, hS⟩ hn rfl)
  | some z => exact lv_aload_n C.2.1 C.2.2.1 (C.1.dec hd hn) rfl h.1 (Ok.go K C hH hL ⟨h.2, hS⟩ hn rfl)
theorem ok_aload (i : Nat) {k : Nat} {z : Option Nat} (hd : nth (eTab M) i = some (pc, .aload k, pc')) (hn : pc + 2 = pc') (hl : nth ls k = some (some (.inr (.inr z)))) (K : Ok sh M pc' ls (.inr (.inr z) :: st) σ Q) : Ok sh M pc ls st σ Q := by
  intro l p e s m args below meth c D dA ad H locs la C hH hL hS
  have h := hL.2.2.2 _ _ (nth_get hl)
  cases z with
  | none => exact lv_aloadN C.2.1 C.2.2.1 (C.1.dec hd hn) h.1 (Ok.go K C hH hL ⟨h.2, hS⟩ hn rfl)
  | some z => exact lv_aload C.2.1 C.2.2.1 (C.1.dec hd hn) h.1 (Ok.go K C hH hL ⟨h.2, hS⟩ hn rfl)
theorem og_istore_n (i : Nat) {k : Nat} {kf : Fin 4} {z : Int} (hd : nth (eTab M) i = some (pc, .istore_n kf, pc')) (hn : pc + 1 = pc') (hk : kf.val = k) (hl : k < eNL M) (K : Ok sh M pc' (eSet k (vi z) ls) st σ Q) : Ok sh M pc ls (vi z :: st) σ Q := by
  intro l p e s m args below meth c D dA ad H locs la C hH hL hS
  exact lv_istore_n C.2.1 C.2.2.1 (C.1.dec hd hn) hk hL.has hl rfl (fun la' h' => Ok.go K C hH (hL.st1 (by omega) hS.1 h') hS.2 hn rfl)
theorem og_istore (i : Nat) {k : Nat} {z : Int} (hd : nth (eTab M) i = some (pc, .istore k, pc')) (hn : pc + 2 = pc') (hl : k < eNL M) (K : Ok sh M pc' (eSet k (vi z) ls) st σ Q) : Ok sh M pc ls (vi z :: st) σ Q := by
  intro l p e s m args below meth c D dA ad H locs la C hH hL hS
  exact lv_istore C.2.1 C.2.2.1 (C.1.dec hd hn) hL.has hl rfl (fun la' h' => Ok.go K C hH (hL.st1 (by omega) hS.1 h') hS.2 hn rfl)
theorem og_lstore_n (i : Nat) {k : Nat} {kf : Fin 4} {z : Int} (hd : nth (eTab M) i = some (pc, .lstore_n kf, pc')) (hn : pc + 1 = pc') (hk : kf.val = k) (hl : k + 1 < eNL M) (K : Ok sh M pc' (eDrop (k + 1) (eSet k (vl z) ls)) st σ Q) : Ok sh M pc ls (vl z :: st) σ Q := by
  intro l p e s m args below meth c D dA ad H locs la C hH hL hS
  exact lv_lstore_n C.2.1 C.2.2.1 (C.1.dec hd hn) hk hL.has hl rfl (fun la' h' => Ok.go K C hH (hL.st2 (by omega) hS.1 h') hS.2 hn rfl)
theorem og_lstore (i : Nat) {k : Nat} {z : Int} (hd : nth (eTab M) i = some (pc, .lstore k, pc')) (hn : pc + 2 = pc') (hl : k + 1 < eNL M) (K : Ok sh M pc' (eDrop (k + 1) (eSet k (vl z) ls)) st σ Q) : Ok sh M pc ls (vl z :: st) σ Q := by
  intro l p e s m args below meth c D dA ad H locs la C hH hL hS
  exact lv_lstore C.2.1 C.2.2.1 (C.1.dec hd hn) hL.has hl rfl (fun la' h' => Ok.go K C hH (hL.st2 (by omega) hS.1 h') hS.2 hn rfl)
theorem og_astore_n (i : Nat) {k : Nat} {kf : Fin 4} {z : Nat} (hd : nth (eTab M) i = some (pc, .astore_n kf, pc')) (hn : pc + 1 = pc') (hk : kf.val = k) (hl : k < eNL M) (K : Ok sh M pc' (eSet k (vr z) ls) st σ Q) : Ok sh M pc ls (vr z :: st) σ Q := by
  intro l p e s m args below meth c D dA ad H locs la C hH hL hS
  exact lv_astore_n C.2.1 C.2.2.1 (C.1.dec hd hn) hk hL.has hl rfl (fun la' h' => Ok.go K C hH (hL.st1 (by omega) hS.1 h') hS.2 hn rfl)
theorem og_astore (i : Nat) {k : Nat} {z : Nat} (hd : nth (eTab M) i = some (pc, .astore k, pc')) (hn : pc + 2 = pc') (hl : k < eNL M) (K : Ok sh M pc' (eSet k (vr z) ls) st σ Q) : Ok sh M pc ls (vr z :: st) σ Q := by
  intro l p e s m args below meth c D dA ad H locs la C hH hL hS
  exact lv_astore C.2.1 C.2.2.1 (C.1.dec hd hn) hL.has hl rfl (fun la' h' => Ok.go K C hH (hL.st1 (by omega) hS.1 h') hS.2 hn rfl)
theorem og_astore_nN (i : Nat) {k : Nat} {kf : Fin 4} (hd : nth (eTab M) i = some (pc, .astore_n kf, pc')) (hn : pc + 1 = pc') (hk : kf.val = k) (hl : k < eNL M) (K : Ok sh M pc' (eSet k (vn) ls) st σ Q) : Ok sh M pc ls (vn :: st) σ Q := by
  intro l p e s m args below meth c D dA ad H locs la C hH hL hS
  exact lv_astore_nN C.2.1 C.2.2.1 (C.1.dec hd hn) hk hL.has hl rfl (fun la' h' => Ok.go K C hH (hL.st1 (by omega) hS.1 h') hS.2 hn rfl)
theorem og_astoreN (i : Nat) {k : Nat} (hd : nth (eTab M) i = some (pc, .astore k, pc')) (hn : pc + 2 = pc') (hl : k < eNL M) (K : Ok sh M pc' (eSet k (vn) ls) st σ Q) : Ok sh M pc ls (vn :: st) σ Q := by
  intro l p e s m args below meth c D dA ad H locs la C hH hL hS
  exact lv_astoreN C.2.1 C.2.2.1 (C.1.dec hd hn) hL.has hl rfl (fun la' h' => Ok.go K C hH (hL.st1 (by omega) hS.1 h') hS.2 hn rfl)
theorem og_astore_nO (i : Nat) {k : Nat} {kf : Fin 4} {z : Option Nat} (hd : nth (eTab M) i = some (pc, .astore_n kf, pc')) (hn : pc + 1 = pc') (hk : kf.val = k) (hl : k < eNL M) (K : Ok sh M pc' (eSet k (.inr (.inr z)) ls) st σ Q) : Ok sh M pc ls (.inr (.inr z) :: st) σ Q := by
  cases z with
  | none => exact og_astore_nN i hd hn hk hl K
  | some z => exact og_astore_n i hd hn hk hl K
theorem og_astoreO (i : Nat) {k : Nat} {z : Option Nat} (hd : nth (eTab M) i = some (pc, .astore k, pc')) (hn : pc + 2 = pc') (hl : k < eNL M) (K : Ok sh M pc' (eSet k (.inr (.inr z)) ls) st σ Q) : Ok sh M pc ls (.inr (.inr z) :: st) σ Q := by
  cases z with
  | none => exact og_astoreN i hd hn hl K
  | some z => exact og_astore i hd hn hl K
theorem og_len (k : ls.length = eNL M → Ok sh M pc ls st σ Q) : Ok sh M pc ls st σ Q := fun l p e s m args below meth c D dA ad H locs la C hH hL hS => k hL.2.1 l p e s m args below meth c D dA ad H locs la C hH hL hS
theorem og_iinc (i : Nat) {k : Nat} {n z : Int} (hd : nth (eTab M) i = some (pc, .iinc k n, pc')) (hn : pc + 3 = pc') (hl : nth ls k = some (some (vi z))) (hr : rg (z + n)) (K : Ok sh M pc' (eSet k (vi (z + n)) ls) st σ Q) : Ok sh M pc ls st σ Q := by
  intro l p e s m args below meth c D dA ad H locs la C hH hL hS
  have hj : k < eNL M := by rw [← hL.2.1]; exact (List.getElem?_eq_some_iff.mp (nth_get hl)).1
  have hm := eAl_mem ad ls 0 k (vi z) (nth_get hl)
  rw [Nat.zero_add] at hm
  obtain ⟨q, hq⟩ := List.getElem?_of_mem hm
  exact lv_iinc (v := Int32.ofInt (z + n)) C.2.1 C.2.2.1 (C.1.dec hd hn) hL.has hq (by rw [Int32.ofInt_add]) hj rfl (fun la' h' => Ok.go K C hH (hL.st1 hj hr h') hS hn rfl)
theorem ok_ist0 (i : Nat) {r : List (Option eV)} {y : Option eV} {z : Int} (hd : nth (eTab M) i = some (pc, .istore_n 0, pc')) (hn : pc + 1 = pc') (k : Ok sh M pc' (some (vi z) :: r) st σ Q) : Ok sh M pc (y :: r) (vi z :: st) σ Q :=
  og_len fun h => og_istore_n (k := 0) i hd hn rfl (by rw [← h]; simp) (by exact k)
theorem ok_ast0 (i : Nat) {r : List (Option eV)} {y : Option eV} {z : Option Nat} (hd : nth (eTab M) i = some (pc, .astore_n 0, pc')) (hn : pc + 1 = pc') (k : Ok sh M pc' (some (.inr (.inr z)) :: r) st σ Q) : Ok sh M pc (y :: r) (.inr (.inr z) :: st) σ Q :=
  og_len fun h => og_astore_nO (k := 0) i hd hn rfl (by rw [← h]; simp) (by exact k)
theorem ok_lst0 (i : Nat) {r : List (Option eV)} {y2 : Option eV} {y : Option eV} {z : Int} (hd : nth (eTab M) i = some (pc, .lstore_n 0, pc')) (hn : pc + 1 = pc') (k : Ok sh M pc' (some (vl z) :: none :: r) st σ Q) : Ok sh M pc (y :: y2 :: r) (vl z :: st) σ Q :=
  og_len fun h => og_lstore_n (k := 0) i hd hn rfl (by rw [← h]; simp) (by exact k)
theorem ok_inc0 (i : Nat) {r : List (Option eV)} {n z : Int} (hd : nth (eTab M) i = some (pc, .iinc 0 n, pc')) (hn : pc + 3 = pc') (hr : rg (z + n)) (k : Ok sh M pc' (some (vi (z + n)) :: r) st σ Q) : Ok sh M pc (some (vi z) :: r) st σ Q :=
  og_iinc (k := 0) i hd hn rfl hr (by exact k)
theorem ok_ist1 (i : Nat) {r : List (Option eV)} {x0 y : Option eV} {z : Int} (hd : nth (eTab M) i = some (pc, .istore_n 1, pc')) (hn : pc + 1 = pc') (hp : eNl x0 = true) (k : Ok sh M pc' (x0 :: some (vi z) :: r) st σ Q) : Ok sh M pc (x0 :: y :: r) (vi z :: st) σ Q :=
  og_len fun h => og_istore_n (k := 1) i hd hn rfl (by rw [← h]; simp) (by show Ok sh M pc' (eClr x0 :: some (vi z) :: r) st σ Q; rw [eClr_id hp]; exact k)
theorem ok_ast1 (i : Nat) {r : List (Option eV)} {x0 y : Option eV} {z : Option Nat} (hd : nth (eTab M) i = some (pc, .astore_n 1, pc')) (hn : pc + 1 = pc') (hp : eNl x0 = true) (k : Ok sh M pc' (x0 :: some (.inr (.inr z)) :: r) st σ Q) : Ok sh M pc (x0 :: y :: r) (.inr (.inr z) :: st) σ Q :=
  og_len fun h => og_astore_nO (k := 1) i hd hn rfl (by rw [← h]; simp) (by show Ok sh M pc' (eClr x0 :: some (.inr (.inr z)) :: r) st σ Q; rw [eClr_id hp]; exact k)
theorem ok_lst1 (i : Nat) {r : List (Option eV)} {y2 : Option eV} {x0 y : Option eV} {z : Int} (hd : nth (eTab M) i = some (pc, .lstore_n 1, pc')) (hn : pc + 1 = pc') (hp : eNl x0 = true) (k : Ok sh M pc' (x0 :: some (vl z) :: none :: r) st σ Q) : Ok sh M pc (x0 :: y :: y2 :: r) (vl z :: st) σ Q :=
  og_len fun h => og_lstore_n (k := 1) i hd hn rfl (by rw [← h]; simp) (by show Ok sh M pc' (eClr x0 :: some (vl z) :: none :: r) st σ Q; rw [eClr_id hp]; exact k)
theorem ok_inc1 (i : Nat) {r : List (Option eV)} {x0 : Option eV} {n z : Int} (hd : nth (eTab M) i = some (pc, .iinc 1 n, pc')) (hn : pc + 3 = pc') (hp : eNl x0 = true) (hr : rg (z + n)) (k : Ok sh M pc' (x0 :: some (vi (z + n)) :: r) st σ Q) : Ok sh M pc (x0 :: some (vi z) :: r) st σ Q :=
  og_iinc (k := 1) i hd hn rfl hr (by show Ok sh M pc' (eClr x0 :: some (vi (z + n)) :: r) st σ Q; rw [eClr_id hp]; exact k)
theorem ok_ist2 (i : Nat) {r : List (Option eV)} {x0 x1 y : Option eV} {z : Int} (hd : nth (eTab M) i = some (pc, .istore_n 2, pc')) (hn : pc + 1 = pc') (hp : eNl x1 = true) (k : Ok sh M pc' (x0 :: x1 :: some (vi z) :: r) st σ Q) : Ok sh M pc (x0 :: x1 :: y :: r) (vi z :: st) σ Q :=
  og_len fun h => og_istore_n (k := 2) i hd hn rfl (by rw [← h]; simp) (by show Ok sh M pc' (x0 :: eClr x1 :: some (vi z) :: r) st σ Q; rw [eClr_id hp]; exact k)
theorem ok_ast2 (i : Nat) {r : List (Option eV)} {x0 x1 y : Option eV} {z : Option Nat} (hd : nth (eTab M) i = some (pc, .astore_n 2, pc')) (hn : pc + 1 = pc') (hp : eNl x1 = true) (k : Ok sh M pc' (x0 :: x1 :: some (.inr (.inr z)) :: r) st σ Q) : Ok sh M pc (x0 :: x1 :: y :: r) (.inr (.inr z) :: st) σ Q :=
  og_len fun h => og_astore_nO (k := 2) i hd hn rfl (by rw [← h]; simp) (by show Ok sh M pc' (x0 :: eClr x1 :: some (.inr (.inr z)) :: r) st σ Q; rw [eClr_id hp]; exact k)
theorem ok_lst2 (i : Nat) {r : List (Option eV)} {y2 : Option eV} {x0 x1 y : Option eV} {z : Int} (hd : nth (eTab M) i = some (pc, .lstore_n 2, pc')) (hn : pc + 1 = pc') (hp : eNl x1 = true) (k : Ok sh M pc' (x0 :: x1 :: some (vl z) :: none :: r) st σ Q) : Ok sh M pc (x0 :: x1 :: y :: y2 :: r) (vl z :: st) σ Q :=
  og_len fun h => og_lstore_n (k := 2) i hd hn rfl (by rw [← h]; simp) (by show Ok sh M pc' (x0 :: eClr x1 :: some (vl z) :: none :: r) st σ Q; rw [eClr_id hp]; exact k)
theorem ok_inc2 (i : Nat) {r : List (Option eV)} {x0 x1 : Option eV} {n z : Int} (hd : nth (eTab M) i = some (pc, .iinc 2 n, pc')) (hn : pc + 3 = pc') (hp : eNl x1 = true) (hr : rg (z + n)) (k : Ok sh M pc' (x0 :: x1 :: some (vi (z + n)) :: r) st σ Q) : Ok sh M pc (x0 :: x1 :: some (vi z) :: r) st σ Q :=
  og_iinc (k := 2) i hd hn rfl hr (by show Ok sh M pc' (x0 :: eClr x1 :: some (vi (z + n)) :: r) st σ Q; rw [eClr_id hp]; exact k)
theorem ok_ist3 (i : Nat) {r : List (Option eV)} {x0 x1 x2 y : Option eV} {z : Int} (hd : nth (eTab M) i = some (pc, .istore_n 3, pc')) (hn : pc + 1 = pc') (hp : eNl x2 = true) (k : Ok sh M pc' (x0 :: x1 :: x2 :: some (vi z) :: r) st σ Q) : Ok sh M pc (x0 :: x1 :: x2 :: y :: r) (vi z :: st) σ Q :=
  og_len fun h => og_istore_n (k := 3) i hd hn rfl (by rw [← h]; simp) (by show Ok sh M pc' (x0 :: x1 :: eClr x2 :: some (vi z) :: r) st σ Q; rw [eClr_id hp]; exact k)
theorem ok_ast3 (i : Nat) {r : List (Option eV)} {x0 x1 x2 y : Option eV} {z : Option Nat} (hd : nth (eTab M) i = some (pc, .astore_n 3, pc')) (hn : pc + 1 = pc') (hp : eNl x2 = true) (k : Ok sh M pc' (x0 :: x1 :: x2 :: some (.inr (.inr z)) :: r) st σ Q) : Ok sh M pc (x0 :: x1 :: x2 :: y :: r) (.inr (.inr z) :: st) σ Q :=
  og_len fun h => og_astore_nO (k := 3) i hd hn rfl (by rw [← h]; simp) (by show Ok sh M pc' (x0 :: x1 :: eClr x2 :: some (.inr (.inr z)) :: r) st σ Q; rw [eClr_id hp]; exact k)
theorem ok_lst3 (i : Nat) {r : List (Option eV)} {y2 : Option eV} {x0 x1 x2 y : Option eV} {z : Int} (hd : nth (eTab M) i = some (pc, .lstore_n 3, pc')) (hn : pc + 1 = pc') (hp : eNl x2 = true) (k : Ok sh M pc' (x0 :: x1 :: x2 :: some (vl z) :: none :: r) st σ Q) : Ok sh M pc (x0 :: x1 :: x2 :: y :: y2 :: r) (vl z :: st) σ Q :=
  og_len fun h => og_lstore_n (k := 3) i hd hn rfl (by rw [← h]; simp) (by show Ok sh M pc' (x0 :: x1 :: eClr x2 :: some (vl z) :: none :: r) st σ Q; rw [eClr_id hp]; exact k)
theorem ok_inc3 (i : Nat) {r : List (Option eV)} {x0 x1 x2 : Option eV} {n z : Int} (hd : nth (eTab M) i = some (pc, .iinc 3 n, pc')) (hn : pc + 3 = pc') (hp : eNl x2 = true) (hr : rg (z + n)) (k : Ok sh M pc' (x0 :: x1 :: x2 :: some (vi (z + n)) :: r) st σ Q) : Ok sh M pc (x0 :: x1 :: x2 :: some (vi z) :: r) st σ Q :=
  og_iinc (k := 3) i hd hn rfl hr (by show Ok sh M pc' (x0 :: x1 :: eClr x2 :: some (vi (z + n)) :: r) st σ Q; rw [eClr_id hp]; exact k)
theorem ok_ist4 (i : Nat) {r : List (Option eV)} {x0 x1 x2 x3 y : Option eV} {z : Int} (hd : nth (eTab M) i = some (pc, .istore 4, pc')) (hn : pc + 2 = pc') (hp : eNl x3 = true) (k : Ok sh M pc' (x0 :: x1 :: x2 :: x3 :: some (vi z) :: r) st σ Q) : Ok sh M pc (x0 :: x1 :: x2 :: x3 :: y :: r) (vi z :: st) σ Q :=
  og_len fun h => og_istore (k := 4) i hd hn (by rw [← h]; simp) (by show Ok sh M pc' (x0 :: x1 :: x2 :: eClr x3 :: some (vi z) :: r) st σ Q; rw [eClr_id hp]; exact k)
theorem ok_ast4 (i : Nat) {r : List (Option eV)} {x0 x1 x2 x3 y : Option eV} {z : Option Nat} (hd : nth (eTab M) i = some (pc, .astore 4, pc')) (hn : pc + 2 = pc') (hp : eNl x3 = true) (k : Ok sh M pc' (x0 :: x1 :: x2 :: x3 :: some (.inr (.inr z)) :: r) st σ Q) : Ok sh M pc (x0 :: x1 :: x2 :: x3 :: y :: r) (.inr (.inr z) :: st) σ Q :=
  og_len fun h => og_astoreO (k := 4) i hd hn (by rw [← h]; simp) (by show Ok sh M pc' (x0 :: x1 :: x2 :: eClr x3 :: some (.inr (.inr z)) :: r) st σ Q; rw [eClr_id hp]; exact k)
theorem ok_lst4 (i : Nat) {r : List (Option eV)} {y2 : Option eV} {x0 x1 x2 x3 y : Option eV} {z : Int} (hd : nth (eTab M) i = some (pc, .lstore 4, pc')) (hn : pc + 2 = pc') (hp : eNl x3 = true) (k : Ok sh M pc' (x0 :: x1 :: x2 :: x3 :: some (vl z) :: none :: r) st σ Q) : Ok sh M pc (x0 :: x1 :: x2 :: x3 :: y :: y2 :: r) (vl z :: st) σ Q :=
  og_len fun h => og_lstore (k := 4) i hd hn (by rw [← h]; simp) (by show Ok sh M pc' (x0 :: x1 :: x2 :: eClr x3 :: some (vl z) :: none :: r) st σ Q; rw [eClr_id hp]; exact k)
theorem ok_inc4 (i : Nat) {r : List (Option eV)} {x0 x1 x2 x3 : Option eV} {n z : Int} (hd : nth (eTab M) i = some (pc, .iinc 4 n, pc')) (hn : pc + 3 = pc') (hp : eNl x3 = true) (hr : rg (z + n)) (k : Ok sh M pc' (x0 :: x1 :: x2 :: x3 :: some (vi (z + n)) :: r) st σ Q) : Ok sh M pc (x0 :: x1 :: x2 :: x3 :: some (vi z) :: r) st σ Q :=
  og_iinc (k := 4) i hd hn rfl hr (by show Ok sh M pc' (x0 :: x1 :: x2 :: eClr x3 :: some (vi (z + n)) :: r) st σ Q; rw [eClr_id hp]; exact k)
theorem ok_ist5 (i : Nat) {r : List (Option eV)} {x0 x1 x2 x3 x4 y : Option eV} {z : Int} (hd : nth (eTab M) i = some (pc, .istore 5, pc')) (hn : pc + 2 = pc') (hp : eNl x4 = true) (k : Ok sh M pc' (x0 :: x1 :: x2 :: x3 :: x4 :: some (vi z) :: r) st σ Q) : Ok sh M pc (x0 :: x1 :: x2 :: x3 :: x4 :: y :: r) (vi z :: st) σ Q :=
  og_len fun h => og_istore (k := 5) i hd hn (by rw [← h]; simp) (by show Ok sh M pc' (x0 :: x1 :: x2 :: x3 :: eClr x4 :: some (vi z) :: r) st σ Q; rw [eClr_id hp]; exact k)
theorem ok_ast5 (i : Nat) {r : List (Option eV)} {x0 x1 x2 x3 x4 y : Option eV} {z : Option Nat} (hd : nth (eTab M) i = some (pc, .astore 5, pc')) (hn : pc + 2 = pc') (hp : eNl x4 = true) (k : Ok sh M pc' (x0 :: x1 :: x2 :: x3 :: x4 :: some (.inr (.inr z)) :: r) st σ Q) : Ok sh M pc (x0 :: x1 :: x2 :: x3 :: x4 :: y :: r) (.inr (.inr z) :: st) σ Q :=
  og_len fun h => og_astoreO (k := 5) i hd hn (by rw [← h]; simp) (by show Ok sh M pc' (x0 :: x1 :: x2 :: x3 :: eClr x4 :: some (.inr (.inr z)) :: r) st σ Q; rw [eClr_id hp]; exact k)
theorem ok_lst5 (i : Nat) {r : List (Option eV)} {y2 : Option eV} {x0 x1 x2 x3 x4 y : Option eV} {z : Int} (hd : nth (eTab M) i = some (pc, .lstore 5, pc')) (hn : pc + 2 = pc') (hp : eNl x4 = true) (k : Ok sh M pc' (x0 :: x1 :: x2 :: x3 :: x4 :: some (vl z) :: none :: r) st σ Q) : Ok sh M pc (x0 :: x1 :: x2 :: x3 :: x4 :: y :: y2 :: r) (vl z :: st) σ Q :=
  og_len fun h => og_lstore (k := 5) i hd hn (by rw [← h]; simp) (by show Ok sh M pc' (x0 :: x1 :: x2 :: x3 :: eClr x4 :: some (vl z) :: none :: r) st σ Q; rw [eClr_id hp]; exact k)
theorem ok_inc5 (i : Nat) {r : List (Option eV)} {x0 x1 x2 x3 x4 : Option eV} {n z : Int} (hd : nth (eTab M) i = some (pc, .iinc 5 n, pc')) (hn : pc + 3 = pc') (hp : eNl x4 = true) (hr : rg (z + n)) (k : Ok sh M pc' (x0 :: x1 :: x2 :: x3 :: x4 :: some (vi (z + n)) :: r) st σ Q) : Ok sh M pc (x0 :: x1 :: x2 :: x3 :: x4 :: some (vi z) :: r) st σ Q :=
  og_iinc (k := 5) i hd hn rfl hr (by show Ok sh M pc' (x0 :: x1 :: x2 :: x3 :: eClr x4 :: some (vi (z + n)) :: r) st σ Q; rw [eClr_id hp]; exact k)
theorem ok_ist6 (i : Nat) {r : List (Option eV)} {x0 x1 x2 x3 x4 x5 y : Option eV} {z : Int} (hd : nth (eTab M) i = some (pc, .istore 6, pc')) (hn : pc + 2 = pc') (hp : eNl x5 = true) (k : Ok sh M pc' (x0 :: x1 :: x2 :: x3 :: x4 :: x5 :: some (vi z) :: r) st σ Q) : Ok sh M pc (x0 :: x1 :: x2 :: x3 :: x4 :: x5 :: y :: r) (vi z :: st) σ Q :=
  og_len fun h => og_istore (k := 6) i hd hn (by rw [← h]; simp) (by show Ok sh M pc' (x0 :: x1 :: x2 :: x3 :: x4 :: eClr x5 :: some (vi z) :: r) st σ Q; rw [eClr_id hp]; exact k)
theorem ok_ast6 (i : Nat) {r : List (Option eV)} {x0 x1 x2 x3 x4 x5 y : Option eV} {z : Option Nat} (hd : nth (eTab M) i = some (pc, .astore 6, pc')) (hn : pc + 2 = pc') (hp : eNl x5 = true) (k : Ok sh M pc' (x0 :: x1 :: x2 :: x3 :: x4 :: x5 :: some (.inr (.inr z)) :: r) st σ Q) : Ok sh M pc (x0 :: x1 :: x2 :: x3 :: x4 :: x5 :: y :: r) (.inr (.inr z) :: st) σ Q :=
  og_len fun h => og_astoreO (k := 6) i hd hn (by rw [← h]; simp) (by show Ok sh M pc' (x0 :: x1 :: x2 :: x3 :: x4 :: eClr x5 :: some (.inr (.inr z)) :: r) st σ Q; rw [eClr_id hp]; exact k)
theorem ok_lst6 (i : Nat) {r : List (Option eV)} {y2 : Option eV} {x0 x1 x2 x3 x4 x5 y : Option eV} {z : Int} (hd : nth (eTab M) i = some (pc, .lstore 6, pc')) (hn : pc + 2 = pc') (hp : eNl x5 = true) (k : Ok sh M pc' (x0 :: x1 :: x2 :: x3 :: x4 :: x5 :: some (vl z) :: none :: r) st σ Q) : Ok sh M pc (x0 :: x1 :: x2 :: x3 :: x4 :: x5 :: y :: y2 :: r) (vl z :: st) σ Q :=
  og_len fun h => og_lstore (k := 6) i hd hn (by rw [← h]; simp) (by show Ok sh M pc' (x0 :: x1 :: x2 :: x3 :: x4 :: eClr x5 :: some (vl z) :: none :: r) st σ Q; rw [eClr_id hp]; exact k)
theorem ok_inc6 (i : Nat) {r : List (Option eV)} {x0 x1 x2 x3 x4 x5 : Option eV} {n z : Int} (hd : nth (eTab M) i = some (pc, .iinc 6 n, pc')) (hn : pc + 3 = pc') (hp : eNl x5 = true) (hr : rg (z + n)) (k : Ok sh M pc' (x0 :: x1 :: x2 :: x3 :: x4 :: x5 :: some (vi (z + n)) :: r) st σ Q) : Ok sh M pc (x0 :: x1 :: x2 :: x3 :: x4 :: x5 :: some (vi z) :: r) st σ Q :=
  og_iinc (k := 6) i hd hn rfl hr (by show Ok sh M pc' (x0 :: x1 :: x2 :: x3 :: x4 :: eClr x5 :: some (vi (z + n)) :: r) st σ Q; rw [eClr_id hp]; exact k)
theorem ok_ist7 (i : Nat) {r : List (Option eV)} {x0 x1 x2 x3 x4 x5 x6 y : Option eV} {z : Int} (hd : nth (eTab M) i = some (pc, .istore 7, pc')) (hn : pc + 2 = pc') (hp : eNl x6 = true) (k : Ok sh M pc' (x0 :: x1 :: x2 :: x3 :: x4 :: x5 :: x6 :: some (vi z) :: r) st σ Q) : Ok sh M pc (x0 :: x1 :: x2 :: x3 :: x4 :: x5 :: x6 :: y :: r) (vi z :: st) σ Q :=
  og_len fun h => og_istore (k := 7) i hd hn (by rw [← h]; simp) (by show Ok sh M pc' (x0 :: x1 :: x2 :: x3 :: x4 :: x5 :: eClr x6 :: some (vi z) :: r) st σ Q; rw [eClr_id hp]; exact k)
theorem ok_ast7 (i : Nat) {r : List (Option eV)} {x0 x1 x2 x3 x4 x5 x6 y : Option eV} {z : Option Nat} (hd : nth (eTab M) i = some (pc, .astore 7, pc')) (hn : pc + 2 = pc') (hp : eNl x6 = true) (k : Ok sh M pc' (x0 :: x1 :: x2 :: x3 :: x4 :: x5 :: x6 :: some (.inr (.inr z)) :: r) st σ Q) : Ok sh M pc (x0 :: x1 :: x2 :: x3 :: x4 :: x5 :: x6 :: y :: r) (.inr (.inr z) :: st) σ Q :=
  og_len fun h => og_astoreO (k := 7) i hd hn (by rw [← h]; simp) (by show Ok sh M pc' (x0 :: x1 :: x2 :: x3 :: x4 :: x5 :: eClr x6 :: some (.inr (.inr z)) :: r) st σ Q; rw [eClr_id hp]; exact k)
theorem ok_lst7 (i : Nat) {r : List (Option eV)} {y2 : Option eV} {x0 x1 x2 x3 x4 x5 x6 y : Option eV} {z : Int} (hd : nth (eTab M) i = some (pc, .lstore 7, pc')) (hn : pc + 2 = pc') (hp : eNl x6 = true) (k : Ok sh M pc' (x0 :: x1 :: x2 :: x3 :: x4 :: x5 :: x6 :: some (vl z) :: none :: r) st σ Q) : Ok sh M pc (x0 :: x1 :: x2 :: x3 :: x4 :: x5 :: x6 :: y :: y2 :: r) (vl z :: st) σ Q :=
  og_len fun h => og_lstore (k := 7) i hd hn (by rw [← h]; simp) (by show Ok sh M pc' (x0 :: x1 :: x2 :: x3 :: x4 :: x5 :: eClr x6 :: some (vl z) :: none :: r) st σ Q; rw [eClr_id hp]; exact k)
theorem ok_inc7 (i : Nat) {r : List (Option eV)} {x0 x1 x2 x3 x4 x5 x6 : Option eV} {n z : Int} (hd : nth (eTab M) i = some (pc, .iinc 7 n, pc')) (hn : pc + 3 = pc') (hp : eNl x6 = true) (hr : rg (z + n)) (k : Ok sh M pc' (x0 :: x1 :: x2 :: x3 :: x4 :: x5 :: x6 :: some (vi (z + n)) :: r) st σ Q) : Ok sh M pc (x0 :: x1 :: x2 :: x3 :: x4 :: x5 :: x6 :: some (vi z) :: r) st σ Q :=
  og_iinc (k := 7) i hd hn rfl hr (by show Ok sh M pc' (x0 :: x1 :: x2 :: x3 :: x4 :: x5 :: eClr x6 :: some (vi (z + n)) :: r) st σ Q; rw [eClr_id hp]; exact k)
theorem ok_ist8 (i : Nat) {r : List (Option eV)} {x0 x1 x2 x3 x4 x5 x6 x7 y : Option eV} {z : Int} (hd : nth (eTab M) i = some (pc, .istore 8, pc')) (hn : pc + 2 = pc') (hp : eNl x7 = true) (k : Ok sh M pc' (x0 :: x1 :: x2 :: x3 :: x4 :: x5 :: x6 :: x7 :: some (vi z) :: r) st σ Q) : Ok sh M pc (x0 :: x1 :: x2 :: x3 :: x4 :: x5 :: x6 :: x7 :: y :: r) (vi z :: st) σ Q :=
  og_len fun h => og_istore (k := 8) i hd hn (by rw [← h]; simp) (by show Ok sh M pc' (x0 :: x1 :: x2 :: x3 :: x4 :: x5 :: x6 :: eClr x7 :: some (vi z) :: r) st σ Q; rw [eClr_id hp]; exact k)
theorem ok_ast8 (i : Nat) {r : List (Option eV)} {x0 x1 x2 x3 x4 x5 x6 x7 y : Option eV} {z : Option Nat} (hd : nth (eTab M) i = some (pc, .astore 8, pc')) (hn : pc + 2 = pc') (hp : eNl x7 = true) (k : Ok sh M pc' (x0 :: x1 :: x2 :: x3 :: x4 :: x5 :: x6 :: x7 :: some (.inr (.inr z)) :: r) st σ Q) : Ok sh M pc (x0 :: x1 :: x2 :: x3 :: x4 :: x5 :: x6 :: x7 :: y :: r) (.inr (.inr z) :: st) σ Q :=
  og_len fun h => og_astoreO (k := 8) i hd hn (by rw [← h]; simp) (by show Ok sh M pc' (x0 :: x1 :: x2 :: x3 :: x4 :: x5 :: x6 :: eClr x7 :: some (.inr (.inr z)) :: r) st σ Q; rw [eClr_id hp]; exact k)
theorem ok_lst8 (i : Nat) {r : List (Option eV)} {y2 : Option eV} {x0 x1 x2 x3 x4 x5 x6 x7 y : Option eV} {z : Int} (hd : nth (eTab M) i = some (pc, .lstore 8, pc')) (hn : pc + 2 = pc') (hp : eNl x7 = true) (k : Ok sh M pc' (x0 :: x1 :: x2 :: x3 :: x4 :: x5 :: x6 :: x7 :: some (vl z) :: none :: r) st σ Q) : Ok sh M pc (x0 :: x1 :: x2 :: x3 :: x4 :: x5 :: x6 :: x7 :: y :: y2 :: r) (vl z :: st) σ Q :=
  og_len fun h => og_lstore (k := 8) i hd hn (by rw [← h]; simp) (by show Ok sh M pc' (x0 :: x1 :: x2 :: x3 :: x4 :: x5 :: x6 :: eClr x7 :: some (vl z) :: none :: r) st σ Q; rw [eClr_id hp]; exact k)
theorem ok_inc8 (i : Nat) {r : List (Option eV)} {x0 x1 x2 x3 x4 x5 x6 x7 : Option eV} {n z : Int} (hd : nth (eTab M) i = some (pc, .iinc 8 n, pc')) (hn : pc + 3 = pc') (hp : eNl x7 = true) (hr : rg (z + n)) (k : Ok sh M pc' (x0 :: x1 :: x2 :: x3 :: x4 :: x5 :: x6 :: x7 :: some (vi (z + n)) :: r) st σ Q) : Ok sh M pc (x0 :: x1 :: x2 :: x3 :: x4 :: x5 :: x6 :: x7 :: some (vi z) :: r) st σ Q :=
  og_iinc (k := 8) i hd hn rfl hr (by show Ok sh M pc' (x0 :: x1 :: x2 :: x3 :: x4 :: x5 :: x6 :: eClr x7 :: some (vi (z + n)) :: r) st σ Q; rw [eClr_id hp]; exact k)
theorem ok_ist9 (i : Nat) {r : List (Option eV)} {x0 x1 x2 x3 x4 x5 x6 x7 x8 y : Option eV} {z : Int} (hd : nth (eTab M) i = some (pc, .istore 9, pc')) (hn : pc + 2 = pc') (hp : eNl x8 = true) (k : Ok sh M pc' (x0 :: x1 :: x2 :: x3 :: x4 :: x5 :: x6 :: x7 :: x8 :: some (vi z) :: r) st σ Q) : Ok sh M pc (x0 :: x1 :: x2 :: x3 :: x4 :: x5 :: x6 :: x7 :: x8 :: y :: r) (vi z :: st) σ Q :=
  og_len fun h => og_istore (k := 9) i hd hn (by rw [← h]; simp) (by show Ok sh M pc' (x0 :: x1 :: x2 :: x3 :: x4 :: x5 :: x6 :: x7 :: eClr x8 :: some (vi z) :: r) st σ Q; rw [eClr_id hp]; exact k)
theorem ok_ast9 (i : Nat) {r : List (Option eV)} {x0 x1 x2 x3 x4 x5 x6 x7 x8 y : Option eV} {z : Option Nat} (hd : nth (eTab M) i = some (pc, .astore 9, pc')) (hn : pc + 2 = pc') (hp : eNl x8 = true) (k : Ok sh M pc' (x0 :: x1 :: x2 :: x3 :: x4 :: x5 :: x6 :: x7 :: x8 :: some (.inr (.inr z)) :: r) st σ Q) : Ok sh M pc (x0 :: x1 :: x2 :: x3 :: x4 :: x5 :: x6 :: x7 :: x8 :: y :: r) (.inr (.inr z) :: st) σ Q :=
  og_len fun h => og_astoreO (k := 9) i hd hn (by rw [← h]; simp) (by show Ok sh M pc' (x0 :: x1 :: x2 :: x3 :: x4 :: x5 :: x6 :: x7 :: eClr x8 :: some (.inr (.inr z)) :: r) st σ Q; rw [eClr_id hp]; exact k)
theorem ok_lst9 (i : Nat) {r : List (Option eV)} {y2 : Option eV} {x0 x1 x2 x3 x4 x5 x6 x7 x8 y : Option eV} {z : Int} (hd : nth (eTab M) i = some (pc, .lstore 9, pc')) (hn : pc + 2 = pc') (hp : eNl x8 = true) (k : Ok sh M pc' (x0 :: x1 :: x2 :: x3 :: x4 :: x5 :: x6 :: x7 :: x8 :: some (vl z) :: none :: r) st σ Q) : Ok sh M pc (x0 :: x1 :: x2 :: x3 :: x4 :: x5 :: x6 :: x7 :: x8 :: y :: y2 :: r) (vl z :: st) σ Q :=
  og_len fun h => og_lstore (k := 9) i hd hn (by rw [← h]; simp) (by show Ok sh M pc' (x0 :: x1 :: x2 :: x3 :: x4 :: x5 :: x6 :: x7 :: eClr x8 :: some (vl z) :: none :: r) st σ Q; rw [eClr_id hp]; exact k)
theorem ok_inc9 (i : Nat) {r : List (Option eV)} {x0 x1 x2 x3 x4 x5 x6 x7 x8 : Option eV} {n z : Int} (hd : nth (eTab M) i = some (pc, .iinc 9 n, pc')) (hn : pc + 3 = pc') (hp : eNl x8 = true) (hr : rg (z + n)) (k : Ok sh M pc' (x0 :: x1 :: x2 :: x3 :: x4 :: x5 :: x6 :: x7 :: x8 :: some (vi (z + n)) :: r) st σ Q) : Ok sh M pc (x0 :: x1 :: x2 :: x3 :: x4 :: x5 :: x6 :: x7 :: x8 :: some (vi z) :: r) st σ Q :=
  og_iinc (k := 9) i hd hn rfl hr (by show Ok sh M pc' (x0 :: x1 :: x2 :: x3 :: x4 :: x5 :: x6 :: x7 :: eClr x8 :: some (vi (z + n)) :: r) st σ Q; rw [eClr_id hp]; exact k)
theorem ok_ist10 (i : Nat) {r : List (Option eV)} {x0 x1 x2 x3 x4 x5 x6 x7 x8 x9 y : Option eV} {z : Int} (hd : nth (eTab M) i = some (pc, .istore 10, pc')) (hn : pc + 2 = pc') (hp : eNl x9 = true) (k : Ok sh M pc' (x0 :: x1 :: x2 :: x3 :: x4 :: x5 :: x6 :: x7 :: x8 :: x9 :: some (vi z) :: r) st σ Q) : Ok sh M pc (x0 :: x1 :: x2 :: x3 :: x4 :: x5 :: x6 :: x7 :: x8 :: x9 :: y :: r) (vi z :: st) σ Q :=
  og_len fun h => og_istore (k := 10) i hd hn (by rw [← h]; simp) (by show Ok sh M pc' (x0 :: x1 :: x2 :: x3 :: x4 :: x5 :: x6 :: x7 :: x8 :: eClr x9 :: some (vi z) :: r) st σ Q; rw [eClr_id hp]; exact k)
theorem ok_ast10 (i : Nat) {r : List (Option eV)} {x0 x1 x2 x3 x4 x5 x6 x7 x8 x9 y : Option eV} {z : Option Nat} (hd : nth (eTab M) i = some (pc, .astore 10, pc')) (hn : pc + 2 = pc') (hp : eNl x9 = true) (k : Ok sh M pc' (x0 :: x1 :: x2 :: x3 :: x4 :: x5 :: x6 :: x7 :: x8 :: x9 :: some (.inr (.inr z)) :: r) st σ Q) : Ok sh M pc (x0 :: x1 :: x2 :: x3 :: x4 :: x5 :: x6 :: x7 :: x8 :: x9 :: y :: r) (.inr (.inr z) :: st) σ Q :=
  og_len fun h => og_astoreO (k := 10) i hd hn (by rw [← h]; simp) (by show Ok sh M pc' (x0 :: x1 :: x2 :: x3 :: x4 :: x5 :: x6 :: x7 :: x8 :: eClr x9 :: some (.inr (.inr z)) :: r) st σ Q; rw [eClr_id hp]; exact k)
theorem ok_lst10 (i : Nat) {r : List (Option eV)} {y2 : Option eV} {x0 x1 x2 x3 x4 x5 x6 x7 x8 x9 y : Option eV} {z : Int} (hd : nth (eTab M) i = some (pc, .lstore 10, pc')) (hn : pc + 2 = pc') (hp : eNl x9 = true) (k : Ok sh M pc' (x0 :: x1 :: x2 :: x3 :: x4 :: x5 :: x6 :: x7 :: x8 :: x9 :: some (vl z) :: none :: r) st σ Q) : Ok sh M pc (x0 :: x1 :: x2 :: x3 :: x4 :: x5 :: x6 :: x7 :: x8 :: x9 :: y :: y2 :: r) (vl z :: st) σ Q :=
  og_len fun h => og_lstore (k := 10) i hd hn (by rw [← h]; simp) (by show Ok sh M pc' (x0 :: x1 :: x2 :: x3 :: x4 :: x5 :: x6 :: x7 :: x8 :: eClr x9 :: some (vl z) :: none :: r) st σ Q; rw [eClr_id hp]; exact k)
theorem ok_inc10 (i : Nat) {r : List (Option eV)} {x0 x1 x2 x3 x4 x5 x6 x7 x8 x9 : Option eV} {n z : Int} (hd : nth (eTab M) i = some (pc, .iinc 10 n, pc')) (hn : pc + 3 = pc') (hp : eNl x9 = true) (hr : rg (z + n)) (k : Ok sh M pc' (x0 :: x1 :: x2 :: x3 :: x4 :: x5 :: x6 :: x7 :: x8 :: x9 :: some (vi (z + n)) :: r) st σ Q) : Ok sh M pc (x0 :: x1 :: x2 :: x3 :: x4 :: x5 :: x6 :: x7 :: x8 :: x9 :: some (vi z) :: r) st σ Q :=
  og_iinc (k := 10) i hd hn rfl hr (by show Ok sh M pc' (x0 :: x1 :: x2 :: x3 :: x4 :: x5 :: x6 :: x7 :: x8 :: eClr x9 :: some (vi (z + n)) :: r) st σ Q; rw [eClr_id hp]; exact k)
theorem ok_ist11 (i : Nat) {r : List (Option eV)} {x0 x1 x2 x3 x4 x5 x6 x7 x8 x9 x10 y : Option eV} {z : Int} (hd : nth (eTab M) i = some (pc, .istore 11, pc')) (hn : pc + 2 = pc') (hp : eNl x10 = true) (k : Ok sh M pc' (x0 :: x1 :: x2 :: x3 :: x4 :: x5 :: x6 :: x7 :: x8 :: x9 :: x10 :: some (vi z) :: r) st σ Q) : Ok sh M pc (x0 :: x1 :: x2 :: x3 :: x4 :: x5 :: x6 :: x7 :: x8 :: x9 :: x10 :: y :: r) (vi z :: st) σ Q :=
  og_len fun h => og_istore (k := 11) i hd hn (by rw [← h]; simp) (by show Ok sh M pc' (x0 :: x1 :: x2 :: x3 :: x4 :: x5 :: x6 :: x7 :: x8 :: x9 :: eClr x10 :: some (vi z) :: r) st σ Q; rw [eClr_id hp]; exact k)
theorem ok_ast11 (i : Nat) {r : List (Option eV)} {x0 x1 x2 x3 x4 x5 x6 x7 x8 x9 x10 y : Option eV} {z : Option Nat} (hd : nth (eTab M) i = some (pc, .astore 11, pc')) (hn : pc + 2 = pc') (hp : eNl x10 = true) (k : Ok sh M pc' (x0 :: x1 :: x2 :: x3 :: x4 :: x5 :: x6 :: x7 :: x8 :: x9 :: x10 :: some (.inr (.inr z)) :: r) st σ Q) : Ok sh M pc (x0 :: x1 :: x2 :: x3 :: x4 :: x5 :: x6 :: x7 :: x8 :: x9 :: x10 :: y :: r) (.inr (.inr z) :: st) σ Q :=
  og_len fun h => og_astoreO (k := 11) i hd hn (by rw [← h]; simp) (by show Ok sh M pc' (x0 :: x1 :: x2 :: x3 :: x4 :: x5 :: x6 :: x7 :: x8 :: x9 :: eClr x10 :: some (.inr (.inr z)) :: r) st σ Q; rw [eClr_id hp]; exact k)
theorem ok_lst11 (i : Nat) {r : List (Option eV)} {y2 : Option eV} {x0 x1 x2 x3 x4 x5 x6 x7 x8 x9 x10 y : Option eV} {z : Int} (hd : nth (eTab M) i = some (pc, .lstore 11, pc')) (hn : pc + 2 = pc') (hp : eNl x10 = true) (k : Ok sh M pc' (x0 :: x1 :: x2 :: x3 :: x4 :: x5 :: x6 :: x7 :: x8 :: x9 :: x10 :: some (vl z) :: none :: r) st σ Q) : Ok sh M pc (x0 :: x1 :: x2 :: x3 :: x4 :: x5 :: x6 :: x7 :: x8 :: x9 :: x10 :: y :: y2 :: r) (vl z :: st) σ Q :=
  og_len fun h => og_lstore (k := 11) i hd hn (by rw [← h]; simp) (by show Ok sh M pc' (x0 :: x1 :: x2 :: x3 :: x4 :: x5 :: x6 :: x7 :: x8 :: x9 :: eClr x10 :: some (vl z) :: none :: r) st σ Q; rw [eClr_id hp]; exact k)
theorem ok_inc11 (i : Nat) {r : List (Option eV)} {x0 x1 x2 x3 x4 x5 x6 x7 x8 x9 x10 : Option eV} {n z : Int} (hd : nth (eTab M) i = some (pc, .iinc 11 n, pc')) (hn : pc + 3 = pc') (hp : eNl x10 = true) (hr : rg (z + n)) (k : Ok sh M pc' (x0 :: x1 :: x2 :: x3 :: x4 :: x5 :: x6 :: x7 :: x8 :: x9 :: x10 :: some (vi (z + n)) :: r) st σ Q) : Ok sh M pc (x0 :: x1 :: x2 :: x3 :: x4 :: x5 :: x6 :: x7 :: x8 :: x9 :: x10 :: some (vi z) :: r) st σ Q :=
  og_iinc (k := 11) i hd hn rfl hr (by show Ok sh M pc' (x0 :: x1 :: x2 :: x3 :: x4 :: x5 :: x6 :: x7 :: x8 :: x9 :: eClr x10 :: some (vi (z + n)) :: r) st σ Q; rw [eClr_id hp]; exact k)
theorem ok_ist12 (i : Nat) {r : List (Option eV)} {x0 x1 x2 x3 x4 x5 x6 x7 x8 x9 x10 x11 y : Option eV} {z : Int} (hd : nth (eTab M) i = some (pc, .istore 12, pc')) (hn : pc + 2 = pc') (hp : eNl x11 = true) (k : Ok sh M pc' (x0 :: x1 :: x2 :: x3 :: x4 :: x5 :: x6 :: x7 :: x8 :: x9 :: x10 :: x11 :: some (vi z) :: r) st σ Q) : Ok sh M pc (x0 :: x1 :: x2 :: x3 :: x4 :: x5 :: x6 :: x7 :: x8 :: x9 :: x10 :: x11 :: y :: r) (vi z :: st) σ Q :=
  og_len fun h => og_istore (k := 12) i hd hn (by rw [← h]; simp) (by show Ok sh M pc' (x0 :: x1 :: x2 :: x3 :: x4 :: x5 :: x6 :: x7 :: x8 :: x9 :: x10 :: eClr x11 :: some (vi z) :: r) st σ Q; rw [eClr_id hp]; exact k)
theorem ok_ast12 (i : Nat) {r : List (Option eV)} {x0 x1 x2 x3 x4 x5 x6 x7 x8 x9 x10 x11 y : Option eV} {z : Option Nat} (hd : nth (eTab M) i = some (pc, .astore 12, pc')) (hn : pc + 2 = pc') (hp : eNl x11 = true) (k : Ok sh M pc' (x0 :: x1 :: x2 :: x3 :: x4 :: x5 :: x6 :: x7 :: x8 :: x9 :: x10 :: x11 :: some (.inr (.inr z)) :: r) st σ Q) : Ok sh M pc (x0 :: x1 :: x2 :: x3 :: x4 :: x5 :: x6 :: x7 :: x8 :: x9 :: x10 :: x11 :: y :: r) (.inr (.inr z) :: st) σ Q :=
  og_len fun h => og_astoreO (k := 12) i hd hn (by rw [← h]; simp) (by show Ok sh M pc' (x0 :: x1 :: x2 :: x3 :: x4 :: x5 :: x6 :: x7 :: x8 :: x9 :: x10 :: eClr x11 :: some (.inr (.inr z)) :: r) st σ Q; rw [eClr_id hp]; exact k)
theorem ok_lst12 (i : Nat) {r : List (Option eV)} {y2 : Option eV} {x0 x1 x2 x3 x4 x5 x6 x7 x8 x9 x10 x11 y : Option eV} {z : Int} (hd : nth (eTab M) i = some (pc, .lstore 12, pc')) (hn : pc + 2 = pc') (hp : eNl x11 = true) (k : Ok sh M pc' (x0 :: x1 :: x2 :: x3 :: x4 :: x5 :: x6 :: x7 :: x8 :: x9 :: x10 :: x11 :: some (vl z) :: none :: r) st σ Q) : Ok sh M pc (x0 :: x1 :: x2 :: x3 :: x4 :: x5 :: x6 :: x7 :: x8 :: x9 :: x10 :: x11 :: y :: y2 :: r) (vl z :: st) σ Q :=
  og_len fun h => og_lstore (k := 12) i hd hn (by rw [← h]; simp) (by show Ok sh M pc' (x0 :: x1 :: x2 :: x3 :: x4 :: x5 :: x6 :: x7 :: x8 :: x9 :: x10 :: eClr x11 :: some (vl z) :: none :: r) st σ Q; rw [eClr_id hp]; exact k)
theorem ok_inc12 (i : Nat) {r : List (Option eV)} {x0 x1 x2 x3 x4 x5 x6 x7 x8 x9 x10 x11 : Option eV} {n z : Int} (hd : nth (eTab M) i = some (pc, .iinc 12 n, pc')) (hn : pc + 3 = pc') (hp : eNl x11 = true) (hr : rg (z + n)) (k : Ok sh M pc' (x0 :: x1 :: x2 :: x3 :: x4 :: x5 :: x6 :: x7 :: x8 :: x9 :: x10 :: x11 :: some (vi (z + n)) :: r) st σ Q) : Ok sh M pc (x0 :: x1 :: x2 :: x3 :: x4 :: x5 :: x6 :: x7 :: x8 :: x9 :: x10 :: x11 :: some (vi z) :: r) st σ Q :=
  og_iinc (k := 12) i hd hn rfl hr (by show Ok sh M pc' (x0 :: x1 :: x2 :: x3 :: x4 :: x5 :: x6 :: x7 :: x8 :: x9 :: x10 :: eClr x11 :: some (vi (z + n)) :: r) st σ Q; rw [eClr_id hp]; exact k)
theorem ok_ist13 (i : Nat) {r : List (Option eV)} {x0 x1 x2 x3 x4 x5 x6 x7 x8 x9 x10 x11 x12 y : Option eV} {z : Int} (hd : nth (eTab M) i = some (pc, .istore 13, pc')) (hn : pc + 2 = pc') (hp : eNl x12 = true) (k : Ok sh M pc' (x0 :: x1 :: x2 :: x3 :: x4 :: x5 :: x6 :: x7 :: x8 :: x9 :: x10 :: x11 :: x12 :: some (vi z) :: r) st σ Q) : Ok sh M pc (x0 :: x1 :: x2 :: x3 :: x4 :: x5 :: x6 :: x7 :: x8 :: x9 :: x10 :: x11 :: x12 :: y :: r) (vi z :: st) σ Q :=
  og_len fun h => og_istore (k := 13) i hd hn (by rw [← h]; simp) (by show Ok sh M pc' (x0 :: x1 :: x2 :: x3 :: x4 :: x5 :: x6 :: x7 :: x8 :: x9 :: x10 :: x11 :: eClr x12 :: some (vi z) :: r) st σ Q; rw [eClr_id hp]; exact k)
theorem ok_ast13 (i : Nat) {r : List (Option eV)} {x0 x1 x2 x3 x4 x5 x6 x7 x8 x9 x10 x11 x12 y : Option eV} {z : Option Nat} (hd : nth (eTab M) i = some (pc, .astore 13, pc')) (hn : pc + 2 = pc') (hp : eNl x12 = true) (k : Ok sh M pc' (x0 :: x1 :: x2 :: x3 :: x4 :: x5 :: x6 :: x7 :: x8 :: x9 :: x10 :: x11 :: x12 :: some (.inr (.inr z)) :: r) st σ Q) : Ok sh M pc (x0 :: x1 :: x2 :: x3 :: x4 :: x5 :: x6 :: x7 :: x8 :: x9 :: x10 :: x11 :: x12 :: y :: r) (.inr (.inr z) :: st) σ Q :=
  og_len fun h => og_astoreO (k := 13) i hd hn (by rw [← h]; simp) (by show Ok sh M pc' (x0 :: x1 :: x2 :: x3 :: x4 :: x5 :: x6 :: x7 :: x8 :: x9 :: x10 :: x11 :: eClr x12 :: some (.inr (.inr z)) :: r) st σ Q; rw [eClr_id hp]; exact k)
theorem ok_lst13 (i : Nat) {r : List (Option eV)} {y2 : Option eV} {x0 x1 x2 x3 x4 x5 x6 x7 x8 x9 x10 x11 x12 y : Option eV} {z : Int} (hd : nth (eTab M) i = some (pc, .lstore 13, pc')) (hn : pc + 2 = pc') (hp : eNl x12 = true) (k : Ok sh M pc' (x0 :: x1 :: x2 :: x3 :: x4 :: x5 :: x6 :: x7 :: x8 :: x9 :: x10 :: x11 :: x12 :: some (vl z) :: none :: r) st σ Q) : Ok sh M pc (x0 :: x1 :: x2 :: x3 :: x4 :: x5 :: x6 :: x7 :: x8 :: x9 :: x10 :: x11 :: x12 :: y :: y2 :: r) (vl z :: st) σ Q :=
  og_len fun h => og_lstore (k := 13) i hd hn (by rw [← h]; simp) (by show Ok sh M pc' (x0 :: x1 :: x2 :: x3 :: x4 :: x5 :: x6 :: x7 :: x8 :: x9 :: x10 :: x11 :: eClr x12 :: some (vl z) :: none :: r) st σ Q; rw [eClr_id hp]; exact k)
theorem ok_inc13 (i : Nat) {r : List (Option eV)} {x0 x1 x2 x3 x4 x5 x6 x7 x8 x9 x10 x11 x12 : Option eV} {n z : Int} (hd : nth (eTab M) i = some (pc, .iinc 13 n, pc')) (hn : pc + 3 = pc') (hp : eNl x12 = true) (hr : rg (z + n)) (k : Ok sh M pc' (x0 :: x1 :: x2 :: x3 :: x4 :: x5 :: x6 :: x7 :: x8 :: x9 :: x10 :: x11 :: x12 :: some (vi (z + n)) :: r) st σ Q) : Ok sh M pc (x0 :: x1 :: x2 :: x3 :: x4 :: x5 :: x6 :: x7 :: x8 :: x9 :: x10 :: x11 :: x12 :: some (vi z) :: r) st σ Q :=
  og_iinc (k := 13) i hd hn rfl hr (by show Ok sh M pc' (x0 :: x1 :: x2 :: x3 :: x4 :: x5 :: x6 :: x7 :: x8 :: x9 :: x10 :: x11 :: eClr x12 :: some (vi (z + n)) :: r) st σ Q; rw [eClr_id hp]; exact k)
theorem ok_ist14 (i : Nat) {r : List (Option eV)} {x0 x1 x2 x3 x4 x5 x6 x7 x8 x9 x10 x11 x12 x13 y : Option eV} {z : Int} (hd : nth (eTab M) i = some (pc, .istore 14, pc')) (hn : pc + 2 = pc') (hp : eNl x13 = true) (k : Ok sh M pc' (x0 :: x1 :: x2 :: x3 :: x4 :: x5 :: x6 :: x7 :: x8 :: x9 :: x10 :: x11 :: x12 :: x13 :: some (vi z) :: r) st σ Q) : Ok sh M pc (x0 :: x1 :: x2 :: x3 :: x4 :: x5 :: x6 :: x7 :: x8 :: x9 :: x10 :: x11 :: x12 :: x13 :: y :: r) (vi z :: st) σ Q :=
  og_len fun h => og_istore (k := 14) i hd hn (by rw [← h]; simp) (by show Ok sh M pc' (x0 :: x1 :: x2 :: x3 :: x4 :: x5 :: x6 :: x7 :: x8 :: x9 :: x10 :: x11 :: x12 :: eClr x13 :: some (vi z) :: r) st σ Q; rw [eClr_id hp]; exact k)
theorem ok_ast14 (i : Nat) {r : List (Option eV)} {x0 x1 x2 x3 x4 x5 x6 x7 x8 x9 x10 x11 x12 x13 y : Option eV} {z : Option Nat} (hd : nth (eTab M) i = some (pc, .astore 14, pc')) (hn : pc + 2 = pc') (hp : eNl x13 = true) (k : Ok sh M pc' (x0 :: x1 :: x2 :: x3 :: x4 :: x5 :: x6 :: x7 :: x8 :: x9 :: x10 :: x11 :: x12 :: x13 :: some (.inr (.inr z)) :: r) st σ Q) : Ok sh M pc (x0 :: x1 :: x2 :: x3 :: x4 :: x5 :: x6 :: x7 :: x8 :: x9 :: x10 :: x11 :: x12 :: x13 :: y :: r) (.inr (.inr z) :: st) σ Q :=
  og_len fun h => og_astoreO (k := 14) i hd hn (by rw [← h]; simp) (by show Ok sh M pc' (x0 :: x1 :: x2 :: x3 :: x4 :: x5 :: x6 :: x7 :: x8 :: x9 :: x10 :: x11 :: x12 :: eClr x13 :: some (.inr (.inr z)) :: r) st σ Q; rw [eClr_id hp]; exact k)
theorem ok_lst14 (i : Nat) {r : List (Option eV)} {y2 : Option eV} {x0 x1 x2 x3 x4 x5 x6 x7 x8 x9 x10 x11 x12 x13 y : Option eV} {z : Int} (hd : nth (eTab M) i = some (pc, .lstore 14, pc')) (hn : pc + 2 = pc') (hp : eNl x13 = true) (k : Ok sh M pc' (x0 :: x1 :: x2 :: x3 :: x4 :: x5 :: x6 :: x7 :: x8 :: x9 :: x10 :: x11 :: x12 :: x13 :: some (vl z) :: none :: r) st σ Q) : Ok sh M pc (x0 :: x1 :: x2 :: x3 :: x4 :: x5 :: x6 :: x7 :: x8 :: x9 :: x10 :: x11 :: x12 :: x13 :: y :: y2 :: r) (vl z :: st) σ Q :=
  og_len fun h => og_lstore (k := 14) i hd hn (by rw [← h]; simp) (by show Ok sh M pc' (x0 :: x1 :: x2 :: x3 :: x4 :: x5 :: x6 :: x7 :: x8 :: x9 :: x10 :: x11 :: x12 :: eClr x13 :: some (vl z) :: none :: r) st σ Q; rw [eClr_id hp]; exact k)
theorem ok_inc14 (i : Nat) {r : List (Option eV)} {x0 x1 x2 x3 x4 x5 x6 x7 x8 x9 x10 x11 x12 x13 : Option eV} {n z : Int} (hd : nth (eTab M) i = some (pc, .iinc 14 n, pc')) (hn : pc + 3 = pc') (hp : eNl x13 = true) (hr : rg (z + n)) (k : Ok sh M pc' (x0 :: x1 :: x2 :: x3 :: x4 :: x5 :: x6 :: x7 :: x8 :: x9 :: x10 :: x11 :: x12 :: x13 :: some (vi (z + n)) :: r) st σ Q) : Ok sh M pc (x0 :: x1 :: x2 :: x3 :: x4 :: x5 :: x6 :: x7 :: x8 :: x9 :: x10 :: x11 :: x12 :: x13 :: some (vi z) :: r) st σ Q :=
  og_iinc (k := 14) i hd hn rfl hr (by show Ok sh M pc' (x0 :: x1 :: x2 :: x3 :: x4 :: x5 :: x6 :: x7 :: x8 :: x9 :: x10 :: x11 :: x12 :: eClr x13 :: some (vi (z + n)) :: r) st σ Q; rw [eClr_id hp]; exact k)
theorem ok_ist15 (i : Nat) {r : List (Option eV)} {x0 x1 x2 x3 x4 x5 x6 x7 x8 x9 x10 x11 x12 x13 x14 y : Option eV} {z : Int} (hd : nth (eTab M) i = some (pc, .istore 15, pc')) (hn : pc + 2 = pc') (hp : eNl x14 = true) (k : Ok sh M pc' (x0 :: x1 :: x2 :: x3 :: x4 :: x5 :: x6 :: x7 :: x8 :: x9 :: x10 :: x11 :: x12 :: x13 :: x14 :: some (vi z) :: r) st σ Q) : Ok sh M pc (x0 :: x1 :: x2 :: x3 :: x4 :: x5 :: x6 :: x7 :: x8 :: x9 :: x10 :: x11 :: x12 :: x13 :: x14 :: y :: r) (vi z :: st) σ Q :=
  og_len fun h => og_istore (k := 15) i hd hn (by rw [← h]; simp) (by show Ok sh M pc' (x0 :: x1 :: x2 :: x3 :: x4 :: x5 :: x6 :: x7 :: x8 :: x9 :: x10 :: x11 :: x12 :: x13 :: eClr x14 :: some (vi z) :: r) st σ Q; rw [eClr_id hp]; exact k)
theorem ok_ast15 (i : Nat) {r : List (Option eV)} {x0 x1 x2 x3 x4 x5 x6 x7 x8 x9 x10 x11 x12 x13 x14 y : Option eV} {z : Option Nat} (hd : nth (eTab M) i = some (pc, .astore 15, pc')) (hn : pc + 2 = pc') (hp : eNl x14 = true) (k : Ok sh M pc' (x0 :: x1 :: x2 :: x3 :: x4 :: x5 :: x6 :: x7 :: x8 :: x9 :: x10 :: x11 :: x12 :: x13 :: x14 :: some (.inr (.inr z)) :: r) st σ Q) : Ok sh M pc (x0 :: x1 :: x2 :: x3 :: x4 :: x5 :: x6 :: x7 :: x8 :: x9 :: x10 :: x11 :: x12 :: x13 :: x14 :: y :: r) (.inr (.inr z) :: st) σ Q :=
  og_len fun h => og_astoreO (k := 15) i hd hn (by rw [← h]; simp) (by show Ok sh M pc' (x0 :: x1 :: x2 :: x3 :: x4 :: x5 :: x6 :: x7 :: x8 :: x9 :: x10 :: x11 :: x12 :: x13 :: eClr x14 :: some (.inr (.inr z)) :: r) st σ Q; rw [eClr_id hp]; exact k)
theorem ok_lst15 (i : Nat) {r : List (Option eV)} {y2 : Option eV} {x0 x1 x2 x3 x4 x5 x6 x7 x8 x9 x10 x11 x12 x13 x14 y : Option eV} {z : Int} (hd : nth (eTab M) i = some (pc, .lstore 15, pc')) (hn : pc + 2 = pc') (hp : eNl x14 = true) (k : Ok sh M pc' (x0 :: x1 :: x2 :: x3 :: x4 :: x5 :: x6 :: x7 :: x8 :: x9 :: x10 :: x11 :: x12 :: x13 :: x14 :: some (vl z) :: none :: r) st σ Q) : Ok sh M pc (x0 :: x1 :: x2 :: x3 :: x4 :: x5 :: x6 :: x7 :: x8 :: x9 :: x10 :: x11 :: x12 :: x13 :: x14 :: y :: y2 :: r) (vl z :: st) σ Q :=
  og_len fun h => og_lstore (k := 15) i hd hn (by rw [← h]; simp) (by show Ok sh M pc' (x0 :: x1 :: x2 :: x3 :: x4 :: x5 :: x6 :: x7 :: x8 :: x9 :: x10 :: x11 :: x12 :: x13 :: eClr x14 :: some (vl z) :: none :: r) st σ Q; rw [eClr_id hp]; exact k)
theorem ok_inc15 (i : Nat) {r : List (Option eV)} {x0 x1 x2 x3 x4 x5 x6 x7 x8 x9 x10 x11 x12 x13 x14 : Option eV} {n z : Int} (hd : nth (eTab M) i = some (pc, .iinc 15 n, pc')) (hn : pc + 3 = pc') (hp : eNl x14 = true) (hr : rg (z + n)) (k : Ok sh M pc' (x0 :: x1 :: x2 :: x3 :: x4 :: x5 :: x6 :: x7 :: x8 :: x9 :: x10 :: x11 :: x12 :: x13 :: x14 :: some (vi (z + n)) :: r) st σ Q) : Ok sh M pc (x0 :: x1 :: x2 :: x3 :: x4 :: x5 :: x6 :: x7 :: x8 :: x9 :: x10 :: x11 :: x12 :: x13 :: x14 :: some (vi z) :: r) st σ Q :=
  og_iinc (k := 15) i hd hn rfl hr (by show Ok sh M pc' (x0 :: x1 :: x2 :: x3 :: x4 :: x5 :: x6 :: x7 :: x8 :: x9 :: x10 :: x11 :: x12 :: x13 :: eClr x14 :: some (vi (z + n)) :: r) st σ Q; rw [eClr_id hp]; exact k)
theorem ok_ist16 (i : Nat) {r : List (Option eV)} {x0 x1 x2 x3 x4 x5 x6 x7 x8 x9 x10 x11 x12 x13 x14 x15 y : Option eV} {z : Int} (hd : nth (eTab M) i = some (pc, .istore 16, pc')) (hn : pc + 2 = pc') (hp : eNl x15 = true) (k : Ok sh M pc' (x0 :: x1 :: x2 :: x3 :: x4 :: x5 :: x6 :: x7 :: x8 :: x9 :: x10 :: x11 :: x12 :: x13 :: x14 :: x15 :: some (vi z) :: r) st σ Q) : Ok sh M pc (x0 :: x1 :: x2 :: x3 :: x4 :: x5 :: x6 :: x7 :: x8 :: x9 :: x10 :: x11 :: x12 :: x13 :: x14 :: x15 :: y :: r) (vi z :: st) σ Q :=
  og_len fun h => og_istore (k := 16) i hd hn (by rw [← h]; simp) (by show Ok sh M pc' (x0 :: x1 :: x2 :: x3 :: x4 :: x5 :: x6 :: x7 :: x8 :: x9 :: x10 :: x11 :: x12 :: x13 :: x14 :: eClr x15 :: some (vi z) :: r) st σ Q; rw [eClr_id hp]; exact k)
theorem ok_ast16 (i : Nat) {r : List (Option eV)} {x0 x1 x2 x3 x4 x5 x6 x7 x8 x9 x10 x11 x12 x13 x14 x15 y : Option eV} {z : Option Nat} (hd : nth (eTab M) i = some (pc, .astore 16, pc')) (hn : pc + 2 = pc') (hp : eNl x15 = true) (k : Ok sh M pc' (x0 :: x1 :: x2 :: x3 :: x4 :: x5 :: x6 :: x7 :: x8 :: x9 :: x10 :: x11 :: x12 :: x13 :: x14 :: x15 :: some (.inr (.inr z)) :: r) st σ Q) : Ok sh M pc (x0 :: x1 :: x2 :: x3 :: x4 :: x5 :: x6 :: x7 :: x8 :: x9 :: x10 :: x11 :: x12 :: x13 :: x14 :: x15 :: y :: r) (.inr (.inr z) :: st) σ Q :=
  og_len fun h => og_astoreO (k := 16) i hd hn (by rw [← h]; simp) (by show Ok sh M pc' (x0 :: x1 :: x2 :: x3 :: x4 :: x5 :: x6 :: x7 :: x8 :: x9 :: x10 :: x11 :: x12 :: x13 :: x14 :: eClr x15 :: some (.inr (.inr z)) :: r) st σ Q; rw [eClr_id hp]; exact k)
theorem ok_lst16 (i : Nat) {r : List (Option eV)} {y2 : Option eV} {x0 x1 x2 x3 x4 x5 x6 x7 x8 x9 x10 x11 x12 x13 x14 x15 y : Option eV} {z : Int} (hd : nth (eTab M) i = some (pc, .lstore 16, pc')) (hn : pc + 2 = pc') (hp : eNl x15 = true) (k : Ok sh M pc' (x0 :: x1 :: x2 :: x3 :: x4 :: x5 :: x6 :: x7 :: x8 :: x9 :: x10 :: x11 :: x12 :: x13 :: x14 :: x15 :: some (vl z) :: none :: r) st σ Q) : Ok sh M pc (x0 :: x1 :: x2 :: x3 :: x4 :: x5 :: x6 :: x7 :: x8 :: x9 :: x10 :: x11 :: x12 :: x13 :: x14 :: x15 :: y :: y2 :: r) (vl z :: st) σ Q :=
  og_len fun h => og_lstore (k := 16) i hd hn (by rw [← h]; simp) (by show Ok sh M pc' (x0 :: x1 :: x2 :: x3 :: x4 :: x5 :: x6 :: x7 :: x8 :: x9 :: x10 :: x11 :: x12 :: x13 :: x14 :: eClr x15 :: some (vl z) :: none :: r) st σ Q; rw [eClr_id hp]; exact k)
theorem ok_inc16 (i : Nat) {r : List (Option eV)} {x0 x1 x2 x3 x4 x5 x6 x7 x8 x9 x10 x11 x12 x13 x14 x15 : Option eV} {n z : Int} (hd : nth (eTab M) i = some (pc, .iinc 16 n, pc')) (hn : pc + 3 = pc') (hp : eNl x15 = true) (hr : rg (z + n)) (k : Ok sh M pc' (x0 :: x1 :: x2 :: x3 :: x4 :: x5 :: x6 :: x7 :: x8 :: x9 :: x10 :: x11 :: x12 :: x13 :: x14 :: x15 :: some (vi (z + n)) :: r) st σ Q) : Ok sh M pc (x0 :: x1 :: x2 :: x3 :: x4 :: x5 :: x6 :: x7 :: x8 :: x9 :: x10 :: x11 :: x12 :: x13 :: x14 :: x15 :: some (vi z) :: r) st σ Q :=
  og_iinc (k := 16) i hd hn rfl hr (by show Ok sh M pc' (x0 :: x1 :: x2 :: x3 :: x4 :: x5 :: x6 :: x7 :: x8 :: x9 :: x10 :: x11 :: x12 :: x13 :: x14 :: eClr x15 :: some (vi (z + n)) :: r) st σ Q; rw [eClr_id hp]; exact k)
theorem ok_ist17 (i : Nat) {r : List (Option eV)} {x0 x1 x2 x3 x4 x5 x6 x7 x8 x9 x10 x11 x12 x13 x14 x15 x16 y : Option eV} {z : Int} (hd : nth (eTab M) i = some (pc, .istore 17, pc')) (hn : pc + 2 = pc') (hp : eNl x16 = true) (k : Ok sh M pc' (x0 :: x1 :: x2 :: x3 :: x4 :: x5 :: x6 :: x7 :: x8 :: x9 :: x10 :: x11 :: x12 :: x13 :: x14 :: x15 :: x16 :: some (vi z) :: r) st σ Q) : Ok sh M pc (x0 :: x1 :: x2 :: x3 :: x4 :: x5 :: x6 :: x7 :: x8 :: x9 :: x10 :: x11 :: x12 :: x13 :: x14 :: x15 :: x16 :: y :: r) (vi z :: st) σ Q :=
  og_len fun h => og_istore (k := 17) i hd hn (by rw [← h]; simp) (by show Ok sh M pc' (x0 :: x1 :: x2 :: x3 :: x4 :: x5 :: x6 :: x7 :: x8 :: x9 :: x10 :: x11 :: x12 :: x13 :: x14 :: x15 :: eClr x16 :: some (vi z) :: r) st σ Q; rw [eClr_id hp]; exact k)
theorem ok_ast17 (i : Nat) {r : List (Option eV)} {x0 x1 x2 x3 x4 x5 x6 x7 x8 x9 x10 x11 x12 x13 x14 x15 x16 y : Option eV} {z : Option Nat} (hd : nth (eTab M) i = some (pc, .astore 17, pc')) (hn : pc + 2 = pc') (hp : eNl x16 = true) (k : Ok sh M pc' (x0 :: x1 :: x2 :: x3 :: x4 :: x5 :: x6 :: x7 :: x8 :: x9 :: x10 :: x11 :: x12 :: x13 :: x14 :: x15 :: x16 :: some (.inr (.inr z)) :: r) st σ Q) : Ok sh M pc (x0 :: x1 :: x2 :: x3 :: x4 :: x5 :: x6 :: x7 :: x8 :: x9 :: x10 :: x11 :: x12 :: x13 :: x14 :: x15 :: x16 :: y :: r) (.inr (.inr z) :: st) σ Q :=
  og_len fun h => og_astoreO (k := 17) i hd hn (by rw [← h]; simp) (by show Ok sh M pc' (x0 :: x1 :: x2 :: x3 :: x4 :: x5 :: x6 :: x7 :: x8 :: x9 :: x10 :: x11 :: x12 :: x13 :: x14 :: x15 :: eClr x16 :: some (.inr (.inr z)) :: r) st σ Q; rw [eClr_id hp]; exact k)
theorem ok_lst17 (i : Nat) {r : List (Option eV)} {y2 : Option eV} {x0 x1 x2 x3 x4 x5 x6 x7 x8 x9 x10 x11 x12 x13 x14 x15 x16 y : Option eV} {z : Int} (hd : nth (eTab M) i = some (pc, .lstore 17, pc')) (hn : pc + 2 = pc') (hp : eNl x16 = true) (k : Ok sh M pc' (x0 :: x1 :: x2 :: x3 :: x4 :: x5 :: x6 :: x7 :: x8 :: x9 :: x10 :: x11 :: x12 :: x13 :: x14 :: x15 :: x16 :: some (vl z) :: none :: r) st σ Q) : Ok sh M pc (x0 :: x1 :: x2 :: x3 :: x4 :: x5 :: x6 :: x7 :: x8 :: x9 :: x10 :: x11 :: x12 :: x13 :: x14 :: x15 :: x16 :: y :: y2 :: r) (vl z :: st) σ Q :=
  og_len fun h => og_lstore (k := 17) i hd hn (by rw [← h]; simp) (by show Ok sh M pc' (x0 :: x1 :: x2 :: x3 :: x4 :: x5 :: x6 :: x7 :: x8 :: x9 :: x10 :: x11 :: x12 :: x13 :: x14 :: x15 :: eClr x16 :: some (vl z) :: none :: r) st σ Q; rw [eClr_id hp]; exact k)
theorem ok_inc17 (i : Nat) {r : List (Option eV)} {x0 x1 x2 x3 x4 x5 x6 x7 x8 x9 x10 x11 x12 x13 x14 x15 x16 : Option eV} {n z : Int} (hd : nth (eTab M) i = some (pc, .iinc 17 n, pc')) (hn : pc + 3 = pc') (hp : eNl x16 = true) (hr : rg (z + n)) (k : Ok sh M pc' (x0 :: x1 :: x2 :: x3 :: x4 :: x5 :: x6 :: x7 :: x8 :: x9 :: x10 :: x11 :: x12 :: x13 :: x14 :: x15 :: x16 :: some (vi (z + n)) :: r) st σ Q) : Ok sh M pc (x0 :: x1 :: x2 :: x3 :: x4 :: x5 :: x6 :: x7 :: x8 :: x9 :: x10 :: x11 :: x12 :: x13 :: x14 :: x15 :: x16 :: some (vi z) :: r) st σ Q :=
  og_iinc (k := 17) i hd hn rfl hr (by show Ok sh M pc' (x0 :: x1 :: x2 :: x3 :: x4 :: x5 :: x6 :: x7 :: x8 :: x9 :: x10 :: x11 :: x12 :: x13 :: x14 :: x15 :: eClr x16 :: some (vi (z + n)) :: r) st σ Q; rw [eClr_id hp]; exact k)
theorem ok_lcmp_eq (i i2 : Nat) {off : Int} {p1 : Nat} {a b : Int} (tgt : Nat) (hd1 : nth (eTab M) i = some (pc, .lcmp, p1)) (hd : nth (eTab M) i2 = some (p1, .ifCond .eq off, pc')) (hn1 : pc + 1 = p1) (hn : p1 + 3 = pc') (ht : (p1 : Int) + off = (tgt : Int)) (kt : a = b → Ok sh M tgt ls st σ Q) (kf : ¬ a = b → Ok sh M pc' ls st σ Q) : Ok sh M pc ls (vl b :: vl a :: st) σ Q := by
  intro l p e s m args below meth c D dA ad H locs la C hH hL hS
  obtain ⟨hb, ha, hs⟩ := hS
  refine W.lcmp C.2.1 C.2.2.1 (C.1.dec hd1 hn1) ?_
  rw [hn1]
  have e1 := lg_cmp_eq (Int64.ofInt a) (Int64.ofInt b)
  have e2 := lg_cmp_lt (Int64.ofInt a) (Int64.ofInt b)
  have e3 := lg_cmp_le (Int64.ofInt a) (Int64.ofInt b)
  have e4 := lg_cmp_gt (Int64.ofInt a) (Int64.ofInt b)
  have e5 := lg_cmp_ge (Int64.ofInt a) (Int64.ofInt b)
  have g1 := rl_eq ha hb
  have g2 := rl_lt ha hb
  have g3 := rl_lt hb ha
  have g4 : Int64.ofInt a ≤ Int64.ofInt b ↔ a ≤ b := by rw [Int64.le_iff_toInt_le, rl_in ha, rl_in hb]
  have g5 : Int64.ofInt b ≤ Int64.ofInt a ↔ b ≤ a := by rw [Int64.le_iff_toInt_le, rl_in ha, rl_in hb]
  refine lv_if_eq C.2.1 C.2.2.1 (C.1.dec hd hn) ht (fun h => Ok.go (kt ?_) C hH hL hs rfl rfl) (fun h => Ok.go (kf ?_) C hH hL hs hn rfl)
  · simp only [e1, e2, e3, e4, e5, g1, g2, g3, g4, g5] at h
    omega
  · simp only [e1, e2, e3, e4, e5, g1, g2, g3, g4, g5] at h
    omega
theorem ok_lcmp_ne (i i2 : Nat) {off : Int} {p1 : Nat} {a b : Int} (tgt : Nat) (hd1 : nth (eTab M) i = some (pc, .lcmp, p1)) (hd : nth (eTab M) i2 = some (p1, .ifCond .ne off, pc')) (hn1 : pc + 1 = p1) (hn : p1 + 3 = pc') (ht : (p1 : Int) + off = (tgt : Int)) (kt : ¬ a = b → Ok sh M tgt ls st σ Q) (kf : a = b → Ok sh M pc' ls st σ Q) : Ok sh M pc ls (vl b :: vl a :: st) σ Q := by
  intro l p e s m args below meth c D dA ad H locs la C hH hL hS
  obtain ⟨hb, ha, hs⟩ := hS
  refine W.lcmp C.2.1 C.2.2.1 (C.1.dec hd1 hn1) ?_
  rw [hn1]
  have e1 := lg_cmp_eq (Int64.ofInt a) (Int64.ofInt b)
  have e2 := lg_cmp_lt (Int64.ofInt a) (Int64.ofInt b)
  have e3 := lg_cmp_le (Int64.ofInt a) (Int64.ofInt b)
  have e4 := lg_cmp_gt (Int64.ofInt a) (Int64.ofInt b)
  have e5 := lg_cmp_ge (Int64.ofInt a) (Int64.ofInt b)
  have g1 := rl_eq ha hb
  have g2 := rl_lt ha hb
  have g3 := rl_lt hb ha
  have g4 : Int64.ofInt a ≤ Int64.ofInt b ↔ a ≤ b := by rw [Int64.le_iff_toInt_le, rl_in ha, rl_in hb]
  have g5 : Int64.ofInt b ≤ Int64.ofInt a ↔ b ≤ a := by rw [Int64.le_iff_toInt_le, rl_in ha, rl_in hb]
  refine lv_if_ne C.2.1 C.2.2.1 (C.1.dec hd hn) ht (fun h => Ok.go (kt ?_) C hH hL hs rfl rfl) (fun h => Ok.go (kf ?_) C hH hL hs hn rfl)
  · simp only [e1, e2, e3, e4, e5, g1, g2, g3, g4, g5] at h
    omega
  · simp only [e1, e2, e3, e4, e5, g1, g2, g3, g4, g5] at h
    omega
theorem ok_lcmp_lt (i i2 : Nat) {off : Int} {p1 : Nat} {a b : Int} (tgt : Nat) (hd1 : nth (eTab M) i = some (pc, .lcmp, p1)) (hd : nth (eTab M) i2 = some (p1, .ifCond .lt off, pc')) (hn1 : pc + 1 = p1) (hn : p1 + 3 = pc') (ht : (p1 : Int) + off = (tgt : Int)) (kt : a < b → Ok sh M tgt ls st σ Q) (kf : b ≤ a → Ok sh M pc' ls st σ Q) : Ok sh M pc ls (vl b :: vl a :: st) σ Q := by
  intro l p e s m args below meth c D dA ad H locs la C hH hL hS
  obtain ⟨hb, ha, hs⟩ := hS
  refine W.lcmp C.2.1 C.2.2.1 (C.1.dec hd1 hn1) ?_
  rw [hn1]
  have e1 := lg_cmp_eq (Int64.ofInt a) (Int64.ofInt b)
  have e2 := lg_cmp_lt (Int64.ofInt a) (Int64.ofInt b)
  have e3 := lg_cmp_le (Int64.ofInt a) (Int64.ofInt b)
  have e4 := lg_cmp_gt (Int64.ofInt a) (Int64.ofInt b)
  have e5 := lg_cmp_ge (Int64.ofInt a) (Int64.ofInt b)
  have g1 := rl_eq ha hb
  have g2 := rl_lt ha hb
  have g3 := rl_lt hb ha
  have g4 : Int64.ofInt a ≤ Int64.ofInt b ↔ a ≤ b := by rw [Int64.le_iff_toInt_le, rl_in ha, rl_in hb]
  have g5 : Int64.ofInt b ≤ Int64.ofInt a ↔ b ≤ a := by rw [Int64.le_iff_toInt_le, rl_in ha, rl_in hb]
  refine lv_if_lt C.2.1 C.2.2.1 (C.1.dec hd hn) ht (fun h => Ok.go (kt ?_) C hH hL hs rfl rfl) (fun h => Ok.go (kf ?_) C hH hL hs hn rfl)
  · simp only [e1, e2, e3, e4, e5, g1, g2, g3, g4, g5] at h
    omega
  · simp only [e1, e2, e3, e4, e5, g1, g2, g3, g4, g5] at h
    omega
theorem ok_lcmp_ge (i i2 : Nat) {off : Int} {p1 : Nat} {a b : Int} (tgt : Nat) (hd1 : nth (eTab M) i = some (pc, .lcmp, p1)) (hd : nth (eTab M) i2 = some (p1, .ifCond .ge off, pc')) (hn1 : pc + 1 = p1) (hn : p1 + 3 = pc') (ht : (p1 : Int) + off = (tgt : Int)) (kt : b ≤ a → Ok sh M tgt ls st σ Q) (kf : a < b → Ok sh M pc' ls st σ Q) : Ok sh M pc ls (vl b :: vl a :: st) σ Q := by
  intro l p e s m args below meth c D dA ad H locs la C hH hL hS
  obtain ⟨hb, ha, hs⟩ := hS
  refine W.lcmp C.2.1 C.2.2.1 (C.1.dec hd1 hn1) ?_
  rw [hn1]
  have e1 := lg_cmp_eq (Int64.ofInt a) (Int64.ofInt b)
  have e2 := lg_cmp_lt (Int64.ofInt a) (Int64.ofInt b)
  have e3 := lg_cmp_le (Int64.ofInt a) (Int64.ofInt b)
  have e4 := lg_cmp_gt (Int64.ofInt a) (Int64.ofInt b)
  have e5 := lg_cmp_ge (Int64.ofInt a) (Int64.ofInt b)
  have g1 := rl_eq ha hb
  have g2 := rl_lt ha hb
  have g3 := rl_lt hb ha
  have g4 : Int64.ofInt a ≤ Int64.ofInt b ↔ a ≤ b := by rw [Int64.le_iff_toInt_le, rl_in ha, rl_in hb]
  have g5 : Int64.ofInt b ≤ Int64.ofInt a ↔ b ≤ a := by rw [Int64.le_iff_toInt_le, rl_in ha, rl_in hb]
  refine lv_if_ge C.2.1 C.2.2.1 (C.1.dec hd hn) ht (fun h => Ok.go (kt ?_) C hH hL hs rfl rfl) (fun h => Ok.go (kf ?_) C hH hL hs hn rfl)
  · simp only [e1, e2, e3, e4, e5, g1, g2, g3, g4, g5] at h
    omega
  · simp only [e1, e2, e3, e4, e5, g1, g2, g3, g4, g5] at h
    omega
theorem ok_lcmp_gt (i i2 : Nat) {off : Int} {p1 : Nat} {a b : Int} (tgt : Nat) (hd1 : nth (eTab M) i = some (pc, .lcmp, p1)) (hd : nth (eTab M) i2 = some (p1, .ifCond .gt off, pc')) (hn1 : pc + 1 = p1) (hn : p1 + 3 = pc') (ht : (p1 : Int) + off = (tgt : Int)) (kt : b < a → Ok sh M tgt ls st σ Q) (kf : a ≤ b → Ok sh M pc' ls st σ Q) : Ok sh M pc ls (vl b :: vl a :: st) σ Q := by
  intro l p e s m args below meth c D dA ad H locs la C hH hL hS
  obtain ⟨hb, ha, hs⟩ := hS
  refine W.lcmp C.2.1 C.2.2.1 (C.1.dec hd1 hn1) ?_
  rw [hn1]
  have e1 := lg_cmp_eq (Int64.ofInt a) (Int64.ofInt b)
  have e2 := lg_cmp_lt (Int64.ofInt a) (Int64.ofInt b)
  have e3 := lg_cmp_le (Int64.ofInt a) (Int64.ofInt b)
  have e4 := lg_cmp_gt (Int64.ofInt a) (Int64.ofInt b)
  have e5 := lg_cmp_ge (Int64.ofInt a) (Int64.ofInt b)
  have g1 := rl_eq ha hb
  have g2 := rl_lt ha hb
  have g3 := rl_lt hb ha
  have g4 : Int64.ofInt a ≤ Int64.ofInt b ↔ a ≤ b := by rw [Int64.le_iff_toInt_le, rl_in ha, rl_in hb]
  have g5 : Int64.ofInt b ≤ Int64.ofInt a ↔ b ≤ a := by rw [Int64.le_iff_toInt_le, rl_in ha, rl_in hb]
  refine lv_if_gt C.2.1 C.2.2.1 (C.1.dec hd hn) ht (fun h => Ok.go (kt ?_) C hH hL hs rfl rfl) (fun h => Ok.go (kf ?_) C hH hL hs hn rfl)
  · simp only [e1, e2, e3, e4, e5, g1, g2, g3, g4, g5] at h
    omega
  · simp only [e1, e2, e3, e4, e5, g1, g2, g3, g4, g5] at h
    omega
theorem ok_lcmp_le (i i2 : Nat) {off : Int} {p1 : Nat} {a b : Int} (tgt : Nat) (hd1 : nth (eTab M) i = some (pc, .lcmp, p1)) (hd : nth (eTab M) i2 = some (p1, .ifCond .le off, pc')) (hn1 : pc + 1 = p1) (hn : p1 + 3 = pc') (ht : (p1 : Int) + off = (tgt : Int)) (kt : a ≤ b → Ok sh M tgt ls st σ Q) (kf : b < a → Ok sh M pc' ls st σ Q) : Ok sh M pc ls (vl b :: vl a :: st) σ Q := by
  intro l p e s m args below meth c D dA ad H locs la C hH hL hS
  obtain ⟨hb, ha, hs⟩ := hS
  refine W.lcmp C.2.1 C.2.2.1 (C.1.dec hd1 hn1) ?_
  rw [hn1]
  have e1 := lg_cmp_eq (Int64.ofInt a) (Int64.ofInt b)
  have e2 := lg_cmp_lt (Int64.ofInt a) (Int64.ofInt b)
  have e3 := lg_cmp_le (Int64.ofInt a) (Int64.ofInt b)
  have e4 := lg_cmp_gt (Int64.ofInt a) (Int64.ofInt b)
  have e5 := lg_cmp_ge (Int64.ofInt a) (Int64.ofInt b)
  have g1 := rl_eq ha hb
  have g2 := rl_lt ha hb
  have g3 := rl_lt hb ha
  have g4 : Int64.ofInt a ≤ Int64.ofInt b ↔ a ≤ b := by rw [Int64.le_iff_toInt_le, rl_in ha, rl_in hb]
  have g5 : Int64.ofInt b ≤ Int64.ofInt a ↔ b ≤ a := by rw [Int64.le_iff_toInt_le, rl_in ha, rl_in hb]
  refine lv_if_le C.2.1 C.2.2.1 (C.1.dec hd hn) ht (fun h => Ok.go (kt ?_) C hH hL hs rfl rfl) (fun h => Ok.go (kf ?_) C hH hL hs hn rfl)
  · simp only [e1, e2, e3, e4, e5, g1, g2, g3, g4, g5] at h
    omega
  · simp only [e1, e2, e3, e4, e5, g1, g2, g3, g4, g5] at h
    omega
theorem ok_ifnull (i : Nat) {c0 : Nat} {off : Int} (hd : nth (eTab M) i = some (pc, .ifnull off, pc')) (hn : pc + 3 = pc') (k : Ok sh M pc' ls st σ Q) : Ok sh M pc ls (vr c0 :: st) σ Q := by
  intro l p e s m args below meth c D dA ad H locs la C hH hL hS
  exact lv_ifnull C.2.1 C.2.2.1 (C.1.dec hd hn) (Ok.go k C hH hL hS.2 hn rfl)
theorem ok_ifnullN (i : Nat) {off : Int} (tgt : Nat) (hd : nth (eTab M) i = some (pc, .ifnull off, pc')) (hn : pc + 3 = pc') (ht : (pc : Int) + off = (tgt : Int)) (k : Ok sh M tgt ls st σ Q) : Ok sh M pc ls (vn :: st) σ Q := by
  intro l p e s m args below meth c D dA ad H locs la C hH hL hS
  exact lv_ifnullN C.2.1 C.2.2.1 (C.1.dec hd hn) ht (Ok.go k C hH hL hS.2 rfl rfl)
theorem ok_ifnonnull (i : Nat) {c0 : Nat} {off : Int} (tgt : Nat) (hd : nth (eTab M) i = some (pc, .ifnonnull off, pc')) (hn : pc + 3 = pc') (ht : (pc : Int) + off = (tgt : Int)) (k : Ok sh M tgt ls st σ Q) : Ok sh M pc ls (vr c0 :: st) σ Q := by
  intro l p e s m args below meth c D dA ad H locs la C hH hL hS
  exact lv_ifnonnull C.2.1 C.2.2.1 (C.1.dec hd hn) ht (Ok.go k C hH hL hS.2 rfl rfl)
theorem ok_ifnonnullN (i : Nat) {off : Int} (hd : nth (eTab M) i = some (pc, .ifnonnull off, pc')) (hn : pc + 3 = pc') (k : Ok sh M pc' ls st σ Q) : Ok sh M pc ls (vn :: st) σ Q := by
  intro l p e s m args below meth c D dA ad H locs la C hH hL hS
  exact lv_ifnonnullN C.2.1 C.2.2.1 (C.1.dec hd hn) (Ok.go k C hH hL hS.2 hn rfl)
theorem ok_tin (i : Nat) {dflt lo hi off z : Int} {offs : Array Int} {len : Nat} (tgt : Nat) (hd : nth (eTab M) i = some (pc, .tableswitch dflt lo hi offs, pc')) (hn : pc + len = pc') (h1 : lo ≤ z) (h2 : z ≤ hi) (ho : offs[(z - lo).toNat]? = some off) (ht : (pc : Int) + off = (tgt : Int)) (k : Ok sh M tgt ls st σ Q) : Ok sh M pc ls (vi z :: st) σ Q := by
  intro l p e s m args below meth c D dA ad H locs la C hH hL hS
  have e := rg_in (z := z) hS.1
  exact lv_tableIn C.2.1 C.2.2.1 (C.1.dec hd hn) (by rw [e]; omega) (by rw [e]; omega) (by rw [e]; exact ho) ht (Ok.go k C hH hL hS.2 rfl rfl)
theorem ok_tout (i : Nat) {dflt lo hi z : Int} {offs : Array Int} {len : Nat} (tgt : Nat) (hd : nth (eTab M) i = some (pc, .tableswitch dflt lo hi offs, pc')) (hn : pc + len = pc') (h1 : z < lo ∨ hi < z) (ht : (pc : Int) + dflt = (tgt : Int)) (k : Ok sh M tgt ls st σ Q) : Ok sh M pc ls (vi z :: st) σ Q := by
  intro l p e s m args below meth c D dA ad H locs la C hH hL hS
  have e := rg_in (z := z) hS.1
  exact lv_tableOut C.2.1 C.2.2.1 (C.1.dec hd hn) (by rw [e]; exact h1) ht (Ok.go k C hH hL hS.2 rfl rfl)
/-! ends -/
theorem eQ_of {s t : State} {args : Array Value} {D : va_G} {dA : Nat → ClassId} {ad : Nat → Nat} {H : Heap} {locs : List Loc} {v : Option eV} (hH : eHp sh s D dA ad σ H locs) (hq : Q σ v) (hk : ∀ x, v = some x → eK x) (ht : t.heap = H) : eQ sh D dA ad Q args s (.returned (v.map (eR ad))) t :=
  ⟨⟨v, σ, rfl, hq, hk, hH.2.2, by rw [ht]; exact hH.1⟩, hH.2.1.F ht⟩
theorem ok_iret (i : Nat) {z : Int} (hd : nth (eTab M) i = some (pc, .ireturn, pc')) (hn : pc + 1 = pc') (hr : eRet M = some .int) (hq : Q σ (some (vi z))) : Ok sh M pc ls [vi z] σ Q := by
  intro l p e s m args below meth c D dA ad H locs la C hH hL hS
  exact W.iret C.2.1 C.2.2.1 (C.2.2.2.2.1.trans hr) (fun t ht _ => eQ_of (v := some (vi z)) hH hq (fun x hx => by cases hx; exact hS.1) ht) hH.2.1.2.2 (C.1.dec hd hn) C.2.2.2.2.2.1
theorem ok_zret (i : Nat) {z : Int} (hd : nth (eTab M) i = some (pc, .ireturn, pc')) (hn : pc + 1 = pc') (hr : eRet M = some .boolean) (hz : z = 0 ∨ z = 1) (hq : Q σ (some (vi z))) : Ok sh M pc ls [vi z] σ Q := by
  intro l p e s m args below meth c D dA ad H locs la C hH hL hS
  exact W.zret C.2.1 C.2.2.1 (C.2.2.2.2.1.trans hr) (by rcases hz with rfl | rfl <;> rfl) (fun t ht _ => eQ_of (v := some (vi z)) hH hq (fun x hx => by cases hx; exact hS.1) ht) hH.2.1.2.2 (C.1.dec hd hn) C.2.2.2.2.2.1
theorem ok_lret (i : Nat) {z : Int} (hd : nth (eTab M) i = some (pc, .lreturn, pc')) (hn : pc + 1 = pc') (hr : eRet M = some .long) (hq : Q σ (some (vl z))) : Ok sh M pc ls [vl z] σ Q := by
  intro l p e s m args below meth c D dA ad H locs la C hH hL hS
  exact W.lret C.2.1 C.2.2.1 (C.2.2.2.2.1.trans hr) (fun t ht _ => eQ_of (v := some (vl z)) hH hq (fun x hx => by cases hx; exact hS.1) ht) hH.2.1.2.2 (C.1.dec hd hn) C.2.2.2.2.2.1
theorem ok_vret (i : Nat) (hd : nth (eTab M) i = some (pc, .return_, pc')) (hn : pc + 1 = pc') (hr : eRet M = none) (hq : Q σ none) : Ok sh M pc ls [] σ Q := by
  intro l p e s m args below meth c D dA ad H locs la C hH hL hS
  exact W.vret C.2.1 C.2.2.1 (C.2.2.2.2.1.trans hr) (fun t ht _ => eQ_of (v := none) hH hq (fun x hx => by cases hx) ht) hH.2.1.2.2 (C.1.dec hd hn) C.2.2.2.2.2.1
theorem ok_aret (i : Nat) {c0 : Nat} {n : String} (hd : nth (eTab M) i = some (pc, .areturn, pc')) (hn : pc + 1 = pc') (hr : eRet M = some (.object n)) (hq : Q σ (some (vr c0))) : Ok sh M pc ls [vr c0] σ Q := by
  intro l p e s m args below meth c D dA ad H locs la C hH hL hS
  exact W.aret C.2.1 C.2.2.1 (C.2.2.2.2.1.trans hr) (Or.inl ⟨n, rfl⟩) (Or.inr ⟨_, rfl⟩) (fun t ht _ => eQ_of (v := some (vr c0)) hH hq (fun x hx => by cases hx; trivial) ht) hH.2.1.2.2 (C.1.dec hd hn) C.2.2.2.2.2.1
theorem ok_aretN (i : Nat) {n : String} (hd : nth (eTab M) i = some (pc, .areturn, pc')) (hn : pc + 1 = pc') (hr : eRet M = some (.object n)) (hq : Q σ (some vn)) : Ok sh M pc ls [vn] σ Q := by
  intro l p e s m args below meth c D dA ad H locs la C hH hL hS
  exact W.aret C.2.1 C.2.2.1 (C.2.2.2.2.1.trans hr) (Or.inl ⟨n, rfl⟩) (Or.inl rfl) (fun t ht _ => eQ_of (v := some vn) hH hq (fun x hx => by cases hx; trivial) ht) hH.2.1.2.2 (C.1.dec hd hn) C.2.2.2.2.2.1
end E2
end
section
theorem wd1 {w : Cond} (i : Nat) (h : nth tables_1_1 i = some w) (g : goodWord w = true) : w ∈ eTbl := eTbl_mk (List.mem_append_right _ (by unfold tables_1; exact List.mem_append_left _ (nth_mem h))) g
theorem wd2 {w : Cond} (i : Nat) (h : nth tables_1_2 i = some w) (g : goodWord w = true) : w ∈ eTbl := eTbl_mk (List.mem_append_right _ (by unfold tables_1; exact List.mem_append_right _ (List.mem_append_left _ (nth_mem h)))) g
theorem wd3 {w : Cond} (i : Nat) (h : nth tables_1_3 i = some w) (g : goodWord w = true) : w ∈ eTbl := eTbl_mk (List.mem_append_right _ (by unfold tables_1; exact List.mem_append_right _ (List.mem_append_right _ (List.mem_append_left _ (nth_mem h))))) g
theorem wd4 {w : Cond} (i : Nat) (h : nth tables_1_4 i = some w) (g : goodWord w = true) : w ∈ eTbl := eTbl_mk (List.mem_append_right _ (by unfold tables_1; exact List.mem_append_right _ (List.mem_append_right _ (List.mem_append_right _ (List.mem_append_left _ (nth_mem h)))))) g
theorem wd5 {w : Cond} (i : Nat) (h : nth tables_1_5 i = some w) (g : goodWord w = true) : w ∈ eTbl := eTbl_mk (List.mem_append_right _ (by unfold tables_1; exact List.mem_append_right _ (List.mem_append_right _ (List.mem_append_right _ (List.mem_append_right _ (List.mem_append_left _ (nth_mem h))))))) g
theorem wd6 {w : Cond} (i : Nat) (h : nth tables_1_6 i = some w) (g : goodWord w = true) : w ∈ eTbl := eTbl_mk (List.mem_append_right _ (by unfold tables_1; exact List.mem_append_right _ (List.mem_append_right _ (List.mem_append_right _ (List.mem_append_right _ (List.mem_append_right _ ((nth_mem h)))))))) g
theorem ws1 {y : MethodName} {n : Nat} (i : Nat) (h : nth lw_privs_1 i = some (y, n)) : Cond.selects y.cls y y ∈ eTbl := eTbl_mk (List.mem_append_left _ (List.mem_map.mpr ⟨(y, n), (by unfold lw_privs; exact List.mem_append_left _ (nth_mem h)), rfl⟩)) rfl
theorem ws2 {y : MethodName} {n : Nat} (i : Nat) (h : nth lw_privs_2 i = some (y, n)) : Cond.selects y.cls y y ∈ eTbl := eTbl_mk (List.mem_append_left _ (List.mem_map.mpr ⟨(y, n), (by unfold lw_privs; exact List.mem_append_right _ (List.mem_append_left _ (nth_mem h))), rfl⟩)) rfl
theorem ws3 {y : MethodName} {n : Nat} (i : Nat) (h : nth lw_privs_3 i = some (y, n)) : Cond.selects y.cls y y ∈ eTbl := eTbl_mk (List.mem_append_left _ (List.mem_map.mpr ⟨(y, n), (by unfold lw_privs; exact List.mem_append_right _ (List.mem_append_right _ (List.mem_append_left _ (nth_mem h)))), rfl⟩)) rfl
theorem ws4 {y : MethodName} {n : Nat} (i : Nat) (h : nth lw_privs_4 i = some (y, n)) : Cond.selects y.cls y y ∈ eTbl := eTbl_mk (List.mem_append_left _ (List.mem_map.mpr ⟨(y, n), (by unfold lw_privs; exact List.mem_append_right _ (List.mem_append_right _ (List.mem_append_right _ (List.mem_append_left _ (nth_mem h))))), rfl⟩)) rfl
theorem ws5 {y : MethodName} {n : Nat} (i : Nat) (h : nth lw_privs_5 i = some (y, n)) : Cond.selects y.cls y y ∈ eTbl := eTbl_mk (List.mem_append_left _ (List.mem_map.mpr ⟨(y, n), (by unfold lw_privs; exact List.mem_append_right _ (List.mem_append_right _ (List.mem_append_right _ (List.mem_append_right _ (List.mem_append_left _ (nth_mem h)))))), rfl⟩)) rfl
theorem ws6 {y : MethodName} {n : Nat} (i : Nat) (h : nth lw_privs_6 i = some (y, n)) : Cond.selects y.cls y y ∈ eTbl := eTbl_mk (List.mem_append_left _ (List.mem_map.mpr ⟨(y, n), (by unfold lw_privs; exact List.mem_append_right _ (List.mem_append_right _ (List.mem_append_right _ (List.mem_append_right _ (List.mem_append_right _ ((nth_mem h))))))), rfl⟩)) rfl
def eTyOf : List (Nat → FieldType) := [tyX0, tyX2, tyX3, tyX5, tyX6, tyX7, tyX8, tyX9, tyX10, tyX11, tyX12]
theorem eCl_in : ∀ {ci : Nat} {q : vw_C}, eCl[ci]? = some q → ∀ w ∈ u_ws q.1 q.2.1 q.2.2, w ∈ eTbl := by
  intro ci q hq
  match ci, hq with
  | 0, hq =>
    cases hq
    intro w hw
    obtain ⟨k, hk, rfl⟩ := List.mem_map.mp hw
    have hk : k < 4 := List.mem_range.mp hk
    match k, hk with
    | 0, _ => exact (wd1 94 rfl rfl)
    | 1, _ => exact (wd1 96 rfl rfl)
    | 2, _ => exact (wd1 98 rfl rfl)
    | 3, _ => exact (wd1 100 rfl rfl)
    | k + 4, h => exact absurd h (by omega)
  | 1, hq =>
    cases hq
    intro w hw
    obtain ⟨k, hk, rfl⟩ := List.mem_map.mp hw
    have hk : k < 1 := List.mem_range.mp hk
    match k, hk with
    | 0, _ => exact (wd1 77 rfl rfl)
    | k + 1, h => exact absurd h (by omega)
  | 2, hq =>
    cases hq
    intro w hw
    obtain ⟨k, hk, rfl⟩ := List.mem_map.mp hw
    have hk : k < 7 := List.mem_range.mp hk
    match k, hk with
    | 0, _ => exact (wd1 154 rfl rfl)
    | 1, _ => exact (wd1 156 rfl rfl)
    | 2, _ => exact (wd1 158 rfl rfl)
    | 3, _ => exact (wd1 160 rfl rfl)
    | 4, _ => exact (wd1 162 rfl rfl)
    | 5, _ => exact (wd1 164 rfl rfl)
    | 6, _ => exact (wd1 166 rfl rfl)
    | k + 7, h => exact absurd h (by omega)
  | 3, hq =>
    cases hq
    intro w hw
    obtain ⟨k, hk, rfl⟩ := List.mem_map.mp hw
    have hk : k < 6 := List.mem_range.mp hk
    match k, hk with
    | 0, _ => exact (wd1 120 rfl rfl)
    | 1, _ => exact (wd1 122 rfl rfl)
    | 2, _ => exact (wd1 124 rfl rfl)
    | 3, _ => exact (wd1 126 rfl rfl)
    | 4, _ => exact (wd1 128 rfl rfl)
    | 5, _ => exact (wd1 130 rfl rfl)
    | k + 6, h => exact absurd h (by omega)
  | 4, hq =>
    cases hq
    intro w hw
    obtain ⟨k, hk, rfl⟩ := List.mem_map.mp hw
    have hk : k < 5 := List.mem_range.mp hk
    match k, hk with
    | 0, _ => exact (wd1 205 rfl rfl)
    | 1, _ => exact (wd1 207 rfl rfl)
    | 2, _ => exact (wd1 209 rfl rfl)
    | 3, _ => exact (wd1 211 rfl rfl)
    | 4, _ => exact (wd1 213 rfl rfl)
    | k + 5, h => exact absurd h (by omega)
  | 5, hq =>
    cases hq
    intro w hw
    obtain ⟨k, hk, rfl⟩ := List.mem_map.mp hw
    have hk : k < 5 := List.mem_range.mp hk
    match k, hk with
    | 0, _ => exact (wd1 183 rfl rfl)
    | 1, _ => exact (wd1 185 rfl rfl)
    | 2, _ => exact (wd1 187 rfl rfl)
    | 3, _ => exact (wd1 189 rfl rfl)
    | 4, _ => exact (wd1 191 rfl rfl)
    | k + 5, h => exact absurd h (by omega)
  | 6, hq =>
    cases hq
    intro w hw
    obtain ⟨k, hk, rfl⟩ := List.mem_map.mp hw
    have hk : k < 2 := List.mem_range.mp hk
    match k, hk with
    | 0, _ => exact (wd1 226 rfl rfl)
    | 1, _ => exact (wd1 228 rfl rfl)
    | k + 2, h => exact absurd h (by omega)
  | 7, hq =>
    cases hq
    intro w hw
    obtain ⟨k, hk, rfl⟩ := List.mem_map.mp hw
    have hk : k < 9 := List.mem_range.mp hk
    match k, hk with
    | 0, _ => exact (wd2 31 rfl rfl)
    | 1, _ => exact (wd2 33 rfl rfl)
    | 2, _ => exact (wd2 35 rfl rfl)
    | 3, _ => exact (wd2 37 rfl rfl)
    | 4, _ => exact (wd2 39 rfl rfl)
    | 5, _ => exact (wd2 41 rfl rfl)
    | 6, _ => exact (wd2 43 rfl rfl)
    | 7, _ => exact (wd2 45 rfl rfl)
    | 8, _ => exact (wd2 47 rfl rfl)
    | k + 9, h => exact absurd h (by omega)
  | 8, hq =>
    cases hq
    intro w hw
    obtain ⟨k, hk, rfl⟩ := List.mem_map.mp hw
    have hk : k < 10 := List.mem_range.mp hk
    match k, hk with
    | 0, _ => exact (wd1 48 rfl rfl)
    | 1, _ => exact (wd1 50 rfl rfl)
    | 2, _ => exact (wd1 52 rfl rfl)
    | 3, _ => exact (wd1 54 rfl rfl)
    | 4, _ => exact (wd1 56 rfl rfl)
    | 5, _ => exact (wd1 58 rfl rfl)
    | 6, _ => exact (wd1 60 rfl rfl)
    | 7, _ => exact (wd1 62 rfl rfl)
    | 8, _ => exact (wd1 64 rfl rfl)
    | 9, _ => exact (wd1 66 rfl rfl)
    | k + 10, h => exact absurd h (by omega)
  | 9, hq =>
    cases hq
    intro w hw
    obtain ⟨k, hk, rfl⟩ := List.mem_map.mp hw
    have hk : k < 9 := List.mem_range.mp hk
    match k, hk with
    | 0, _ => exact (wd2 59 rfl rfl)
    | 1, _ => exact (wd2 61 rfl rfl)
    | 2, _ => exact (wd2 63 rfl rfl)
    | 3, _ => exact (wd2 65 rfl rfl)
    | 4, _ => exact (wd2 67 rfl rfl)
    | 5, _ => exact (wd2 69 rfl rfl)
    | 6, _ => exact (wd2 71 rfl rfl)
    | 7, _ => exact (wd2 73 rfl rfl)
    | 8, _ => exact (wd2 75 rfl rfl)
    | k + 9, h => exact absurd h (by omega)
  | 10, hq =>
    cases hq
    intro w hw
    obtain ⟨k, hk, rfl⟩ := List.mem_map.mp hw
    have hk : k < 43 := List.mem_range.mp hk
    match k, hk with
    | 0, _ => exact (wd5 34 rfl rfl)
    | 1, _ => exact (wd5 36 rfl rfl)
    | 2, _ => exact (wd5 38 rfl rfl)
    | 3, _ => exact (wd5 40 rfl rfl)
    | 4, _ => exact (wd5 42 rfl rfl)
    | 5, _ => exact (wd5 44 rfl rfl)
    | 6, _ => exact (wd5 46 rfl rfl)
    | 7, _ => exact (wd5 48 rfl rfl)
    | 8, _ => exact (wd5 50 rfl rfl)
    | 9, _ => exact (wd5 52 rfl rfl)
    | 10, _ => exact (wd5 54 rfl rfl)
    | 11, _ => exact (wd5 56 rfl rfl)
    | 12, _ => exact (wd5 58 rfl rfl)
    | 13, _ => exact (wd5 60 rfl rfl)
    | 14, _ => exact (wd5 62 rfl rfl)
    | 15, _ => exact (wd5 64 rfl rfl)
    | 16, _ => exact (wd5 66 rfl rfl)
    | 17, _ => exact (wd5 68 rfl rfl)
    | 18, _ => exact (wd5 70 rfl rfl)
    | 19, _ => exact (wd5 72 rfl rfl)
    | 20, _ => exact (wd5 74 rfl rfl)
    | 21, _ => exact (wd5 76 rfl rfl)
    | 22, _ => exact (wd5 78 rfl rfl)
    | 23, _ => exact (wd5 80 rfl rfl)
    | 24, _ => exact (wd5 82 rfl rfl)
    | 25, _ => exact (wd5 84 rfl rfl)
    | 26, _ => exact (wd5 86 rfl rfl)
    | 27, _ => exact (wd5 88 rfl rfl)
    | 28, _ => exact (wd5 90 rfl rfl)
    | 29, _ => exact (wd5 92 rfl rfl)
    | 30, _ => exact (wd5 94 rfl rfl)
    | 31, _ => exact (wd5 96 rfl rfl)
    | 32, _ => exact (wd5 98 rfl rfl)
    | 33, _ => exact (wd5 100 rfl rfl)
    | 34, _ => exact (wd5 102 rfl rfl)
    | 35, _ => exact (wd5 104 rfl rfl)
    | 36, _ => exact (wd5 106 rfl rfl)
    | 37, _ => exact (wd5 108 rfl rfl)
    | 38, _ => exact (wd5 110 rfl rfl)
    | 39, _ => exact (wd5 112 rfl rfl)
    | 40, _ => exact (wd5 114 rfl rfl)
    | 41, _ => exact (wd5 116 rfl rfl)
    | 42, _ => exact (wd5 118 rfl rfl)
    | k + 43, h => exact absurd h (by omega)
  | n + 11, hq => simp [eCl] at hq
theorem eCl_ty : ∀ ci, ci < 11 → ∀ q, eCl[ci]? = some q → ∀ k, k < q.2.2 → parseFieldDescriptor (q.2.1 k).2.2.1 = some ((eTyOf.getD ci (fun _ => .int)) k) := by
  intro ci h q hq
  match ci, h, hq with
  | 0, _, hq => cases hq; exact tyX0_ok
  | 1, _, hq => cases hq; exact tyX2_ok
  | 2, _, hq => cases hq; exact tyX3_ok
  | 3, _, hq => cases hq; exact tyX5_ok
  | 4, _, hq => cases hq; exact tyX6_ok
  | 5, _, hq => cases hq; exact tyX7_ok
  | 6, _, hq => cases hq; exact tyX8_ok
  | 7, _, hq => cases hq; exact tyX9_ok
  | 8, _, hq => cases hq; exact tyX10_ok
  | 9, _, hq => cases hq; exact tyX11_ok
  | 10, _, hq => cases hq; exact tyX12_ok
theorem eCl_nm : ∀ ci, ci < 11 → ∀ q, eCl[ci]? = some q → ∀ a, a < q.2.2 → ∀ b, b < q.2.2 → a ≠ b → (q.2.1 a).2.1 ≠ (q.2.1 b).2.1 := by
  intro ci h q hq
  match ci, h, hq with
  | 0, _, hq => cases hq; exact nmX0
  | 1, _, hq => cases hq; exact nmX2
  | 2, _, hq => cases hq; exact nmX3
  | 3, _, hq => cases hq; exact nmX5
  | 4, _, hq => cases hq; exact nmX6
  | 5, _, hq => cases hq; exact nmX7
  | 6, _, hq => cases hq; exact nmX8
  | 7, _, hq => cases hq; exact nmX9
  | 8, _, hq => cases hq; exact nmX10
  | 9, _, hq => cases hq; exact nmX11
  | 10, _, hq => cases hq; exact nmX12
def eFk (own : String) (x ci k : Nat) (kz : Int) : Prop := ∃ q : vw_C, eCl[ci]? = some q ∧ Cond.fieldLink own x (q.2.1 k).1 (q.2.1 k).2.1 (q.2.1 k).2.2.1 ∈ eTbl ∧ k < q.2.2 ∧ ci < 11 ∧ kz = (k : Int)
theorem fl_X0_9 : eFk RX0 9 0 0 0 := ⟨(RX0, TX0, 4), rfl, (wd1 87 rfl rfl), Nat.le_of_ble_eq_true rfl, Nat.le_of_ble_eq_true rfl, rfl⟩
theorem fl_X0_15 : eFk RX0 15 0 1 1 := ⟨(RX0, TX0, 4), rfl, (wd1 91 rfl rfl), Nat.le_of_ble_eq_true rfl, Nat.le_of_ble_eq_true rfl, rfl⟩
theorem fl_X0_19 : eFk RX0 19 0 2 2 := ⟨(RX0, TX0, 4), rfl, (wd1 92 rfl rfl), Nat.le_of_ble_eq_true rfl, Nat.le_of_ble_eq_true rfl, rfl⟩
theorem fl_X0_22 : eFk RX0 22 0 3 3 := ⟨(RX0, TX0, 4), rfl, (wd1 93 rfl rfl), Nat.le_of_ble_eq_true rfl, Nat.le_of_ble_eq_true rfl, rfl⟩
theorem fl_X10_11 : eFk RX10 11 8 0 0 := ⟨(RX10, TX10, 10), rfl, (wd1 35 rfl rfl), Nat.le_of_ble_eq_true rfl, Nat.le_of_ble_eq_true rfl, rfl⟩
theorem fl_X10_15 : eFk RX10 15 8 1 1 := ⟨(RX10, TX10, 10), rfl, (wd1 36 rfl rfl), Nat.le_of_ble_eq_true rfl, Nat.le_of_ble_eq_true rfl, rfl⟩
theorem fl_X10_18 : eFk RX10 18 8 2 2 := ⟨(RX10, TX10, 10), rfl, (wd1 37 rfl rfl), Nat.le_of_ble_eq_true rfl, Nat.le_of_ble_eq_true rfl, rfl⟩
theorem fl_X10_21 : eFk RX10 21 8 3 3 := ⟨(RX10, TX10, 10), rfl, (wd1 38 rfl rfl), Nat.le_of_ble_eq_true rfl, Nat.le_of_ble_eq_true rfl, rfl⟩
theorem fl_X10_25 : eFk RX10 25 8 4 4 := ⟨(RX10, TX10, 10), rfl, (wd1 40 rfl rfl), Nat.le_of_ble_eq_true rfl, Nat.le_of_ble_eq_true rfl, rfl⟩
theorem fl_X10_28 : eFk RX10 28 8 5 5 := ⟨(RX10, TX10, 10), rfl, (wd1 42 rfl rfl), Nat.le_of_ble_eq_true rfl, Nat.le_of_ble_eq_true rfl, rfl⟩
theorem fl_X10_31 : eFk RX10 31 8 6 6 := ⟨(RX10, TX10, 10), rfl, (wd1 44 rfl rfl), Nat.le_of_ble_eq_true rfl, Nat.le_of_ble_eq_true rfl, rfl⟩
theorem fl_X10_34 : eFk RX10 34 8 7 7 := ⟨(RX10, TX10, 10), rfl, (wd1 45 rfl rfl), Nat.le_of_ble_eq_true rfl, Nat.le_of_ble_eq_true rfl, rfl⟩
theorem fl_X10_37 : eFk RX10 37 8 8 8 := ⟨(RX10, TX10, 10), rfl, (wd1 46 rfl rfl), Nat.le_of_ble_eq_true rfl, Nat.le_of_ble_eq_true rfl, rfl⟩
theorem fl_X10_40 : eFk RX10 40 8 9 9 := ⟨(RX10, TX10, 10), rfl, (wd1 47 rfl rfl), Nat.le_of_ble_eq_true rfl, Nat.le_of_ble_eq_true rfl, rfl⟩
theorem fl_X10_53 : eFk RX10 53 7 1 1 := ⟨(RX9, TX9, 9), rfl, (wd2 7 rfl rfl), Nat.le_of_ble_eq_true rfl, Nat.le_of_ble_eq_true rfl, rfl⟩
theorem fl_X10_107 : eFk RX10 107 7 0 0 := ⟨(RX9, TX9, 9), rfl, (wd2 1 rfl rfl), Nat.le_of_ble_eq_true rfl, Nat.le_of_ble_eq_true rfl, rfl⟩
theorem fl_X11_11 : eFk RX11 11 9 0 0 := ⟨(RX11, TX11, 9), rfl, (wd2 50 rfl rfl), Nat.le_of_ble_eq_true rfl, Nat.le_of_ble_eq_true rfl, rfl⟩
theorem fl_X11_18 : eFk RX11 18 9 1 1 := ⟨(RX11, TX11, 9), rfl, (wd2 51 rfl rfl), Nat.le_of_ble_eq_true rfl, Nat.le_of_ble_eq_true rfl, rfl⟩
theorem fl_X11_25 : eFk RX11 25 9 2 2 := ⟨(RX11, TX11, 9), rfl, (wd2 52 rfl rfl), Nat.le_of_ble_eq_true rfl, Nat.le_of_ble_eq_true rfl, rfl⟩
theorem fl_X11_32 : eFk RX11 32 9 3 3 := ⟨(RX11, TX11, 9), rfl, (wd2 53 rfl rfl), Nat.le_of_ble_eq_true rfl, Nat.le_of_ble_eq_true rfl, rfl⟩
theorem fl_X11_41 : eFk RX11 41 9 4 4 := ⟨(RX11, TX11, 9), rfl, (wd2 54 rfl rfl), Nat.le_of_ble_eq_true rfl, Nat.le_of_ble_eq_true rfl, rfl⟩
theorem fl_X11_48 : eFk RX11 48 9 5 5 := ⟨(RX11, TX11, 9), rfl, (wd2 55 rfl rfl), Nat.le_of_ble_eq_true rfl, Nat.le_of_ble_eq_true rfl, rfl⟩
theorem fl_X11_55 : eFk RX11 55 9 6 6 := ⟨(RX11, TX11, 9), rfl, (wd2 56 rfl rfl), Nat.le_of_ble_eq_true rfl, Nat.le_of_ble_eq_true rfl, rfl⟩
theorem fl_X11_62 : eFk RX11 62 9 7 7 := ⟨(RX11, TX11, 9), rfl, (wd2 57 rfl rfl), Nat.le_of_ble_eq_true rfl, Nat.le_of_ble_eq_true rfl, rfl⟩
theorem fl_X11_69 : eFk RX11 69 9 8 8 := ⟨(RX11, TX11, 9), rfl, (wd2 58 rfl rfl), Nat.le_of_ble_eq_true rfl, Nat.le_of_ble_eq_true rfl, rfl⟩
theorem fl_X11_82 : eFk RX11 82 8 3 3 := ⟨(RX10, TX10, 10), rfl, (wd1 39 rfl rfl), Nat.le_of_ble_eq_true rfl, Nat.le_of_ble_eq_true rfl, rfl⟩
theorem fl_X11_97 : eFk RX11 97 8 4 4 := ⟨(RX10, TX10, 10), rfl, (wd1 41 rfl rfl), Nat.le_of_ble_eq_true rfl, Nat.le_of_ble_eq_true rfl, rfl⟩
theorem fl_X11_100 : eFk RX11 100 8 5 5 := ⟨(RX10, TX10, 10), rfl, (wd1 43 rfl rfl), Nat.le_of_ble_eq_true rfl, Nat.le_of_ble_eq_true rfl, rfl⟩
theorem fl_X11_103 : eFk RX11 103 7 1 1 := ⟨(RX9, TX9, 9), rfl, (wd2 8 rfl rfl), Nat.le_of_ble_eq_true rfl, Nat.le_of_ble_eq_true rfl, rfl⟩
theorem fl_X11_106 : eFk RX11 106 7 2 2 := ⟨(RX9, TX9, 9), rfl, (wd2 12 rfl rfl), Nat.le_of_ble_eq_true rfl, Nat.le_of_ble_eq_true rfl, rfl⟩
theorem fl_X11_109 : eFk RX11 109 7 3 3 := ⟨(RX9, TX9, 9), rfl, (wd2 15 rfl rfl), Nat.le_of_ble_eq_true rfl, Nat.le_of_ble_eq_true rfl, rfl⟩
theorem fl_X11_133 : eFk RX11 133 7 0 0 := ⟨(RX9, TX9, 9), rfl, (wd2 0 rfl rfl), Nat.le_of_ble_eq_true rfl, Nat.le_of_ble_eq_true rfl, rfl⟩
theorem fl_X11_191 : eFk RX11 191 2 0 0 := ⟨(RX3, TX3, 7), rfl, (wd1 141 rfl rfl), Nat.le_of_ble_eq_true rfl, Nat.le_of_ble_eq_true rfl, rfl⟩
theorem fl_X11_227 : eFk RX11 227 0 0 0 := ⟨(RX0, TX0, 4), rfl, (wd1 90 rfl rfl), Nat.le_of_ble_eq_true rfl, Nat.le_of_ble_eq_true rfl, rfl⟩
theorem fl_X11_247 : eFk RX11 247 7 6 6 := ⟨(RX9, TX9, 9), rfl, (wd2 24 rfl rfl), Nat.le_of_ble_eq_true rfl, Nat.le_of_ble_eq_true rfl, rfl⟩
theorem fl_X11_254 : eFk RX11 254 7 7 7 := ⟨(RX9, TX9, 9), rfl, (wd2 27 rfl rfl), Nat.le_of_ble_eq_true rfl, Nat.le_of_ble_eq_true rfl, rfl⟩
theorem fl_X11_257 : eFk RX11 257 7 8 8 := ⟨(RX9, TX9, 9), rfl, (wd2 30 rfl rfl), Nat.le_of_ble_eq_true rfl, Nat.le_of_ble_eq_true rfl, rfl⟩
theorem fl_X11_260 : eFk RX11 260 7 4 4 := ⟨(RX9, TX9, 9), rfl, (wd2 18 rfl rfl), Nat.le_of_ble_eq_true rfl, Nat.le_of_ble_eq_true rfl, rfl⟩
theorem fl_X11_266 : eFk RX11 266 7 5 5 := ⟨(RX9, TX9, 9), rfl, (wd2 21 rfl rfl), Nat.le_of_ble_eq_true rfl, Nat.le_of_ble_eq_true rfl, rfl⟩
theorem fl_X11_290 : eFk RX11 290 6 1 1 := ⟨(RX8, TX8, 2), rfl, (wd1 225 rfl rfl), Nat.le_of_ble_eq_true rfl, Nat.le_of_ble_eq_true rfl, rfl⟩
theorem fl_X11_291 : eFk RX11 291 6 0 0 := ⟨(RX8, TX8, 2), rfl, (wd1 223 rfl rfl), Nat.le_of_ble_eq_true rfl, Nat.le_of_ble_eq_true rfl, rfl⟩
theorem fl_X11_297 : eFk RX11 297 3 3 3 := ⟨(RX5, TX5, 6), rfl, (wd1 114 rfl rfl), Nat.le_of_ble_eq_true rfl, Nat.le_of_ble_eq_true rfl, rfl⟩
theorem fl_X11_315 : eFk RX11 315 2 2 2 := ⟨(RX3, TX3, 7), rfl, (wd1 144 rfl rfl), Nat.le_of_ble_eq_true rfl, Nat.le_of_ble_eq_true rfl, rfl⟩
theorem fl_X11_318 : eFk RX11 318 2 5 5 := ⟨(RX3, TX3, 7), rfl, (wd1 151 rfl rfl), Nat.le_of_ble_eq_true rfl, Nat.le_of_ble_eq_true rfl, rfl⟩
theorem fl_X11_321 : eFk RX11 321 2 6 6 := ⟨(RX3, TX3, 7), rfl, (wd1 153 rfl rfl), Nat.le_of_ble_eq_true rfl, Nat.le_of_ble_eq_true rfl, rfl⟩
theorem fl_X11_324 : eFk RX11 324 2 3 3 := ⟨(RX3, TX3, 7), rfl, (wd1 146 rfl rfl), Nat.le_of_ble_eq_true rfl, Nat.le_of_ble_eq_true rfl, rfl⟩
theorem fl_X11_328 : eFk RX11 328 3 5 5 := ⟨(RX5, TX5, 6), rfl, (wd1 119 rfl rfl), Nat.le_of_ble_eq_true rfl, Nat.le_of_ble_eq_true rfl, rfl⟩
theorem fl_X12_7 : eFk RX12 7 10 0 0 := ⟨(RX12, TX12, 43), rfl, (wd4 231 rfl rfl), Nat.le_of_ble_eq_true rfl, Nat.le_of_ble_eq_true rfl, rfl⟩
theorem fl_X12_13 : eFk RX12 13 10 1 1 := ⟨(RX12, TX12, 43), rfl, (wd4 232 rfl rfl), Nat.le_of_ble_eq_true rfl, Nat.le_of_ble_eq_true rfl, rfl⟩
theorem fl_X12_16 : eFk RX12 16 10 2 2 := ⟨(RX12, TX12, 43), rfl, (wd4 233 rfl rfl), Nat.le_of_ble_eq_true rfl, Nat.le_of_ble_eq_true rfl, rfl⟩
theorem fl_X12_19 : eFk RX12 19 10 3 3 := ⟨(RX12, TX12, 43), rfl, (wd4 234 rfl rfl), Nat.le_of_ble_eq_true rfl, Nat.le_of_ble_eq_true rfl, rfl⟩
theorem fl_X12_23 : eFk RX12 23 10 5 5 := ⟨(RX12, TX12, 43), rfl, (wd4 236 rfl rfl), Nat.le_of_ble_eq_true rfl, Nat.le_of_ble_eq_true rfl, rfl⟩
theorem fl_X12_26 : eFk RX12 26 10 8 8 := ⟨(RX12, TX12, 43), rfl, (wd4 239 rfl rfl), Nat.le_of_ble_eq_true rfl, Nat.le_of_ble_eq_true rfl, rfl⟩
theorem fl_X12_30 : eFk RX12 30 10 16 16 := ⟨(RX12, TX12, 43), rfl, (wd5 7 rfl rfl), Nat.le_of_ble_eq_true rfl, Nat.le_of_ble_eq_true rfl, rfl⟩
theorem fl_X12_33 : eFk RX12 33 10 17 17 := ⟨(RX12, TX12, 43), rfl, (wd5 8 rfl rfl), Nat.le_of_ble_eq_true rfl, Nat.le_of_ble_eq_true rfl, rfl⟩
theorem fl_X12_36 : eFk RX12 36 10 20 20 := ⟨(RX12, TX12, 43), rfl, (wd5 11 rfl rfl), Nat.le_of_ble_eq_true rfl, Nat.le_of_ble_eq_true rfl, rfl⟩
theorem fl_X12_39 : eFk RX12 39 10 21 21 := ⟨(RX12, TX12, 43), rfl, (wd5 12 rfl rfl), Nat.le_of_ble_eq_true rfl, Nat.le_of_ble_eq_true rfl, rfl⟩
theorem fl_X12_42 : eFk RX12 42 10 23 23 := ⟨(RX12, TX12, 43), rfl, (wd5 14 rfl rfl), Nat.le_of_ble_eq_true rfl, Nat.le_of_ble_eq_true rfl, rfl⟩
theorem fl_X12_45 : eFk RX12 45 10 24 24 := ⟨(RX12, TX12, 43), rfl, (wd5 15 rfl rfl), Nat.le_of_ble_eq_true rfl, Nat.le_of_ble_eq_true rfl, rfl⟩
theorem fl_X12_48 : eFk RX12 48 10 25 25 := ⟨(RX12, TX12, 43), rfl, (wd5 16 rfl rfl), Nat.le_of_ble_eq_true rfl, Nat.le_of_ble_eq_true rfl, rfl⟩
theorem fl_X12_51 : eFk RX12 51 10 26 26 := ⟨(RX12, TX12, 43), rfl, (wd5 17 rfl rfl), Nat.le_of_ble_eq_true rfl, Nat.le_of_ble_eq_true rfl, rfl⟩
theorem fl_X12_54 : eFk RX12 54 10 32 32 := ⟨(RX12, TX12, 43), rfl, (wd5 23 rfl rfl), Nat.le_of_ble_eq_true rfl, Nat.le_of_ble_eq_true rfl, rfl⟩
theorem fl_X12_57 : eFk RX12 57 10 33 33 := ⟨(RX12, TX12, 43), rfl, (wd5 24 rfl rfl), Nat.le_of_ble_eq_true rfl, Nat.le_of_ble_eq_true rfl, rfl⟩
theorem fl_X12_60 : eFk RX12 60 10 34 34 := ⟨(RX12, TX12, 43), rfl, (wd5 25 rfl rfl), Nat.le_of_ble_eq_true rfl, Nat.le_of_ble_eq_true rfl, rfl⟩
theorem fl_X12_63 : eFk RX12 63 10 35 35 := ⟨(RX12, TX12, 43), rfl, (wd5 26 rfl rfl), Nat.le_of_ble_eq_true rfl, Nat.le_of_ble_eq_true rfl, rfl⟩
theorem fl_X12_66 : eFk RX12 66 10 36 36 := ⟨(RX12, TX12, 43), rfl, (wd5 27 rfl rfl), Nat.le_of_ble_eq_true rfl, Nat.le_of_ble_eq_true rfl, rfl⟩
theorem fl_X12_69 : eFk RX12 69 10 37 37 := ⟨(RX12, TX12, 43), rfl, (wd5 28 rfl rfl), Nat.le_of_ble_eq_true rfl, Nat.le_of_ble_eq_true rfl, rfl⟩
theorem fl_X12_72 : eFk RX12 72 10 38 38 := ⟨(RX12, TX12, 43), rfl, (wd5 29 rfl rfl), Nat.le_of_ble_eq_true rfl, Nat.le_of_ble_eq_true rfl, rfl⟩
theorem fl_X12_75 : eFk RX12 75 10 39 39 := ⟨(RX12, TX12, 43), rfl, (wd5 30 rfl rfl), Nat.le_of_ble_eq_true rfl, Nat.le_of_ble_eq_true rfl, rfl⟩
theorem fl_X12_79 : eFk RX12 79 10 40 40 := ⟨(RX12, TX12, 43), rfl, (wd5 31 rfl rfl), Nat.le_of_ble_eq_true rfl, Nat.le_of_ble_eq_true rfl, rfl⟩
theorem fl_X12_82 : eFk RX12 82 10 41 41 := ⟨(RX12, TX12, 43), rfl, (wd5 32 rfl rfl), Nat.le_of_ble_eq_true rfl, Nat.le_of_ble_eq_true rfl, rfl⟩
theorem fl_X12_85 : eFk RX12 85 10 4 4 := ⟨(RX12, TX12, 43), rfl, (wd4 235 rfl rfl), Nat.le_of_ble_eq_true rfl, Nat.le_of_ble_eq_true rfl, rfl⟩
theorem fl_X12_125 : eFk RX12 125 10 6 6 := ⟨(RX12, TX12, 43), rfl, (wd4 237 rfl rfl), Nat.le_of_ble_eq_true rfl, Nat.le_of_ble_eq_true rfl, rfl⟩
theorem fl_X12_132 : eFk RX12 132 10 13 13 := ⟨(RX12, TX12, 43), rfl, (wd5 4 rfl rfl), Nat.le_of_ble_eq_true rfl, Nat.le_of_ble_eq_true rfl, rfl⟩
theorem fl_X12_138 : eFk RX12 138 10 12 12 := ⟨(RX12, TX12, 43), rfl, (wd5 3 rfl rfl), Nat.le_of_ble_eq_true rfl, Nat.le_of_ble_eq_true rfl, rfl⟩
theorem fl_X12_141 : eFk RX12 141 10 14 14 := ⟨(RX12, TX12, 43), rfl, (wd5 5 rfl rfl), Nat.le_of_ble_eq_true rfl, Nat.le_of_ble_eq_true rfl, rfl⟩
theorem fl_X12_144 : eFk RX12 144 10 15 15 := ⟨(RX12, TX12, 43), rfl, (wd5 6 rfl rfl), Nat.le_of_ble_eq_true rfl, Nat.le_of_ble_eq_true rfl, rfl⟩
theorem fl_X12_147 : eFk RX12 147 10 11 11 := ⟨(RX12, TX12, 43), rfl, (wd5 2 rfl rfl), Nat.le_of_ble_eq_true rfl, Nat.le_of_ble_eq_true rfl, rfl⟩
theorem fl_X12_154 : eFk RX12 154 10 9 9 := ⟨(RX12, TX12, 43), rfl, (wd5 0 rfl rfl), Nat.le_of_ble_eq_true rfl, Nat.le_of_ble_eq_true rfl, rfl⟩
theorem fl_X12_157 : eFk RX12 157 10 10 10 := ⟨(RX12, TX12, 43), rfl, (wd5 1 rfl rfl), Nat.le_of_ble_eq_true rfl, Nat.le_of_ble_eq_true rfl, rfl⟩
theorem fl_X12_167 : eFk RX12 167 10 18 18 := ⟨(RX12, TX12, 43), rfl, (wd5 9 rfl rfl), Nat.le_of_ble_eq_true rfl, Nat.le_of_ble_eq_true rfl, rfl⟩
theorem fl_X12_170 : eFk RX12 170 10 19 19 := ⟨(RX12, TX12, 43), rfl, (wd5 10 rfl rfl), Nat.le_of_ble_eq_true rfl, Nat.le_of_ble_eq_true rfl, rfl⟩
theorem fl_X12_189 : eFk RX12 189 10 7 7 := ⟨(RX12, TX12, 43), rfl, (wd4 238 rfl rfl), Nat.le_of_ble_eq_true rfl, Nat.le_of_ble_eq_true rfl, rfl⟩
theorem fl_X12_234 : eFk RX12 234 10 22 22 := ⟨(RX12, TX12, 43), rfl, (wd5 13 rfl rfl), Nat.le_of_ble_eq_true rfl, Nat.le_of_ble_eq_true rfl, rfl⟩
theorem fl_X12_273 : eFk RX12 273 10 27 27 := ⟨(RX12, TX12, 43), rfl, (wd5 18 rfl rfl), Nat.le_of_ble_eq_true rfl, Nat.le_of_ble_eq_true rfl, rfl⟩
theorem fl_X12_276 : eFk RX12 276 10 28 28 := ⟨(RX12, TX12, 43), rfl, (wd5 19 rfl rfl), Nat.le_of_ble_eq_true rfl, Nat.le_of_ble_eq_true rfl, rfl⟩
theorem fl_X12_279 : eFk RX12 279 10 29 29 := ⟨(RX12, TX12, 43), rfl, (wd5 20 rfl rfl), Nat.le_of_ble_eq_true rfl, Nat.le_of_ble_eq_true rfl, rfl⟩
theorem fl_X12_282 : eFk RX12 282 10 30 30 := ⟨(RX12, TX12, 43), rfl, (wd5 21 rfl rfl), Nat.le_of_ble_eq_true rfl, Nat.le_of_ble_eq_true rfl, rfl⟩
theorem fl_X12_357 : eFk RX12 357 10 42 42 := ⟨(RX12, TX12, 43), rfl, (wd5 33 rfl rfl), Nat.le_of_ble_eq_true rfl, Nat.le_of_ble_eq_true rfl, rfl⟩
theorem fl_X12_363 : eFk RX12 363 10 31 31 := ⟨(RX12, TX12, 43), rfl, (wd5 22 rfl rfl), Nat.le_of_ble_eq_true rfl, Nat.le_of_ble_eq_true rfl, rfl⟩
theorem fl_X2_9 : eFk RX2 9 1 0 0 := ⟨(RX2, TX2, 1), rfl, (wd1 76 rfl rfl), Nat.le_of_ble_eq_true rfl, Nat.le_of_ble_eq_true rfl, rfl⟩
theorem fl_X2_15 : eFk RX2 15 7 2 2 := ⟨(RX9, TX9, 9), rfl, (wd2 10 rfl rfl), Nat.le_of_ble_eq_true rfl, Nat.le_of_ble_eq_true rfl, rfl⟩
theorem fl_X2_31 : eFk RX2 31 7 1 1 := ⟨(RX9, TX9, 9), rfl, (wd2 5 rfl rfl), Nat.le_of_ble_eq_true rfl, Nat.le_of_ble_eq_true rfl, rfl⟩
theorem fl_X2_34 : eFk RX2 34 7 0 0 := ⟨(RX9, TX9, 9), rfl, (wd1 238 rfl rfl), Nat.le_of_ble_eq_true rfl, Nat.le_of_ble_eq_true rfl, rfl⟩
theorem fl_X3_9 : eFk RX3 9 2 0 0 := ⟨(RX3, TX3, 7), rfl, (wd1 139 rfl rfl), Nat.le_of_ble_eq_true rfl, Nat.le_of_ble_eq_true rfl, rfl⟩
theorem fl_X3_15 : eFk RX3 15 2 1 1 := ⟨(RX3, TX3, 7), rfl, (wd1 142 rfl rfl), Nat.le_of_ble_eq_true rfl, Nat.le_of_ble_eq_true rfl, rfl⟩
theorem fl_X3_18 : eFk RX3 18 2 2 2 := ⟨(RX3, TX3, 7), rfl, (wd1 143 rfl rfl), Nat.le_of_ble_eq_true rfl, Nat.le_of_ble_eq_true rfl, rfl⟩
theorem fl_X3_22 : eFk RX3 22 2 3 3 := ⟨(RX3, TX3, 7), rfl, (wd1 145 rfl rfl), Nat.le_of_ble_eq_true rfl, Nat.le_of_ble_eq_true rfl, rfl⟩
theorem fl_X3_25 : eFk RX3 25 2 4 4 := ⟨(RX3, TX3, 7), rfl, (wd1 147 rfl rfl), Nat.le_of_ble_eq_true rfl, Nat.le_of_ble_eq_true rfl, rfl⟩
theorem fl_X3_28 : eFk RX3 28 2 5 5 := ⟨(RX3, TX3, 7), rfl, (wd1 149 rfl rfl), Nat.le_of_ble_eq_true rfl, Nat.le_of_ble_eq_true rfl, rfl⟩
theorem fl_X3_31 : eFk RX3 31 2 6 6 := ⟨(RX3, TX3, 7), rfl, (wd1 152 rfl rfl), Nat.le_of_ble_eq_true rfl, Nat.le_of_ble_eq_true rfl, rfl⟩
theorem fl_X5_9 : eFk RX5 9 3 1 1 := ⟨(RX5, TX5, 6), rfl, (wd1 110 rfl rfl), Nat.le_of_ble_eq_true rfl, Nat.le_of_ble_eq_true rfl, rfl⟩
theorem fl_X5_15 : eFk RX5 15 3 2 2 := ⟨(RX5, TX5, 6), rfl, (wd1 111 rfl rfl), Nat.le_of_ble_eq_true rfl, Nat.le_of_ble_eq_true rfl, rfl⟩
theorem fl_X5_19 : eFk RX5 19 3 3 3 := ⟨(RX5, TX5, 6), rfl, (wd1 112 rfl rfl), Nat.le_of_ble_eq_true rfl, Nat.le_of_ble_eq_true rfl, rfl⟩
theorem fl_X5_22 : eFk RX5 22 3 4 4 := ⟨(RX5, TX5, 6), rfl, (wd1 115 rfl rfl), Nat.le_of_ble_eq_true rfl, Nat.le_of_ble_eq_true rfl, rfl⟩
theorem fl_X5_25 : eFk RX5 25 3 5 5 := ⟨(RX5, TX5, 6), rfl, (wd1 117 rfl rfl), Nat.le_of_ble_eq_true rfl, Nat.le_of_ble_eq_true rfl, rfl⟩
theorem fl_X5_28 : eFk RX5 28 3 0 0 := ⟨(RX5, TX5, 6), rfl, (wd1 109 rfl rfl), Nat.le_of_ble_eq_true rfl, Nat.le_of_ble_eq_true rfl, rfl⟩
theorem fl_X5_32 : eFk RX5 32 7 0 0 := ⟨(RX9, TX9, 9), rfl, (wd1 237 rfl rfl), Nat.le_of_ble_eq_true rfl, Nat.le_of_ble_eq_true rfl, rfl⟩
theorem fl_X5_41 : eFk RX5 41 7 1 1 := ⟨(RX9, TX9, 9), rfl, (wd2 4 rfl rfl), Nat.le_of_ble_eq_true rfl, Nat.le_of_ble_eq_true rfl, rfl⟩
theorem fl_X5_42 : eFk RX5 42 7 3 3 := ⟨(RX9, TX9, 9), rfl, (wd2 14 rfl rfl), Nat.le_of_ble_eq_true rfl, Nat.le_of_ble_eq_true rfl, rfl⟩
theorem fl_X5_66 : eFk RX5 66 0 0 0 := ⟨(RX0, TX0, 4), rfl, (wd1 88 rfl rfl), Nat.le_of_ble_eq_true rfl, Nat.le_of_ble_eq_true rfl, rfl⟩
theorem fl_X6_11 : eFk RX6 11 4 0 0 := ⟨(RX6, TX6, 5), rfl, (wd1 200 rfl rfl), Nat.le_of_ble_eq_true rfl, Nat.le_of_ble_eq_true rfl, rfl⟩
theorem fl_X6_15 : eFk RX6 15 4 1 1 := ⟨(RX6, TX6, 5), rfl, (wd1 201 rfl rfl), Nat.le_of_ble_eq_true rfl, Nat.le_of_ble_eq_true rfl, rfl⟩
theorem fl_X6_18 : eFk RX6 18 4 2 2 := ⟨(RX6, TX6, 5), rfl, (wd1 202 rfl rfl), Nat.le_of_ble_eq_true rfl, Nat.le_of_ble_eq_true rfl, rfl⟩
theorem fl_X6_21 : eFk RX6 21 4 3 3 := ⟨(RX6, TX6, 5), rfl, (wd1 203 rfl rfl), Nat.le_of_ble_eq_true rfl, Nat.le_of_ble_eq_true rfl, rfl⟩
theorem fl_X6_24 : eFk RX6 24 4 4 4 := ⟨(RX6, TX6, 5), rfl, (wd1 204 rfl rfl), Nat.le_of_ble_eq_true rfl, Nat.le_of_ble_eq_true rfl, rfl⟩
theorem fl_X6_31 : eFk RX6 31 7 1 1 := ⟨(RX9, TX9, 9), rfl, (wd2 3 rfl rfl), Nat.le_of_ble_eq_true rfl, Nat.le_of_ble_eq_true rfl, rfl⟩
theorem fl_X6_45 : eFk RX6 45 7 5 5 := ⟨(RX9, TX9, 9), rfl, (wd2 20 rfl rfl), Nat.le_of_ble_eq_true rfl, Nat.le_of_ble_eq_true rfl, rfl⟩
theorem fl_X6_49 : eFk RX6 49 7 4 4 := ⟨(RX9, TX9, 9), rfl, (wd2 17 rfl rfl), Nat.le_of_ble_eq_true rfl, Nat.le_of_ble_eq_true rfl, rfl⟩
theorem fl_X6_59 : eFk RX6 59 7 0 0 := ⟨(RX9, TX9, 9), rfl, (wd1 239 rfl rfl), Nat.le_of_ble_eq_true rfl, Nat.le_of_ble_eq_true rfl, rfl⟩
theorem fl_X6_62 : eFk RX6 62 7 2 2 := ⟨(RX9, TX9, 9), rfl, (wd2 11 rfl rfl), Nat.le_of_ble_eq_true rfl, Nat.le_of_ble_eq_true rfl, rfl⟩
theorem fl_X7_13 : eFk RX7 13 5 1 1 := ⟨(RX7, TX7, 5), rfl, (wd1 179 rfl rfl), Nat.le_of_ble_eq_true rfl, Nat.le_of_ble_eq_true rfl, rfl⟩
theorem fl_X7_17 : eFk RX7 17 5 2 2 := ⟨(RX7, TX7, 5), rfl, (wd1 180 rfl rfl), Nat.le_of_ble_eq_true rfl, Nat.le_of_ble_eq_true rfl, rfl⟩
theorem fl_X7_21 : eFk RX7 21 5 3 3 := ⟨(RX7, TX7, 5), rfl, (wd1 181 rfl rfl), Nat.le_of_ble_eq_true rfl, Nat.le_of_ble_eq_true rfl, rfl⟩
theorem fl_X7_24 : eFk RX7 24 5 4 4 := ⟨(RX7, TX7, 5), rfl, (wd1 182 rfl rfl), Nat.le_of_ble_eq_true rfl, Nat.le_of_ble_eq_true rfl, rfl⟩
theorem fl_X7_27 : eFk RX7 27 5 0 0 := ⟨(RX7, TX7, 5), rfl, (wd1 178 rfl rfl), Nat.le_of_ble_eq_true rfl, Nat.le_of_ble_eq_true rfl, rfl⟩
theorem fl_X7_34 : eFk RX7 34 7 7 7 := ⟨(RX9, TX9, 9), rfl, (wd2 26 rfl rfl), Nat.le_of_ble_eq_true rfl, Nat.le_of_ble_eq_true rfl, rfl⟩
theorem fl_X7_52 : eFk RX7 52 7 6 6 := ⟨(RX9, TX9, 9), rfl, (wd2 23 rfl rfl), Nat.le_of_ble_eq_true rfl, Nat.le_of_ble_eq_true rfl, rfl⟩
theorem fl_X7_60 : eFk RX7 60 3 3 3 := ⟨(RX5, TX5, 6), rfl, (wd1 113 rfl rfl), Nat.le_of_ble_eq_true rfl, Nat.le_of_ble_eq_true rfl, rfl⟩
theorem fl_X7_71 : eFk RX7 71 3 4 4 := ⟨(RX5, TX5, 6), rfl, (wd1 116 rfl rfl), Nat.le_of_ble_eq_true rfl, Nat.le_of_ble_eq_true rfl, rfl⟩
theorem fl_X7_74 : eFk RX7 74 7 8 8 := ⟨(RX9, TX9, 9), rfl, (wd2 29 rfl rfl), Nat.le_of_ble_eq_true rfl, Nat.le_of_ble_eq_true rfl, rfl⟩
theorem fl_X7_83 : eFk RX7 83 3 5 5 := ⟨(RX5, TX5, 6), rfl, (wd1 118 rfl rfl), Nat.le_of_ble_eq_true rfl, Nat.le_of_ble_eq_true rfl, rfl⟩
theorem fl_X7_89 : eFk RX7 89 7 1 1 := ⟨(RX9, TX9, 9), rfl, (wd2 6 rfl rfl), Nat.le_of_ble_eq_true rfl, Nat.le_of_ble_eq_true rfl, rfl⟩
theorem fl_X7_106 : eFk RX7 106 0 0 0 := ⟨(RX0, TX0, 4), rfl, (wd1 89 rfl rfl), Nat.le_of_ble_eq_true rfl, Nat.le_of_ble_eq_true rfl, rfl⟩
theorem fl_X8_11 : eFk RX8 11 6 0 0 := ⟨(RX8, TX8, 2), rfl, (wd1 222 rfl rfl), Nat.le_of_ble_eq_true rfl, Nat.le_of_ble_eq_true rfl, rfl⟩
theorem fl_X8_15 : eFk RX8 15 6 1 1 := ⟨(RX8, TX8, 2), rfl, (wd1 224 rfl rfl), Nat.le_of_ble_eq_true rfl, Nat.le_of_ble_eq_true rfl, rfl⟩
theorem fl_X8_19 : eFk RX8 19 2 5 5 := ⟨(RX3, TX3, 7), rfl, (wd1 150 rfl rfl), Nat.le_of_ble_eq_true rfl, Nat.le_of_ble_eq_true rfl, rfl⟩
theorem fl_X8_24 : eFk RX8 24 2 0 0 := ⟨(RX3, TX3, 7), rfl, (wd1 140 rfl rfl), Nat.le_of_ble_eq_true rfl, Nat.le_of_ble_eq_true rfl, rfl⟩
theorem fl_X8_34 : eFk RX8 34 2 4 4 := ⟨(RX3, TX3, 7), rfl, (wd1 148 rfl rfl), Nat.le_of_ble_eq_true rfl, Nat.le_of_ble_eq_true rfl, rfl⟩
theorem fl_X9_9 : eFk RX9 9 7 0 0 := ⟨(RX9, TX9, 9), rfl, (wd1 236 rfl rfl), Nat.le_of_ble_eq_true rfl, Nat.le_of_ble_eq_true rfl, rfl⟩
theorem fl_X9_15 : eFk RX9 15 7 1 1 := ⟨(RX9, TX9, 9), rfl, (wd2 2 rfl rfl), Nat.le_of_ble_eq_true rfl, Nat.le_of_ble_eq_true rfl, rfl⟩
theorem fl_X9_19 : eFk RX9 19 7 2 2 := ⟨(RX9, TX9, 9), rfl, (wd2 9 rfl rfl), Nat.le_of_ble_eq_true rfl, Nat.le_of_ble_eq_true rfl, rfl⟩
theorem fl_X9_22 : eFk RX9 22 7 3 3 := ⟨(RX9, TX9, 9), rfl, (wd2 13 rfl rfl), Nat.le_of_ble_eq_true rfl, Nat.le_of_ble_eq_true rfl, rfl⟩
theorem fl_X9_25 : eFk RX9 25 7 4 4 := ⟨(RX9, TX9, 9), rfl, (wd2 16 rfl rfl), Nat.le_of_ble_eq_true rfl, Nat.le_of_ble_eq_true rfl, rfl⟩
theorem fl_X9_29 : eFk RX9 29 7 5 5 := ⟨(RX9, TX9, 9), rfl, (wd2 19 rfl rfl), Nat.le_of_ble_eq_true rfl, Nat.le_of_ble_eq_true rfl, rfl⟩
theorem fl_X9_33 : eFk RX9 33 7 6 6 := ⟨(RX9, TX9, 9), rfl, (wd2 22 rfl rfl), Nat.le_of_ble_eq_true rfl, Nat.le_of_ble_eq_true rfl, rfl⟩
theorem fl_X9_36 : eFk RX9 36 7 7 7 := ⟨(RX9, TX9, 9), rfl, (wd2 25 rfl rfl), Nat.le_of_ble_eq_true rfl, Nat.le_of_ble_eq_true rfl, rfl⟩
theorem fl_X9_39 : eFk RX9 39 7 8 8 := ⟨(RX9, TX9, 9), rfl, (wd2 28 rfl rfl), Nat.le_of_ble_eq_true rfl, Nat.le_of_ble_eq_true rfl, rfl⟩
theorem kc_X10_113 : Cond.constantLong RX10 113 (Int64.ofInt (999999)) ∈ eTbl := (wd2 173 rfl rfl)
theorem kc_X4_9 : Cond.constantLong RX4 9 (Int64.ofInt (-1)) ∈ eTbl := (wd2 177 rfl rfl)
theorem kc_X10_119 : Cond.constantLong RX10 119 (Int64.ofInt (99999999)) ∈ eTbl := (wd2 183 rfl rfl)
theorem kc_J13_314 : Cond.constantLong RJ13 314 (Int64.ofInt (6148914691236517205)) ∈ eTbl := (wd2 225 rfl rfl)
theorem kc_J13_316 : Cond.constantLong RJ13 316 (Int64.ofInt (3689348814741910323)) ∈ eTbl := (wd2 226 rfl rfl)
theorem kc_J13_318 : Cond.constantLong RJ13 318 (Int64.ofInt (1085102592571150095)) ∈ eTbl := (wd2 227 rfl rfl)
theorem kc_X1_11 : Cond.constantLong RX1 11 (Int64.ofInt (255)) ∈ eTbl := (wd3 5 rfl rfl)
theorem kc_J6_265 : Cond.constant RJ6 265 (Int32.ofInt (1431655765)) ∈ eTbl := (wd3 12 rfl rfl)
theorem kc_J6_266 : Cond.constant RJ6 266 (Int32.ofInt (858993459)) ∈ eTbl := (wd3 13 rfl rfl)
theorem kc_J6_267 : Cond.constant RJ6 267 (Int32.ofInt (252645135)) ∈ eTbl := (wd3 14 rfl rfl)
theorem kc_X2_21 : Cond.constantLong RX2 21 (Int64.ofInt (1000000000)) ∈ eTbl := (wd3 47 rfl rfl)
theorem kc_X2_29 : Cond.constantLong RX2 29 (Int64.ofInt (-1)) ∈ eTbl := (wd3 49 rfl rfl)
theorem kc_X2_42 : Cond.constantLong RX2 42 (Int64.ofInt (1000000000000000)) ∈ eTbl := (wd3 53 rfl rfl)
theorem kc_X2_56 : Cond.constantLong RX2 56 (Int64.ofInt (999999)) ∈ eTbl := (wd3 63 rfl rfl)
theorem kc_X2_69 : Cond.constantLong RX2 69 (Int64.ofInt (99999999)) ∈ eTbl := (wd3 68 rfl rfl)
theorem kc_X0_36 : Cond.constantLong RX0 36 (Int64.ofInt (9223372036854775807)) ∈ eTbl := (wd3 128 rfl rfl)
theorem kc_X0_44 : Cond.constantLong RX0 44 (Int64.ofInt (-1)) ∈ eTbl := (wd3 131 rfl rfl)
theorem kc_X1_13 : Cond.constantLong RX1 13 (Int64.ofInt (72340172838076673)) ∈ eTbl := (wd3 153 rfl rfl)
theorem kc_X1_15 : Cond.constantLong RX1 15 (Int64.ofInt (-1)) ∈ eTbl := (wd3 154 rfl rfl)
theorem kc_X5_101 : Cond.constantLong RX5 101 (Int64.ofInt (-1)) ∈ eTbl := (wd3 167 rfl rfl)
theorem kc_X11_335 : Cond.constant RX11 335 (Int32.ofInt (99999999)) ∈ eTbl := (wd4 9 rfl rfl)
theorem kc_X11_238 : Cond.constantLong RX11 238 (Int64.ofInt (-1)) ∈ eTbl := (wd4 37 rfl rfl)
theorem kc_X0_67 : Cond.constantLong RX0 67 (Int64.ofInt (-2)) ∈ eTbl := (wd4 51 rfl rfl)
theorem kc_X12_97 : Cond.constantLong RX12 97 (Int64.ofInt (3)) ∈ eTbl := (wd5 133 rfl rfl)
theorem kc_X12_150 : Cond.constantLong RX12 150 (Int64.ofInt (48)) ∈ eTbl := (wd5 173 rfl rfl)
theorem kc_X12_152 : Cond.constantLong RX12 152 (Int64.ofInt (57)) ∈ eTbl := (wd5 174 rfl rfl)
theorem kc_X12_93 : Cond.constantLong RX12 93 (Int64.ofInt (999999)) ∈ eTbl := (wd5 198 rfl rfl)
theorem kc_X12_95 : Cond.constantLong RX12 95 (Int64.ofInt (99999999)) ∈ eTbl := (wd5 203 rfl rfl)
theorem kc_X12_215 : Cond.constantLong RX12 215 (Int64.ofInt (9999)) ∈ eTbl := (wd6 4 rfl rfl)
theorem kc_X12_224 : Cond.constantLong RX12 224 (Int64.ofInt (1000000000)) ∈ eTbl := (wd6 5 rfl rfl)
theorem kc_X12_217 : Cond.constantLong RX12 217 (Int64.ofInt (1000000000000000)) ∈ eTbl := (wd6 9 rfl rfl)
theorem kc_X12_219 : Cond.constantLong RX12 219 (Int64.ofInt (-1)) ∈ eTbl := (wd6 10 rfl rfl)
theorem kc_X12_229 : Cond.constantLong RX12 229 (Int64.ofInt (5)) ∈ eTbl := (wd6 19 rfl rfl)
theorem kc_X12_239 : Cond.constantLong RX12 239 (Int64.ofInt (9223372036854775807)) ∈ eTbl := (wd6 69 rfl rfl)
theorem kc_X12_270 : Cond.constant RX12 270 (Int32.ofInt (799999992)) ∈ eTbl := (wd6 76 rfl rfl)
theorem kc_X12_306 : Cond.constantLong RX12 306 (Int64.ofInt (2)) ∈ eTbl := (wd6 94 rfl rfl)
theorem kc_X12_318 : Cond.constantLong RX12 318 (Int64.ofInt (4)) ∈ eTbl := (wd6 127 rfl rfl)
theorem kc_X12_353 : Cond.constantLong RX12 353 (Int64.ofInt (10)) ∈ eTbl := (wd6 188 rfl rfl)
theorem kc_X12_355 : Cond.constantLong RX12 355 (Int64.ofInt (-2)) ∈ eTbl := (wd6 193 rfl rfl)
def eLkV (own : String) (x : Nat) (y : MethodName) (n : Nat) : Prop := Cond.methodLink own x y ∈ eTbl ∧ Cond.initialized y.cls ∈ eTbl ∧ Cond.instanceMethod y ∈ eTbl ∧ Cond.selects y.cls y y ∈ eTbl ∧ y.cls ≠ "java/lang/invoke/MethodHandle" ∧ y.cls ≠ "java/lang/invoke/VarHandle" ∧ (parseMethodDescriptor y.desc).map (fun d => d.parameters.length) = some n
def eLkS (own : String) (x : Nat) (y : MethodName) (n : Nat) : Prop := Cond.methodLink own x y ∈ eTbl ∧ Cond.initialized y.cls ∈ eTbl ∧ Cond.static y ∈ eTbl ∧ y.cls ≠ "java/lang/invoke/MethodHandle" ∧ y.cls ≠ "java/lang/invoke/VarHandle" ∧ (parseMethodDescriptor y.desc).map (fun d => d.parameters.length) = some n
theorem yp_yJ13_bitCount_95d88 : yJ13_bitCount_95d88.cls ≠ "java/lang/invoke/MethodHandle" ∧ yJ13_bitCount_95d88.cls ≠ "java/lang/invoke/VarHandle" ∧ (parseMethodDescriptor yJ13_bitCount_95d88.desc).map (fun d => d.parameters.length) = some 1 := by decide +kernel
theorem yp_yJ6_bitCount_0f7a4 : yJ6_bitCount_0f7a4.cls ≠ "java/lang/invoke/MethodHandle" ∧ yJ6_bitCount_0f7a4.cls ≠ "java/lang/invoke/VarHandle" ∧ (parseMethodDescriptor yJ6_bitCount_0f7a4.desc).map (fun d => d.parameters.length) = some 1 := by decide +kernel
theorem yp_yJ7_fill_53178 : yJ7_fill_53178.cls ≠ "java/lang/invoke/MethodHandle" ∧ yJ7_fill_53178.cls ≠ "java/lang/invoke/VarHandle" ∧ (parseMethodDescriptor yJ7_fill_53178.desc).map (fun d => d.parameters.length) = some 2 := by decide +kernel
theorem yp_yJ9_max_7cf53 : yJ9_max_7cf53.cls ≠ "java/lang/invoke/MethodHandle" ∧ yJ9_max_7cf53.cls ≠ "java/lang/invoke/VarHandle" ∧ (parseMethodDescriptor yJ9_max_7cf53.desc).map (fun d => d.parameters.length) = some 2 := by decide +kernel
theorem yp_yJ9_max_f86c9 : yJ9_max_f86c9.cls ≠ "java/lang/invoke/MethodHandle" ∧ yJ9_max_f86c9.cls ≠ "java/lang/invoke/VarHandle" ∧ (parseMethodDescriptor yJ9_max_f86c9.desc).map (fun d => d.parameters.length) = some 2 := by decide +kernel
theorem yp_yJ9_min_7cf53 : yJ9_min_7cf53.cls ≠ "java/lang/invoke/MethodHandle" ∧ yJ9_min_7cf53.cls ≠ "java/lang/invoke/VarHandle" ∧ (parseMethodDescriptor yJ9_min_7cf53.desc).map (fun d => d.parameters.length) = some 2 := by decide +kernel
theorem yp_yJ9_min_f86c9 : yJ9_min_f86c9.cls ≠ "java/lang/invoke/MethodHandle" ∧ yJ9_min_f86c9.cls ≠ "java/lang/invoke/VarHandle" ∧ (parseMethodDescriptor yJ9_min_f86c9.desc).map (fun d => d.parameters.length) = some 2 := by decide +kernel
theorem yp_yX0_countAll : yX0_countAll.cls ≠ "java/lang/invoke/MethodHandle" ∧ yX0_countAll.cls ≠ "java/lang/invoke/VarHandle" ∧ (parseMethodDescriptor yX0_countAll.desc).map (fun d => d.parameters.length) = some 2 := by decide +kernel
theorem yp_yX0_findFirst : yX0_findFirst.cls ≠ "java/lang/invoke/MethodHandle" ∧ yX0_findFirst.cls ≠ "java/lang/invoke/VarHandle" ∧ (parseMethodDescriptor yX0_findFirst.desc).map (fun d => d.parameters.length) = some 2 := by decide +kernel
theorem yp_yX0_findRichest : yX0_findRichest.cls ≠ "java/lang/invoke/MethodHandle" ∧ yX0_findRichest.cls ≠ "java/lang/invoke/VarHandle" ∧ (parseMethodDescriptor yX0_findRichest.desc).map (fun d => d.parameters.length) = some 3 := by decide +kernel
theorem yp_yX0_greatestLeast : yX0_greatestLeast.cls ≠ "java/lang/invoke/MethodHandle" ∧ yX0_greatestLeast.cls ≠ "java/lang/invoke/VarHandle" ∧ (parseMethodDescriptor yX0_greatestLeast.desc).map (fun d => d.parameters.length) = some 3 := by decide +kernel
theorem yp_yX0_multiplyAll : yX0_multiplyAll.cls ≠ "java/lang/invoke/MethodHandle" ∧ yX0_multiplyAll.cls ≠ "java/lang/invoke/VarHandle" ∧ (parseMethodDescriptor yX0_multiplyAll.desc).map (fun d => d.parameters.length) = some 2 := by decide +kernel
theorem yp_yX0_multiplySet : yX0_multiplySet.cls ≠ "java/lang/invoke/MethodHandle" ∧ yX0_multiplySet.cls ≠ "java/lang/invoke/VarHandle" ∧ (parseMethodDescriptor yX0_multiplySet.desc).map (fun d => d.parameters.length) = some 3 := by decide +kernel
theorem yp_yX0_nextColumn : yX0_nextColumn.cls ≠ "java/lang/invoke/MethodHandle" ∧ yX0_nextColumn.cls ≠ "java/lang/invoke/VarHandle" ∧ (parseMethodDescriptor yX0_nextColumn.desc).map (fun d => d.parameters.length) = some 4 := by decide +kernel
theorem yp_yX0_richestColumn : yX0_richestColumn.cls ≠ "java/lang/invoke/MethodHandle" ∧ yX0_richestColumn.cls ≠ "java/lang/invoke/VarHandle" ∧ (parseMethodDescriptor yX0_richestColumn.desc).map (fun d => d.parameters.length) = some 5 := by decide +kernel
theorem yp_yX0_sumUp : yX0_sumUp.cls ≠ "java/lang/invoke/MethodHandle" ∧ yX0_sumUp.cls ≠ "java/lang/invoke/VarHandle" ∧ (parseMethodDescriptor yX0_sumUp.desc).map (fun d => d.parameters.length) = some 3 := by decide +kernel
theorem yp_yX10_areCells : yX10_areCells.cls ≠ "java/lang/invoke/MethodHandle" ∧ yX10_areCells.cls ≠ "java/lang/invoke/VarHandle" ∧ (parseMethodDescriptor yX10_areCells.desc).map (fun d => d.parameters.length) = some 1 := by decide +kernel
theorem yp_yX10_checkEnd : yX10_checkEnd.cls ≠ "java/lang/invoke/MethodHandle" ∧ yX10_checkEnd.cls ≠ "java/lang/invoke/VarHandle" ∧ (parseMethodDescriptor yX10_checkEnd.desc).map (fun d => d.parameters.length) = some 0 := by decide +kernel
theorem yp_yX10_closeRow : yX10_closeRow.cls ≠ "java/lang/invoke/MethodHandle" ∧ yX10_closeRow.cls ≠ "java/lang/invoke/VarHandle" ∧ (parseMethodDescriptor yX10_closeRow.desc).map (fun d => d.parameters.length) = some 0 := by decide +kernel
theorem yp_yX10_commonBelow : yX10_commonBelow.cls ≠ "java/lang/invoke/MethodHandle" ∧ yX10_commonBelow.cls ≠ "java/lang/invoke/VarHandle" ∧ (parseMethodDescriptor yX10_commonBelow.desc).map (fun d => d.parameters.length) = some 0 := by decide +kernel
theorem yp_yX10_countDigits : yX10_countDigits.cls ≠ "java/lang/invoke/MethodHandle" ∧ yX10_countDigits.cls ≠ "java/lang/invoke/VarHandle" ∧ (parseMethodDescriptor yX10_countDigits.desc).map (fun d => d.parameters.length) = some 0 := by decide +kernel
theorem yp_yX10_drop : yX10_drop.cls ≠ "java/lang/invoke/MethodHandle" ∧ yX10_drop.cls ≠ "java/lang/invoke/VarHandle" ∧ (parseMethodDescriptor yX10_drop.desc).map (fun d => d.parameters.length) = some 0 := by decide +kernel
theorem yp_yX10_fail : yX10_fail.cls ≠ "java/lang/invoke/MethodHandle" ∧ yX10_fail.cls ≠ "java/lang/invoke/VarHandle" ∧ (parseMethodDescriptor yX10_fail.desc).map (fun d => d.parameters.length) = some 2 := by decide +kernel
theorem yp_yX10_fill : yX10_fill.cls ≠ "java/lang/invoke/MethodHandle" ∧ yX10_fill.cls ≠ "java/lang/invoke/VarHandle" ∧ (parseMethodDescriptor yX10_fill.desc).map (fun d => d.parameters.length) = some 1 := by decide +kernel
theorem yp_yX10_hasRoom : yX10_hasRoom.cls ≠ "java/lang/invoke/MethodHandle" ∧ yX10_hasRoom.cls ≠ "java/lang/invoke/VarHandle" ∧ (parseMethodDescriptor yX10_hasRoom.desc).map (fun d => d.parameters.length) = some 0 := by decide +kernel
theorem yp_yX10_isBlank : yX10_isBlank.cls ≠ "java/lang/invoke/MethodHandle" ∧ yX10_isBlank.cls ≠ "java/lang/invoke/VarHandle" ∧ (parseMethodDescriptor yX10_isBlank.desc).map (fun d => d.parameters.length) = some 1 := by decide +kernel
theorem yp_yX10_isDigit : yX10_isDigit.cls ≠ "java/lang/invoke/MethodHandle" ∧ yX10_isDigit.cls ≠ "java/lang/invoke/VarHandle" ∧ (parseMethodDescriptor yX10_isDigit.desc).map (fun d => d.parameters.length) = some 1 := by decide +kernel
theorem yp_yX10_isSign : yX10_isSign.cls ≠ "java/lang/invoke/MethodHandle" ∧ yX10_isSign.cls ≠ "java/lang/invoke/VarHandle" ∧ (parseMethodDescriptor yX10_isSign.desc).map (fun d => d.parameters.length) = some 2 := by decide +kernel
theorem yp_yX10_keepFraction : yX10_keepFraction.cls ≠ "java/lang/invoke/MethodHandle" ∧ yX10_keepFraction.cls ≠ "java/lang/invoke/VarHandle" ∧ (parseMethodDescriptor yX10_keepFraction.desc).map (fun d => d.parameters.length) = some 2 := by decide +kernel
theorem yp_yX10_putNumber : yX10_putNumber.cls ≠ "java/lang/invoke/MethodHandle" ∧ yX10_putNumber.cls ≠ "java/lang/invoke/VarHandle" ∧ (parseMethodDescriptor yX10_putNumber.desc).map (fun d => d.parameters.length) = some 1 := by decide +kernel
theorem yp_yX10_readDivisor : yX10_readDivisor.cls ≠ "java/lang/invoke/MethodHandle" ∧ yX10_readDivisor.cls ≠ "java/lang/invoke/VarHandle" ∧ (parseMethodDescriptor yX10_readDivisor.desc).map (fun d => d.parameters.length) = some 0 := by decide +kernel
theorem yp_yX10_readFraction : yX10_readFraction.cls ≠ "java/lang/invoke/MethodHandle" ∧ yX10_readFraction.cls ≠ "java/lang/invoke/VarHandle" ∧ (parseMethodDescriptor yX10_readFraction.desc).map (fun d => d.parameters.length) = some 0 := by decide +kernel
theorem yp_yX10_readInto : yX10_readInto.cls ≠ "java/lang/invoke/MethodHandle" ∧ yX10_readInto.cls ≠ "java/lang/invoke/VarHandle" ∧ (parseMethodDescriptor yX10_readInto.desc).map (fun d => d.parameters.length) = some 1 := by decide +kernel
theorem yp_yX10_readNumber : yX10_readNumber.cls ≠ "java/lang/invoke/MethodHandle" ∧ yX10_readNumber.cls ≠ "java/lang/invoke/VarHandle" ∧ (parseMethodDescriptor yX10_readNumber.desc).map (fun d => d.parameters.length) = some 0 := by decide +kernel
theorem yp_yX10_readPiece : yX10_readPiece.cls ≠ "java/lang/invoke/MethodHandle" ∧ yX10_readPiece.cls ≠ "java/lang/invoke/VarHandle" ∧ (parseMethodDescriptor yX10_readPiece.desc).map (fun d => d.parameters.length) = some 0 := by decide +kernel
theorem yp_yX10_skipBlanks : yX10_skipBlanks.cls ≠ "java/lang/invoke/MethodHandle" ∧ yX10_skipBlanks.cls ≠ "java/lang/invoke/VarHandle" ∧ (parseMethodDescriptor yX10_skipBlanks.desc).map (fun d => d.parameters.length) = some 0 := by decide +kernel
theorem yp_yX11_areLike : yX11_areLike.cls ≠ "java/lang/invoke/MethodHandle" ∧ yX11_areLike.cls ≠ "java/lang/invoke/VarHandle" ∧ (parseMethodDescriptor yX11_areLike.desc).map (fun d => d.parameters.length) = some 3 := by decide +kernel
theorem yp_yX11_best : yX11_best.cls ≠ "java/lang/invoke/MethodHandle" ∧ yX11_best.cls ≠ "java/lang/invoke/VarHandle" ∧ (parseMethodDescriptor yX11_best.desc).map (fun d => d.parameters.length) = some 2 := by decide +kernel
theorem yp_yX11_bound : yX11_bound.cls ≠ "java/lang/invoke/MethodHandle" ∧ yX11_bound.cls ≠ "java/lang/invoke/VarHandle" ∧ (parseMethodDescriptor yX11_bound.desc).map (fun d => d.parameters.length) = some 2 := by decide +kernel
theorem yp_yX11_cell : yX11_cell.cls ≠ "java/lang/invoke/MethodHandle" ∧ yX11_cell.cls ≠ "java/lang/invoke/VarHandle" ∧ (parseMethodDescriptor yX11_cell.desc).map (fun d => d.parameters.length) = some 3 := by decide +kernel
theorem yp_yX11_draw : yX11_draw.cls ≠ "java/lang/invoke/MethodHandle" ∧ yX11_draw.cls ≠ "java/lang/invoke/VarHandle" ∧ (parseMethodDescriptor yX11_draw.desc).map (fun d => d.parameters.length) = some 1 := by decide +kernel
theorem yp_yX11_end : yX11_end.cls ≠ "java/lang/invoke/MethodHandle" ∧ yX11_end.cls ≠ "java/lang/invoke/VarHandle" ∧ (parseMethodDescriptor yX11_end.desc).map (fun d => d.parameters.length) = some 1 := by decide +kernel
theorem yp_yX11_evenSlot : yX11_evenSlot.cls ≠ "java/lang/invoke/MethodHandle" ∧ yX11_evenSlot.cls ≠ "java/lang/invoke/VarHandle" ∧ (parseMethodDescriptor yX11_evenSlot.desc).map (fun d => d.parameters.length) = some 1 := by decide +kernel
theorem yp_yX11_fault : yX11_fault.cls ≠ "java/lang/invoke/MethodHandle" ∧ yX11_fault.cls ≠ "java/lang/invoke/VarHandle" ∧ (parseMethodDescriptor yX11_fault.desc).map (fun d => d.parameters.length) = some 1 := by decide +kernel
theorem yp_yX11_feed : yX11_feed.cls ≠ "java/lang/invoke/MethodHandle" ∧ yX11_feed.cls ≠ "java/lang/invoke/VarHandle" ∧ (parseMethodDescriptor yX11_feed.desc).map (fun d => d.parameters.length) = some 5 := by decide +kernel
theorem yp_yX11_filledSlot : yX11_filledSlot.cls ≠ "java/lang/invoke/MethodHandle" ∧ yX11_filledSlot.cls ≠ "java/lang/invoke/VarHandle" ∧ (parseMethodDescriptor yX11_filledSlot.desc).map (fun d => d.parameters.length) = some 1 := by decide +kernel
theorem yp_yX11_isCell : yX11_isCell.cls ≠ "java/lang/invoke/MethodHandle" ∧ yX11_isCell.cls ≠ "java/lang/invoke/VarHandle" ∧ (parseMethodDescriptor yX11_isCell.desc).map (fun d => d.parameters.length) = some 1 := by decide +kernel
theorem yp_yX11_isRule : yX11_isRule.cls ≠ "java/lang/invoke/MethodHandle" ∧ yX11_isRule.cls ≠ "java/lang/invoke/VarHandle" ∧ (parseMethodDescriptor yX11_isRule.desc).map (fun d => d.parameters.length) = some 1 := by decide +kernel
theorem yp_yX11_isShare : yX11_isShare.cls ≠ "java/lang/invoke/MethodHandle" ∧ yX11_isShare.cls ≠ "java/lang/invoke/VarHandle" ∧ (parseMethodDescriptor yX11_isShare.desc).map (fun d => d.parameters.length) = some 2 := by decide +kernel
theorem yp_yX11_job : yX11_job.cls ≠ "java/lang/invoke/MethodHandle" ∧ yX11_job.cls ≠ "java/lang/invoke/VarHandle" ∧ (parseMethodDescriptor yX11_job.desc).map (fun d => d.parameters.length) = some 2 := by decide +kernel
theorem yp_yX11_joint : yX11_joint.cls ≠ "java/lang/invoke/MethodHandle" ∧ yX11_joint.cls ≠ "java/lang/invoke/VarHandle" ∧ (parseMethodDescriptor yX11_joint.desc).map (fun d => d.parameters.length) = some 5 := by decide +kernel
theorem yp_yX11_keepParts : yX11_keepParts.cls ≠ "java/lang/invoke/MethodHandle" ∧ yX11_keepParts.cls ≠ "java/lang/invoke/VarHandle" ∧ (parseMethodDescriptor yX11_keepParts.desc).map (fun d => d.parameters.length) = some 1 := by decide +kernel
theorem yp_yX11_kept : yX11_kept.cls ≠ "java/lang/invoke/MethodHandle" ∧ yX11_kept.cls ≠ "java/lang/invoke/VarHandle" ∧ (parseMethodDescriptor yX11_kept.desc).map (fun d => d.parameters.length) = some 1 := by decide +kernel
theorem yp_yX11_kin : yX11_kin.cls ≠ "java/lang/invoke/MethodHandle" ∧ yX11_kin.cls ≠ "java/lang/invoke/VarHandle" ∧ (parseMethodDescriptor yX11_kin.desc).map (fun d => d.parameters.length) = some 2 := by decide +kernel
theorem yp_yX11_lack : yX11_lack.cls ≠ "java/lang/invoke/MethodHandle" ∧ yX11_lack.cls ≠ "java/lang/invoke/VarHandle" ∧ (parseMethodDescriptor yX11_lack.desc).map (fun d => d.parameters.length) = some 3 := by decide +kernel
theorem yp_yX11_look : yX11_look.cls ≠ "java/lang/invoke/MethodHandle" ∧ yX11_look.cls ≠ "java/lang/invoke/VarHandle" ∧ (parseMethodDescriptor yX11_look.desc).map (fun d => d.parameters.length) = some 2 := by decide +kernel
theorem yp_yX11_mix : yX11_mix.cls ≠ "java/lang/invoke/MethodHandle" ∧ yX11_mix.cls ≠ "java/lang/invoke/VarHandle" ∧ (parseMethodDescriptor yX11_mix.desc).map (fun d => d.parameters.length) = some 7 := by decide +kernel
theorem yp_yX11_mixing : yX11_mixing.cls ≠ "java/lang/invoke/MethodHandle" ∧ yX11_mixing.cls ≠ "java/lang/invoke/VarHandle" ∧ (parseMethodDescriptor yX11_mixing.desc).map (fun d => d.parameters.length) = some 1 := by decide +kernel
theorem yp_yX11_most : yX11_most.cls ≠ "java/lang/invoke/MethodHandle" ∧ yX11_most.cls ≠ "java/lang/invoke/VarHandle" ∧ (parseMethodDescriptor yX11_most.desc).map (fun d => d.parameters.length) = some 2 := by decide +kernel
theorem yp_yX11_out : yX11_out.cls ≠ "java/lang/invoke/MethodHandle" ∧ yX11_out.cls ≠ "java/lang/invoke/VarHandle" ∧ (parseMethodDescriptor yX11_out.desc).map (fun d => d.parameters.length) = some 1 := by decide +kernel
theorem yp_yX11_paired : yX11_paired.cls ≠ "java/lang/invoke/MethodHandle" ∧ yX11_paired.cls ≠ "java/lang/invoke/VarHandle" ∧ (parseMethodDescriptor yX11_paired.desc).map (fun d => d.parameters.length) = some 3 := by decide +kernel
theorem yp_yX11_part : yX11_part.cls ≠ "java/lang/invoke/MethodHandle" ∧ yX11_part.cls ≠ "java/lang/invoke/VarHandle" ∧ (parseMethodDescriptor yX11_part.desc).map (fun d => d.parameters.length) = some 2 := by decide +kernel
theorem yp_yX11_peel : yX11_peel.cls ≠ "java/lang/invoke/MethodHandle" ∧ yX11_peel.cls ≠ "java/lang/invoke/VarHandle" ∧ (parseMethodDescriptor yX11_peel.desc).map (fun d => d.parameters.length) = some 2 := by decide +kernel
theorem yp_yX11_permanent : yX11_permanent.cls ≠ "java/lang/invoke/MethodHandle" ∧ yX11_permanent.cls ≠ "java/lang/invoke/VarHandle" ∧ (parseMethodDescriptor yX11_permanent.desc).map (fun d => d.parameters.length) = some 1 := by decide +kernel
theorem yp_yX11_rounded : yX11_rounded.cls ≠ "java/lang/invoke/MethodHandle" ∧ yX11_rounded.cls ≠ "java/lang/invoke/VarHandle" ∧ (parseMethodDescriptor yX11_rounded.desc).map (fun d => d.parameters.length) = some 3 := by decide +kernel
theorem yp_yX11_shop : yX11_shop.cls ≠ "java/lang/invoke/MethodHandle" ∧ yX11_shop.cls ≠ "java/lang/invoke/VarHandle" ∧ (parseMethodDescriptor yX11_shop.desc).map (fun d => d.parameters.length) = some 2 := by decide +kernel
theorem yp_yX11_show : yX11_show.cls ≠ "java/lang/invoke/MethodHandle" ∧ yX11_show.cls ≠ "java/lang/invoke/VarHandle" ∧ (parseMethodDescriptor yX11_show.desc).map (fun d => d.parameters.length) = some 0 := by decide +kernel
theorem yp_yX11_slotAt : yX11_slotAt.cls ≠ "java/lang/invoke/MethodHandle" ∧ yX11_slotAt.cls ≠ "java/lang/invoke/VarHandle" ∧ (parseMethodDescriptor yX11_slotAt.desc).map (fun d => d.parameters.length) = some 1 := by decide +kernel
theorem yp_yX11_sought : yX11_sought.cls ≠ "java/lang/invoke/MethodHandle" ∧ yX11_sought.cls ≠ "java/lang/invoke/VarHandle" ∧ (parseMethodDescriptor yX11_sought.desc).map (fun d => d.parameters.length) = some 2 := by decide +kernel
theorem yp_yX11_table : yX11_table.cls ≠ "java/lang/invoke/MethodHandle" ∧ yX11_table.cls ≠ "java/lang/invoke/VarHandle" ∧ (parseMethodDescriptor yX11_table.desc).map (fun d => d.parameters.length) = some 1 := by decide +kernel
theorem yp_yX11_times : yX11_times.cls ≠ "java/lang/invoke/MethodHandle" ∧ yX11_times.cls ≠ "java/lang/invoke/VarHandle" ∧ (parseMethodDescriptor yX11_times.desc).map (fun d => d.parameters.length) = some 3 := by decide +kernel
theorem yp_yX11_turn : yX11_turn.cls ≠ "java/lang/invoke/MethodHandle" ∧ yX11_turn.cls ≠ "java/lang/invoke/VarHandle" ∧ (parseMethodDescriptor yX11_turn.desc).map (fun d => d.parameters.length) = some 4 := by decide +kernel
theorem yp_yX11_uneven : yX11_uneven.cls ≠ "java/lang/invoke/MethodHandle" ∧ yX11_uneven.cls ≠ "java/lang/invoke/VarHandle" ∧ (parseMethodDescriptor yX11_uneven.desc).map (fun d => d.parameters.length) = some 1 := by decide +kernel
theorem yp_yX11_ways : yX11_ways.cls ≠ "java/lang/invoke/MethodHandle" ∧ yX11_ways.cls ≠ "java/lang/invoke/VarHandle" ∧ (parseMethodDescriptor yX11_ways.desc).map (fun d => d.parameters.length) = some 2 := by decide +kernel
theorem yp_yX11_weight : yX11_weight.cls ≠ "java/lang/invoke/MethodHandle" ∧ yX11_weight.cls ≠ "java/lang/invoke/VarHandle" ∧ (parseMethodDescriptor yX11_weight.desc).map (fun d => d.parameters.length) = some 2 := by decide +kernel
theorem yp_yX11_widest : yX11_widest.cls ≠ "java/lang/invoke/MethodHandle" ∧ yX11_widest.cls ≠ "java/lang/invoke/VarHandle" ∧ (parseMethodDescriptor yX11_widest.desc).map (fun d => d.parameters.length) = some 1 := by decide +kernel
theorem yp_yX11_works : yX11_works.cls ≠ "java/lang/invoke/MethodHandle" ∧ yX11_works.cls ≠ "java/lang/invoke/VarHandle" ∧ (parseMethodDescriptor yX11_works.desc).map (fun d => d.parameters.length) = some 2 := by decide +kernel
theorem yp_yX12_aboveNought : yX12_aboveNought.cls ≠ "java/lang/invoke/MethodHandle" ∧ yX12_aboveNought.cls ≠ "java/lang/invoke/VarHandle" ∧ (parseMethodDescriptor yX12_aboveNought.desc).map (fun d => d.parameters.length) = some 1 := by decide +kernel
theorem yp_yX12_at : yX12_at.cls ≠ "java/lang/invoke/MethodHandle" ∧ yX12_at.cls ≠ "java/lang/invoke/VarHandle" ∧ (parseMethodDescriptor yX12_at.desc).map (fun d => d.parameters.length) = some 3 := by decide +kernel
theorem yp_yX12_behind : yX12_behind.cls ≠ "java/lang/invoke/MethodHandle" ∧ yX12_behind.cls ≠ "java/lang/invoke/VarHandle" ∧ (parseMethodDescriptor yX12_behind.desc).map (fun d => d.parameters.length) = some 3 := by decide +kernel
theorem yp_yX12_best : yX12_best.cls ≠ "java/lang/invoke/MethodHandle" ∧ yX12_best.cls ≠ "java/lang/invoke/VarHandle" ∧ (parseMethodDescriptor yX12_best.desc).map (fun d => d.parameters.length) = some 2 := by decide +kernel
theorem yp_yX12_bits : yX12_bits.cls ≠ "java/lang/invoke/MethodHandle" ∧ yX12_bits.cls ≠ "java/lang/invoke/VarHandle" ∧ (parseMethodDescriptor yX12_bits.desc).map (fun d => d.parameters.length) = some 1 := by decide +kernel
theorem yp_yX12_bound : yX12_bound.cls ≠ "java/lang/invoke/MethodHandle" ∧ yX12_bound.cls ≠ "java/lang/invoke/VarHandle" ∧ (parseMethodDescriptor yX12_bound.desc).map (fun d => d.parameters.length) = some 2 := by decide +kernel
theorem yp_yX12_cell : yX12_cell.cls ≠ "java/lang/invoke/MethodHandle" ∧ yX12_cell.cls ≠ "java/lang/invoke/VarHandle" ∧ (parseMethodDescriptor yX12_cell.desc).map (fun d => d.parameters.length) = some 3 := by decide +kernel
theorem yp_yX12_choose : yX12_choose.cls ≠ "java/lang/invoke/MethodHandle" ∧ yX12_choose.cls ≠ "java/lang/invoke/VarHandle" ∧ (parseMethodDescriptor yX12_choose.desc).map (fun d => d.parameters.length) = some 1 := by decide +kernel
theorem yp_yX12_chooseGreatest : yX12_chooseGreatest.cls ≠ "java/lang/invoke/MethodHandle" ∧ yX12_chooseGreatest.cls ≠ "java/lang/invoke/VarHandle" ∧ (parseMethodDescriptor yX12_chooseGreatest.desc).map (fun d => d.parameters.length) = some 1 := by decide +kernel
theorem yp_yX12_columnOf : yX12_columnOf.cls ≠ "java/lang/invoke/MethodHandle" ∧ yX12_columnOf.cls ≠ "java/lang/invoke/VarHandle" ∧ (parseMethodDescriptor yX12_columnOf.desc).map (fun d => d.parameters.length) = some 2 := by decide +kernel
theorem yp_yX12_common : yX12_common.cls ≠ "java/lang/invoke/MethodHandle" ∧ yX12_common.cls ≠ "java/lang/invoke/VarHandle" ∧ (parseMethodDescriptor yX12_common.desc).map (fun d => d.parameters.length) = some 2 := by decide +kernel
theorem yp_yX12_cut : yX12_cut.cls ≠ "java/lang/invoke/MethodHandle" ∧ yX12_cut.cls ≠ "java/lang/invoke/VarHandle" ∧ (parseMethodDescriptor yX12_cut.desc).map (fun d => d.parameters.length) = some 2 := by decide +kernel
theorem yp_yX12_draw : yX12_draw.cls ≠ "java/lang/invoke/MethodHandle" ∧ yX12_draw.cls ≠ "java/lang/invoke/VarHandle" ∧ (parseMethodDescriptor yX12_draw.desc).map (fun d => d.parameters.length) = some 1 := by decide +kernel
theorem yp_yX12_edge : yX12_edge.cls ≠ "java/lang/invoke/MethodHandle" ∧ yX12_edge.cls ≠ "java/lang/invoke/VarHandle" ∧ (parseMethodDescriptor yX12_edge.desc).map (fun d => d.parameters.length) = some 4 := by decide +kernel
theorem yp_yX12_end : yX12_end.cls ≠ "java/lang/invoke/MethodHandle" ∧ yX12_end.cls ≠ "java/lang/invoke/VarHandle" ∧ (parseMethodDescriptor yX12_end.desc).map (fun d => d.parameters.length) = some 1 := by decide +kernel
theorem yp_yX12_fails : yX12_fails.cls ≠ "java/lang/invoke/MethodHandle" ∧ yX12_fails.cls ≠ "java/lang/invoke/VarHandle" ∧ (parseMethodDescriptor yX12_fails.desc).map (fun d => d.parameters.length) = some 1 := by decide +kernel
theorem yp_yX12_fault : yX12_fault.cls ≠ "java/lang/invoke/MethodHandle" ∧ yX12_fault.cls ≠ "java/lang/invoke/VarHandle" ∧ (parseMethodDescriptor yX12_fault.desc).map (fun d => d.parameters.length) = some 1 := by decide +kernel
theorem yp_yX12_feed : yX12_feed.cls ≠ "java/lang/invoke/MethodHandle" ∧ yX12_feed.cls ≠ "java/lang/invoke/VarHandle" ∧ (parseMethodDescriptor yX12_feed.desc).map (fun d => d.parameters.length) = some 5 := by decide +kernel
theorem yp_yX12_fewest : yX12_fewest.cls ≠ "java/lang/invoke/MethodHandle" ∧ yX12_fewest.cls ≠ "java/lang/invoke/VarHandle" ∧ (parseMethodDescriptor yX12_fewest.desc).map (fun d => d.parameters.length) = some 1 := by decide +kernel
theorem yp_yX12_four : yX12_four.cls ≠ "java/lang/invoke/MethodHandle" ∧ yX12_four.cls ≠ "java/lang/invoke/VarHandle" ∧ (parseMethodDescriptor yX12_four.desc).map (fun d => d.parameters.length) = some 1 := by decide +kernel
theorem yp_yX12_groupsOf : yX12_groupsOf.cls ≠ "java/lang/invoke/MethodHandle" ∧ yX12_groupsOf.cls ≠ "java/lang/invoke/VarHandle" ∧ (parseMethodDescriptor yX12_groupsOf.desc).map (fun d => d.parameters.length) = some 1 := by decide +kernel
theorem yp_yX12_grown : yX12_grown.cls ≠ "java/lang/invoke/MethodHandle" ∧ yX12_grown.cls ≠ "java/lang/invoke/VarHandle" ∧ (parseMethodDescriptor yX12_grown.desc).map (fun d => d.parameters.length) = some 2 := by decide +kernel
theorem yp_yX12_isCell : yX12_isCell.cls ≠ "java/lang/invoke/MethodHandle" ∧ yX12_isCell.cls ≠ "java/lang/invoke/VarHandle" ∧ (parseMethodDescriptor yX12_isCell.desc).map (fun d => d.parameters.length) = some 3 := by decide +kernel
theorem yp_yX12_isChosen : yX12_isChosen.cls ≠ "java/lang/invoke/MethodHandle" ∧ yX12_isChosen.cls ≠ "java/lang/invoke/VarHandle" ∧ (parseMethodDescriptor yX12_isChosen.desc).map (fun d => d.parameters.length) = some 3 := by decide +kernel
theorem yp_yX12_isEven : yX12_isEven.cls ≠ "java/lang/invoke/MethodHandle" ∧ yX12_isEven.cls ≠ "java/lang/invoke/VarHandle" ∧ (parseMethodDescriptor yX12_isEven.desc).map (fun d => d.parameters.length) = some 1 := by decide +kernel
theorem yp_yX12_isIn : yX12_isIn.cls ≠ "java/lang/invoke/MethodHandle" ∧ yX12_isIn.cls ≠ "java/lang/invoke/VarHandle" ∧ (parseMethodDescriptor yX12_isIn.desc).map (fun d => d.parameters.length) = some 3 := by decide +kernel
theorem yp_yX12_isJob : yX12_isJob.cls ≠ "java/lang/invoke/MethodHandle" ∧ yX12_isJob.cls ≠ "java/lang/invoke/VarHandle" ∧ (parseMethodDescriptor yX12_isJob.desc).map (fun d => d.parameters.length) = some 1 := by decide +kernel
theorem yp_yX12_isKept : yX12_isKept.cls ≠ "java/lang/invoke/MethodHandle" ∧ yX12_isKept.cls ≠ "java/lang/invoke/VarHandle" ∧ (parseMethodDescriptor yX12_isKept.desc).map (fun d => d.parameters.length) = some 1 := by decide +kernel
theorem yp_yX12_isKeptRow : yX12_isKeptRow.cls ≠ "java/lang/invoke/MethodHandle" ∧ yX12_isKeptRow.cls ≠ "java/lang/invoke/VarHandle" ∧ (parseMethodDescriptor yX12_isKeptRow.desc).map (fun d => d.parameters.length) = some 1 := by decide +kernel
theorem yp_yX12_isLeast : yX12_isLeast.cls ≠ "java/lang/invoke/MethodHandle" ∧ yX12_isLeast.cls ≠ "java/lang/invoke/VarHandle" ∧ (parseMethodDescriptor yX12_isLeast.desc).map (fun d => d.parameters.length) = some 1 := by decide +kernel
theorem yp_yX12_isLeft : yX12_isLeft.cls ≠ "java/lang/invoke/MethodHandle" ∧ yX12_isLeft.cls ≠ "java/lang/invoke/VarHandle" ∧ (parseMethodDescriptor yX12_isLeft.desc).map (fun d => d.parameters.length) = some 0 := by decide +kernel
theorem yp_yX12_isNumber : yX12_isNumber.cls ≠ "java/lang/invoke/MethodHandle" ∧ yX12_isNumber.cls ≠ "java/lang/invoke/VarHandle" ∧ (parseMethodDescriptor yX12_isNumber.desc).map (fun d => d.parameters.length) = some 0 := by decide +kernel
theorem yp_yX12_isOpen : yX12_isOpen.cls ≠ "java/lang/invoke/MethodHandle" ∧ yX12_isOpen.cls ≠ "java/lang/invoke/VarHandle" ∧ (parseMethodDescriptor yX12_isOpen.desc).map (fun d => d.parameters.length) = some 5 := by decide +kernel
theorem yp_yX12_isOver : yX12_isOver.cls ≠ "java/lang/invoke/MethodHandle" ∧ yX12_isOver.cls ≠ "java/lang/invoke/VarHandle" ∧ (parseMethodDescriptor yX12_isOver.desc).map (fun d => d.parameters.length) = some 1 := by decide +kernel
theorem yp_yX12_isPart : yX12_isPart.cls ≠ "java/lang/invoke/MethodHandle" ∧ yX12_isPart.cls ≠ "java/lang/invoke/VarHandle" ∧ (parseMethodDescriptor yX12_isPart.desc).map (fun d => d.parameters.length) = some 2 := by decide +kernel
theorem yp_yX12_isPartThere : yX12_isPartThere.cls ≠ "java/lang/invoke/MethodHandle" ∧ yX12_isPartThere.cls ≠ "java/lang/invoke/VarHandle" ∧ (parseMethodDescriptor yX12_isPartThere.desc).map (fun d => d.parameters.length) = some 1 := by decide +kernel
theorem yp_yX12_isRule : yX12_isRule.cls ≠ "java/lang/invoke/MethodHandle" ∧ yX12_isRule.cls ≠ "java/lang/invoke/VarHandle" ∧ (parseMethodDescriptor yX12_isRule.desc).map (fun d => d.parameters.length) = some 1 := by decide +kernel
theorem yp_yX12_isSlot : yX12_isSlot.cls ≠ "java/lang/invoke/MethodHandle" ∧ yX12_isSlot.cls ≠ "java/lang/invoke/VarHandle" ∧ (parseMethodDescriptor yX12_isSlot.desc).map (fun d => d.parameters.length) = some 1 := by decide +kernel
theorem yp_yX12_isSummed : yX12_isSummed.cls ≠ "java/lang/invoke/MethodHandle" ∧ yX12_isSummed.cls ≠ "java/lang/invoke/VarHandle" ∧ (parseMethodDescriptor yX12_isSummed.desc).map (fun d => d.parameters.length) = some 3 := by decide +kernel
theorem yp_yX12_isTable : yX12_isTable.cls ≠ "java/lang/invoke/MethodHandle" ∧ yX12_isTable.cls ≠ "java/lang/invoke/VarHandle" ∧ (parseMethodDescriptor yX12_isTable.desc).map (fun d => d.parameters.length) = some 1 := by decide +kernel
theorem yp_yX12_isWay : yX12_isWay.cls ≠ "java/lang/invoke/MethodHandle" ∧ yX12_isWay.cls ≠ "java/lang/invoke/VarHandle" ∧ (parseMethodDescriptor yX12_isWay.desc).map (fun d => d.parameters.length) = some 0 := by decide +kernel
theorem yp_yX12_job : yX12_job.cls ≠ "java/lang/invoke/MethodHandle" ∧ yX12_job.cls ≠ "java/lang/invoke/VarHandle" ∧ (parseMethodDescriptor yX12_job.desc).map (fun d => d.parameters.length) = some 2 := by decide +kernel
theorem yp_yX12_joined : yX12_joined.cls ≠ "java/lang/invoke/MethodHandle" ∧ yX12_joined.cls ≠ "java/lang/invoke/VarHandle" ∧ (parseMethodDescriptor yX12_joined.desc).map (fun d => d.parameters.length) = some 3 := by decide +kernel
theorem yp_yX12_joint : yX12_joint.cls ≠ "java/lang/invoke/MethodHandle" ∧ yX12_joint.cls ≠ "java/lang/invoke/VarHandle" ∧ (parseMethodDescriptor yX12_joint.desc).map (fun d => d.parameters.length) = some 5 := by decide +kernel
theorem yp_yX12_keepsAll : yX12_keepsAll.cls ≠ "java/lang/invoke/MethodHandle" ∧ yX12_keepsAll.cls ≠ "java/lang/invoke/VarHandle" ∧ (parseMethodDescriptor yX12_keepsAll.desc).map (fun d => d.parameters.length) = some 3 := by decide +kernel
theorem yp_yX12_kept : yX12_kept.cls ≠ "java/lang/invoke/MethodHandle" ∧ yX12_kept.cls ≠ "java/lang/invoke/VarHandle" ∧ (parseMethodDescriptor yX12_kept.desc).map (fun d => d.parameters.length) = some 1 := by decide +kernel
theorem yp_yX12_kin : yX12_kin.cls ≠ "java/lang/invoke/MethodHandle" ∧ yX12_kin.cls ≠ "java/lang/invoke/VarHandle" ∧ (parseMethodDescriptor yX12_kin.desc).map (fun d => d.parameters.length) = some 2 := by decide +kernel
theorem yp_yX12_lack : yX12_lack.cls ≠ "java/lang/invoke/MethodHandle" ∧ yX12_lack.cls ≠ "java/lang/invoke/VarHandle" ∧ (parseMethodDescriptor yX12_lack.desc).map (fun d => d.parameters.length) = some 3 := by decide +kernel
theorem yp_yX12_laysBounds : yX12_laysBounds.cls ≠ "java/lang/invoke/MethodHandle" ∧ yX12_laysBounds.cls ≠ "java/lang/invoke/VarHandle" ∧ (parseMethodDescriptor yX12_laysBounds.desc).map (fun d => d.parameters.length) = some 1 := by decide +kernel
theorem yp_yX12_laysCan : yX12_laysCan.cls ≠ "java/lang/invoke/MethodHandle" ∧ yX12_laysCan.cls ≠ "java/lang/invoke/VarHandle" ∧ (parseMethodDescriptor yX12_laysCan.desc).map (fun d => d.parameters.length) = some 2 := by decide +kernel
theorem yp_yX12_lies : yX12_lies.cls ≠ "java/lang/invoke/MethodHandle" ∧ yX12_lies.cls ≠ "java/lang/invoke/VarHandle" ∧ (parseMethodDescriptor yX12_lies.desc).map (fun d => d.parameters.length) = some 3 := by decide +kernel
theorem yp_yX12_look : yX12_look.cls ≠ "java/lang/invoke/MethodHandle" ∧ yX12_look.cls ≠ "java/lang/invoke/VarHandle" ∧ (parseMethodDescriptor yX12_look.desc).map (fun d => d.parameters.length) = some 2 := by decide +kernel
theorem yp_yX12_mix : yX12_mix.cls ≠ "java/lang/invoke/MethodHandle" ∧ yX12_mix.cls ≠ "java/lang/invoke/VarHandle" ∧ (parseMethodDescriptor yX12_mix.desc).map (fun d => d.parameters.length) = some 7 := by decide +kernel
theorem yp_yX12_mixing : yX12_mixing.cls ≠ "java/lang/invoke/MethodHandle" ∧ yX12_mixing.cls ≠ "java/lang/invoke/VarHandle" ∧ (parseMethodDescriptor yX12_mixing.desc).map (fun d => d.parameters.length) = some 1 := by decide +kernel
theorem yp_yX12_most : yX12_most.cls ≠ "java/lang/invoke/MethodHandle" ∧ yX12_most.cls ≠ "java/lang/invoke/VarHandle" ∧ (parseMethodDescriptor yX12_most.desc).map (fun d => d.parameters.length) = some 2 := by decide +kernel
theorem yp_yX12_next : yX12_next.cls ≠ "java/lang/invoke/MethodHandle" ∧ yX12_next.cls ≠ "java/lang/invoke/VarHandle" ∧ (parseMethodDescriptor yX12_next.desc).map (fun d => d.parameters.length) = some 0 := by decide +kernel
theorem yp_yX12_one : yX12_one.cls ≠ "java/lang/invoke/MethodHandle" ∧ yX12_one.cls ≠ "java/lang/invoke/VarHandle" ∧ (parseMethodDescriptor yX12_one.desc).map (fun d => d.parameters.length) = some 1 := by decide +kernel
theorem yp_yX12_out : yX12_out.cls ≠ "java/lang/invoke/MethodHandle" ∧ yX12_out.cls ≠ "java/lang/invoke/VarHandle" ∧ (parseMethodDescriptor yX12_out.desc).map (fun d => d.parameters.length) = some 1 := by decide +kernel
theorem yp_yX12_paired : yX12_paired.cls ≠ "java/lang/invoke/MethodHandle" ∧ yX12_paired.cls ≠ "java/lang/invoke/VarHandle" ∧ (parseMethodDescriptor yX12_paired.desc).map (fun d => d.parameters.length) = some 3 := by decide +kernel
theorem yp_yX12_part : yX12_part.cls ≠ "java/lang/invoke/MethodHandle" ∧ yX12_part.cls ≠ "java/lang/invoke/VarHandle" ∧ (parseMethodDescriptor yX12_part.desc).map (fun d => d.parameters.length) = some 2 := by decide +kernel
theorem yp_yX12_peel : yX12_peel.cls ≠ "java/lang/invoke/MethodHandle" ∧ yX12_peel.cls ≠ "java/lang/invoke/VarHandle" ∧ (parseMethodDescriptor yX12_peel.desc).map (fun d => d.parameters.length) = some 2 := by decide +kernel
theorem yp_yX12_peels : yX12_peels.cls ≠ "java/lang/invoke/MethodHandle" ∧ yX12_peels.cls ≠ "java/lang/invoke/VarHandle" ∧ (parseMethodDescriptor yX12_peels.desc).map (fun d => d.parameters.length) = some 1 := by decide +kernel
theorem yp_yX12_permanent : yX12_permanent.cls ≠ "java/lang/invoke/MethodHandle" ∧ yX12_permanent.cls ≠ "java/lang/invoke/VarHandle" ∧ (parseMethodDescriptor yX12_permanent.desc).map (fun d => d.parameters.length) = some 1 := by decide +kernel
theorem yp_yX12_readFraction : yX12_readFraction.cls ≠ "java/lang/invoke/MethodHandle" ∧ yX12_readFraction.cls ≠ "java/lang/invoke/VarHandle" ∧ (parseMethodDescriptor yX12_readFraction.desc).map (fun d => d.parameters.length) = some 1 := by decide +kernel
theorem yp_yX12_readRow : yX12_readRow.cls ≠ "java/lang/invoke/MethodHandle" ∧ yX12_readRow.cls ≠ "java/lang/invoke/VarHandle" ∧ (parseMethodDescriptor yX12_readRow.desc).map (fun d => d.parameters.length) = some 0 := by decide +kernel
theorem yp_yX12_rounded : yX12_rounded.cls ≠ "java/lang/invoke/MethodHandle" ∧ yX12_rounded.cls ≠ "java/lang/invoke/VarHandle" ∧ (parseMethodDescriptor yX12_rounded.desc).map (fun d => d.parameters.length) = some 3 := by decide +kernel
theorem yp_yX12_rowOf : yX12_rowOf.cls ≠ "java/lang/invoke/MethodHandle" ∧ yX12_rowOf.cls ≠ "java/lang/invoke/VarHandle" ∧ (parseMethodDescriptor yX12_rowOf.desc).map (fun d => d.parameters.length) = some 2 := by decide +kernel
theorem yp_yX12_ruleOf : yX12_ruleOf.cls ≠ "java/lang/invoke/MethodHandle" ∧ yX12_ruleOf.cls ≠ "java/lang/invoke/VarHandle" ∧ (parseMethodDescriptor yX12_ruleOf.desc).map (fun d => d.parameters.length) = some 2 := by decide +kernel
theorem yp_yX12_says : yX12_says.cls ≠ "java/lang/invoke/MethodHandle" ∧ yX12_says.cls ≠ "java/lang/invoke/VarHandle" ∧ (parseMethodDescriptor yX12_says.desc).map (fun d => d.parameters.length) = some 1 := by decide +kernel
theorem yp_yX12_see : yX12_see.cls ≠ "java/lang/invoke/MethodHandle" ∧ yX12_see.cls ≠ "java/lang/invoke/VarHandle" ∧ (parseMethodDescriptor yX12_see.desc).map (fun d => d.parameters.length) = some 1 := by decide +kernel
theorem yp_yX12_shop : yX12_shop.cls ≠ "java/lang/invoke/MethodHandle" ∧ yX12_shop.cls ≠ "java/lang/invoke/VarHandle" ∧ (parseMethodDescriptor yX12_shop.desc).map (fun d => d.parameters.length) = some 2 := by decide +kernel
theorem yp_yX12_show : yX12_show.cls ≠ "java/lang/invoke/MethodHandle" ∧ yX12_show.cls ≠ "java/lang/invoke/VarHandle" ∧ (parseMethodDescriptor yX12_show.desc).map (fun d => d.parameters.length) = some 0 := by decide +kernel
theorem yp_yX12_sought : yX12_sought.cls ≠ "java/lang/invoke/MethodHandle" ∧ yX12_sought.cls ≠ "java/lang/invoke/VarHandle" ∧ (parseMethodDescriptor yX12_sought.desc).map (fun d => d.parameters.length) = some 2 := by decide +kernel
theorem yp_yX12_table : yX12_table.cls ≠ "java/lang/invoke/MethodHandle" ∧ yX12_table.cls ≠ "java/lang/invoke/VarHandle" ∧ (parseMethodDescriptor yX12_table.desc).map (fun d => d.parameters.length) = some 1 := by decide +kernel
theorem yp_yX12_takes : yX12_takes.cls ≠ "java/lang/invoke/MethodHandle" ∧ yX12_takes.cls ≠ "java/lang/invoke/VarHandle" ∧ (parseMethodDescriptor yX12_takes.desc).map (fun d => d.parameters.length) = some 2 := by decide +kernel
theorem yp_yX12_times : yX12_times.cls ≠ "java/lang/invoke/MethodHandle" ∧ yX12_times.cls ≠ "java/lang/invoke/VarHandle" ∧ (parseMethodDescriptor yX12_times.desc).map (fun d => d.parameters.length) = some 3 := by decide +kernel
theorem yp_yX12_together : yX12_together.cls ≠ "java/lang/invoke/MethodHandle" ∧ yX12_together.cls ≠ "java/lang/invoke/VarHandle" ∧ (parseMethodDescriptor yX12_together.desc).map (fun d => d.parameters.length) = some 2 := by decide +kernel
theorem yp_yX12_turn : yX12_turn.cls ≠ "java/lang/invoke/MethodHandle" ∧ yX12_turn.cls ≠ "java/lang/invoke/VarHandle" ∧ (parseMethodDescriptor yX12_turn.desc).map (fun d => d.parameters.length) = some 4 := by decide +kernel
theorem yp_yX12_uneven : yX12_uneven.cls ≠ "java/lang/invoke/MethodHandle" ∧ yX12_uneven.cls ≠ "java/lang/invoke/VarHandle" ∧ (parseMethodDescriptor yX12_uneven.desc).map (fun d => d.parameters.length) = some 1 := by decide +kernel
theorem yp_yX12_up : yX12_up.cls ≠ "java/lang/invoke/MethodHandle" ∧ yX12_up.cls ≠ "java/lang/invoke/VarHandle" ∧ (parseMethodDescriptor yX12_up.desc).map (fun d => d.parameters.length) = some 2 := by decide +kernel
theorem yp_yX12_ways : yX12_ways.cls ≠ "java/lang/invoke/MethodHandle" ∧ yX12_ways.cls ≠ "java/lang/invoke/VarHandle" ∧ (parseMethodDescriptor yX12_ways.desc).map (fun d => d.parameters.length) = some 2 := by decide +kernel
theorem yp_yX12_weight : yX12_weight.cls ≠ "java/lang/invoke/MethodHandle" ∧ yX12_weight.cls ≠ "java/lang/invoke/VarHandle" ∧ (parseMethodDescriptor yX12_weight.desc).map (fun d => d.parameters.length) = some 2 := by decide +kernel
theorem yp_yX12_widest : yX12_widest.cls ≠ "java/lang/invoke/MethodHandle" ∧ yX12_widest.cls ≠ "java/lang/invoke/VarHandle" ∧ (parseMethodDescriptor yX12_widest.desc).map (fun d => d.parameters.length) = some 1 := by decide +kernel
theorem yp_yX12_worked : yX12_worked.cls ≠ "java/lang/invoke/MethodHandle" ∧ yX12_worked.cls ≠ "java/lang/invoke/VarHandle" ∧ (parseMethodDescriptor yX12_worked.desc).map (fun d => d.parameters.length) = some 2 := by decide +kernel
theorem yp_yX12_works : yX12_works.cls ≠ "java/lang/invoke/MethodHandle" ∧ yX12_works.cls ≠ "java/lang/invoke/VarHandle" ∧ (parseMethodDescriptor yX12_works.desc).map (fun d => d.parameters.length) = some 2 := by decide +kernel
theorem yp_yX12_worksOn : yX12_worksOn.cls ≠ "java/lang/invoke/MethodHandle" ∧ yX12_worksOn.cls ≠ "java/lang/invoke/VarHandle" ∧ (parseMethodDescriptor yX12_worksOn.desc).map (fun d => d.parameters.length) = some 1 := by decide +kernel
theorem yp_yX1_columnsOf : yX1_columnsOf.cls ≠ "java/lang/invoke/MethodHandle" ∧ yX1_columnsOf.cls ≠ "java/lang/invoke/VarHandle" ∧ (parseMethodDescriptor yX1_columnsOf.desc).map (fun d => d.parameters.length) = some 3 := by decide +kernel
theorem yp_yX1_countGroups : yX1_countGroups.cls ≠ "java/lang/invoke/MethodHandle" ∧ yX1_countGroups.cls ≠ "java/lang/invoke/VarHandle" ∧ (parseMethodDescriptor yX1_countGroups.desc).map (fun d => d.parameters.length) = some 2 := by decide +kernel
theorem yp_yX1_groupOf : yX1_groupOf.cls ≠ "java/lang/invoke/MethodHandle" ∧ yX1_groupOf.cls ≠ "java/lang/invoke/VarHandle" ∧ (parseMethodDescriptor yX1_groupOf.desc).map (fun d => d.parameters.length) = some 3 := by decide +kernel
theorem yp_yX1_kinOf : yX1_kinOf.cls ≠ "java/lang/invoke/MethodHandle" ∧ yX1_kinOf.cls ≠ "java/lang/invoke/VarHandle" ∧ (parseMethodDescriptor yX1_kinOf.desc).map (fun d => d.parameters.length) = some 3 := by decide +kernel
theorem yp_yX1_leastFullPower : yX1_leastFullPower.cls ≠ "java/lang/invoke/MethodHandle" ∧ yX1_leastFullPower.cls ≠ "java/lang/invoke/VarHandle" ∧ (parseMethodDescriptor yX1_leastFullPower.desc).map (fun d => d.parameters.length) = some 3 := by decide +kernel
theorem yp_yX1_of : yX1_of.cls ≠ "java/lang/invoke/MethodHandle" ∧ yX1_of.cls ≠ "java/lang/invoke/VarHandle" ∧ (parseMethodDescriptor yX1_of.desc).map (fun d => d.parameters.length) = some 3 := by decide +kernel
theorem yp_yX1_product : yX1_product.cls ≠ "java/lang/invoke/MethodHandle" ∧ yX1_product.cls ≠ "java/lang/invoke/VarHandle" ∧ (parseMethodDescriptor yX1_product.desc).map (fun d => d.parameters.length) = some 3 := by decide +kernel
theorem yp_yX1_reachedFrom : yX1_reachedFrom.cls ≠ "java/lang/invoke/MethodHandle" ∧ yX1_reachedFrom.cls ≠ "java/lang/invoke/VarHandle" ∧ (parseMethodDescriptor yX1_reachedFrom.desc).map (fun d => d.parameters.length) = some 3 := by decide +kernel
theorem yp_yX1_rowOf : yX1_rowOf.cls ≠ "java/lang/invoke/MethodHandle" ∧ yX1_rowOf.cls ≠ "java/lang/invoke/VarHandle" ∧ (parseMethodDescriptor yX1_rowOf.desc).map (fun d => d.parameters.length) = some 2 := by decide +kernel
theorem yp_yX1_rowsMostLacking : yX1_rowsMostLacking.cls ≠ "java/lang/invoke/MethodHandle" ∧ yX1_rowsMostLacking.cls ≠ "java/lang/invoke/VarHandle" ∧ (parseMethodDescriptor yX1_rowsMostLacking.desc).map (fun d => d.parameters.length) = some 2 := by decide +kernel
theorem yp_yX1_rowsOf : yX1_rowsOf.cls ≠ "java/lang/invoke/MethodHandle" ∧ yX1_rowsOf.cls ≠ "java/lang/invoke/VarHandle" ∧ (parseMethodDescriptor yX1_rowsOf.desc).map (fun d => d.parameters.length) = some 3 := by decide +kernel
theorem yp_yX1_through : yX1_through.cls ≠ "java/lang/invoke/MethodHandle" ∧ yX1_through.cls ≠ "java/lang/invoke/VarHandle" ∧ (parseMethodDescriptor yX1_through.desc).map (fun d => d.parameters.length) = some 3 := by decide +kernel
theorem yp_yX2_areCells : yX2_areCells.cls ≠ "java/lang/invoke/MethodHandle" ∧ yX2_areCells.cls ≠ "java/lang/invoke/VarHandle" ∧ (parseMethodDescriptor yX2_areCells.desc).map (fun d => d.parameters.length) = some 2 := by decide +kernel
theorem yp_yX2_bring : yX2_bring.cls ≠ "java/lang/invoke/MethodHandle" ∧ yX2_bring.cls ≠ "java/lang/invoke/VarHandle" ∧ (parseMethodDescriptor yX2_bring.desc).map (fun d => d.parameters.length) = some 3 := by decide +kernel
theorem yp_yX2_makeMixture : yX2_makeMixture.cls ≠ "java/lang/invoke/MethodHandle" ∧ yX2_makeMixture.cls ≠ "java/lang/invoke/VarHandle" ∧ (parseMethodDescriptor yX2_makeMixture.desc).map (fun d => d.parameters.length) = some 7 := by decide +kernel
theorem yp_yX2_makeProduct : yX2_makeProduct.cls ≠ "java/lang/invoke/MethodHandle" ∧ yX2_makeProduct.cls ≠ "java/lang/invoke/VarHandle" ∧ (parseMethodDescriptor yX2_makeProduct.desc).map (fun d => d.parameters.length) = some 3 := by decide +kernel
theorem yp_yX2_makeTurned : yX2_makeTurned.cls ≠ "java/lang/invoke/MethodHandle" ∧ yX2_makeTurned.cls ≠ "java/lang/invoke/VarHandle" ∧ (parseMethodDescriptor yX2_makeTurned.desc).map (fun d => d.parameters.length) = some 4 := by decide +kernel
theorem yp_yX2_multiplied : yX2_multiplied.cls ≠ "java/lang/invoke/MethodHandle" ∧ yX2_multiplied.cls ≠ "java/lang/invoke/VarHandle" ∧ (parseMethodDescriptor yX2_multiplied.desc).map (fun d => d.parameters.length) = some 2 := by decide +kernel
theorem yp_yX2_sharedDivisor : yX2_sharedDivisor.cls ≠ "java/lang/invoke/MethodHandle" ∧ yX2_sharedDivisor.cls ≠ "java/lang/invoke/VarHandle" ∧ (parseMethodDescriptor yX2_sharedDivisor.desc).map (fun d => d.parameters.length) = some 2 := by decide +kernel
theorem yp_yX2_turnedFrom : yX2_turnedFrom.cls ≠ "java/lang/invoke/MethodHandle" ∧ yX2_turnedFrom.cls ≠ "java/lang/invoke/VarHandle" ∧ (parseMethodDescriptor yX2_turnedFrom.desc).map (fun d => d.parameters.length) = some 5 := by decide +kernel
theorem yp_yX3_add : yX3_add.cls ≠ "java/lang/invoke/MethodHandle" ∧ yX3_add.cls ≠ "java/lang/invoke/VarHandle" ∧ (parseMethodDescriptor yX3_add.desc).map (fun d => d.parameters.length) = some 2 := by decide +kernel
theorem yp_yX3_columnOf : yX3_columnOf.cls ≠ "java/lang/invoke/MethodHandle" ∧ yX3_columnOf.cls ≠ "java/lang/invoke/VarHandle" ∧ (parseMethodDescriptor yX3_columnOf.desc).map (fun d => d.parameters.length) = some 2 := by decide +kernel
theorem yp_yX3_commonestColumn : yX3_commonestColumn.cls ≠ "java/lang/invoke/MethodHandle" ∧ yX3_commonestColumn.cls ≠ "java/lang/invoke/VarHandle" ∧ (parseMethodDescriptor yX3_commonestColumn.desc).map (fun d => d.parameters.length) = some 1 := by decide +kernel
theorem yp_yX3_countColumns : yX3_countColumns.cls ≠ "java/lang/invoke/MethodHandle" ∧ yX3_countColumns.cls ≠ "java/lang/invoke/VarHandle" ∧ (parseMethodDescriptor yX3_countColumns.desc).map (fun d => d.parameters.length) = some 1 := by decide +kernel
theorem yp_yX3_countMoves : yX3_countMoves.cls ≠ "java/lang/invoke/MethodHandle" ∧ yX3_countMoves.cls ≠ "java/lang/invoke/VarHandle" ∧ (parseMethodDescriptor yX3_countMoves.desc).map (fun d => d.parameters.length) = some 1 := by decide +kernel
theorem yp_yX3_countPieces : yX3_countPieces.cls ≠ "java/lang/invoke/MethodHandle" ∧ yX3_countPieces.cls ≠ "java/lang/invoke/VarHandle" ∧ (parseMethodDescriptor yX3_countPieces.desc).map (fun d => d.parameters.length) = some 1 := by decide +kernel
theorem yp_yX3_hasJob : yX3_hasJob.cls ≠ "java/lang/invoke/MethodHandle" ∧ yX3_hasJob.cls ≠ "java/lang/invoke/VarHandle" ∧ (parseMethodDescriptor yX3_hasJob.desc).map (fun d => d.parameters.length) = some 1 := by decide +kernel
theorem yp_yX3_hasPart : yX3_hasPart.cls ≠ "java/lang/invoke/MethodHandle" ∧ yX3_hasPart.cls ≠ "java/lang/invoke/VarHandle" ∧ (parseMethodDescriptor yX3_hasPart.desc).map (fun d => d.parameters.length) = some 1 := by decide +kernel
theorem yp_yX3_hasRow : yX3_hasRow.cls ≠ "java/lang/invoke/MethodHandle" ∧ yX3_hasRow.cls ≠ "java/lang/invoke/VarHandle" ∧ (parseMethodDescriptor yX3_hasRow.desc).map (fun d => d.parameters.length) = some 1 := by decide +kernel
theorem yp_yX3_inLeastTerms : yX3_inLeastTerms.cls ≠ "java/lang/invoke/MethodHandle" ∧ yX3_inLeastTerms.cls ≠ "java/lang/invoke/VarHandle" ∧ (parseMethodDescriptor yX3_inLeastTerms.desc).map (fun d => d.parameters.length) = some 2 := by decide +kernel
theorem yp_yX3_lastHour : yX3_lastHour.cls ≠ "java/lang/invoke/MethodHandle" ∧ yX3_lastHour.cls ≠ "java/lang/invoke/VarHandle" ∧ (parseMethodDescriptor yX3_lastHour.desc).map (fun d => d.parameters.length) = some 1 := by decide +kernel
theorem yp_yX3_machineOf : yX3_machineOf.cls ≠ "java/lang/invoke/MethodHandle" ∧ yX3_machineOf.cls ≠ "java/lang/invoke/VarHandle" ∧ (parseMethodDescriptor yX3_machineOf.desc).map (fun d => d.parameters.length) = some 2 := by decide +kernel
theorem yp_yX3_partAt : yX3_partAt.cls ≠ "java/lang/invoke/MethodHandle" ∧ yX3_partAt.cls ≠ "java/lang/invoke/VarHandle" ∧ (parseMethodDescriptor yX3_partAt.desc).map (fun d => d.parameters.length) = some 1 := by decide +kernel
theorem yp_yX3_start : yX3_start.cls ≠ "java/lang/invoke/MethodHandle" ∧ yX3_start.cls ≠ "java/lang/invoke/VarHandle" ∧ (parseMethodDescriptor yX3_start.desc).map (fun d => d.parameters.length) = some 4 := by decide +kernel
theorem yp_yX3_weightOf : yX3_weightOf.cls ≠ "java/lang/invoke/MethodHandle" ∧ yX3_weightOf.cls ≠ "java/lang/invoke/VarHandle" ∧ (parseMethodDescriptor yX3_weightOf.desc).map (fun d => d.parameters.length) = some 2 := by decide +kernel
theorem yp_yX3_weightOfBoth : yX3_weightOfBoth.cls ≠ "java/lang/invoke/MethodHandle" ∧ yX3_weightOfBoth.cls ≠ "java/lang/invoke/VarHandle" ∧ (parseMethodDescriptor yX3_weightOfBoth.desc).map (fun d => d.parameters.length) = some 4 := by decide +kernel
theorem yp_yX4_greatestDivisor : yX4_greatestDivisor.cls ≠ "java/lang/invoke/MethodHandle" ∧ yX4_greatestDivisor.cls ≠ "java/lang/invoke/VarHandle" ∧ (parseMethodDescriptor yX4_greatestDivisor.desc).map (fun d => d.parameters.length) = some 2 := by decide +kernel
theorem yp_yX4_leastMultiple : yX4_leastMultiple.cls ≠ "java/lang/invoke/MethodHandle" ∧ yX4_leastMultiple.cls ≠ "java/lang/invoke/VarHandle" ∧ (parseMethodDescriptor yX4_leastMultiple.desc).map (fun d => d.parameters.length) = some 3 := by decide +kernel
theorem yp_yX5_choiceNumber : yX5_choiceNumber.cls ≠ "java/lang/invoke/MethodHandle" ∧ yX5_choiceNumber.cls ≠ "java/lang/invoke/VarHandle" ∧ (parseMethodDescriptor yX5_choiceNumber.desc).map (fun d => d.parameters.length) = some 0 := by decide +kernel
theorem yp_yX5_choose : yX5_choose.cls ≠ "java/lang/invoke/MethodHandle" ∧ yX5_choose.cls ≠ "java/lang/invoke/VarHandle" ∧ (parseMethodDescriptor yX5_choose.desc).map (fun d => d.parameters.length) = some 1 := by decide +kernel
theorem yp_yX5_leastPlace : yX5_leastPlace.cls ≠ "java/lang/invoke/MethodHandle" ∧ yX5_leastPlace.cls ≠ "java/lang/invoke/VarHandle" ∧ (parseMethodDescriptor yX5_leastPlace.desc).map (fun d => d.parameters.length) = some 0 := by decide +kernel
theorem yp_yX5_startLike : yX5_startLike.cls ≠ "java/lang/invoke/MethodHandle" ∧ yX5_startLike.cls ≠ "java/lang/invoke/VarHandle" ∧ (parseMethodDescriptor yX5_startLike.desc).map (fun d => d.parameters.length) = some 1 := by decide +kernel
theorem yp_yX5_startShop : yX5_startShop.cls ≠ "java/lang/invoke/MethodHandle" ∧ yX5_startShop.cls ≠ "java/lang/invoke/VarHandle" ∧ (parseMethodDescriptor yX5_startShop.desc).map (fun d => d.parameters.length) = some 1 := by decide +kernel
theorem yp_yX5_startTable : yX5_startTable.cls ≠ "java/lang/invoke/MethodHandle" ∧ yX5_startTable.cls ≠ "java/lang/invoke/VarHandle" ∧ (parseMethodDescriptor yX5_startTable.desc).map (fun d => d.parameters.length) = some 1 := by decide +kernel
theorem yp_yX5_takePart : yX5_takePart.cls ≠ "java/lang/invoke/MethodHandle" ∧ yX5_takePart.cls ≠ "java/lang/invoke/VarHandle" ∧ (parseMethodDescriptor yX5_takePart.desc).map (fun d => d.parameters.length) = some 1 := by decide +kernel
theorem yp_yX6_findWay : yX6_findWay.cls ≠ "java/lang/invoke/MethodHandle" ∧ yX6_findWay.cls ≠ "java/lang/invoke/VarHandle" ∧ (parseMethodDescriptor yX6_findWay.desc).map (fun d => d.parameters.length) = some 2 := by decide +kernel
theorem yp_yX6_flowAlong : yX6_flowAlong.cls ≠ "java/lang/invoke/MethodHandle" ∧ yX6_flowAlong.cls ≠ "java/lang/invoke/VarHandle" ∧ (parseMethodDescriptor yX6_flowAlong.desc).map (fun d => d.parameters.length) = some 2 := by decide +kernel
theorem yp_yX6_isOpen : yX6_isOpen.cls ≠ "java/lang/invoke/MethodHandle" ∧ yX6_isOpen.cls ≠ "java/lang/invoke/VarHandle" ∧ (parseMethodDescriptor yX6_isOpen.desc).map (fun d => d.parameters.length) = some 2 := by decide +kernel
theorem yp_yX6_lay : yX6_lay.cls ≠ "java/lang/invoke/MethodHandle" ∧ yX6_lay.cls ≠ "java/lang/invoke/VarHandle" ∧ (parseMethodDescriptor yX6_lay.desc).map (fun d => d.parameters.length) = some 1 := by decide +kernel
theorem yp_yX6_lessen : yX6_lessen.cls ≠ "java/lang/invoke/MethodHandle" ∧ yX6_lessen.cls ≠ "java/lang/invoke/VarHandle" ∧ (parseMethodDescriptor yX6_lessen.desc).map (fun d => d.parameters.length) = some 1 := by decide +kernel
theorem yp_yX6_meetLow : yX6_meetLow.cls ≠ "java/lang/invoke/MethodHandle" ∧ yX6_meetLow.cls ≠ "java/lang/invoke/VarHandle" ∧ (parseMethodDescriptor yX6_meetLow.desc).map (fun d => d.parameters.length) = some 2 := by decide +kernel
theorem yp_yX6_meetLows : yX6_meetLows.cls ≠ "java/lang/invoke/MethodHandle" ∧ yX6_meetLows.cls ≠ "java/lang/invoke/VarHandle" ∧ (parseMethodDescriptor yX6_meetLows.desc).map (fun d => d.parameters.length) = some 1 := by decide +kernel
theorem yp_yX6_round : yX6_round.cls ≠ "java/lang/invoke/MethodHandle" ∧ yX6_round.cls ≠ "java/lang/invoke/VarHandle" ∧ (parseMethodDescriptor yX6_round.desc).map (fun d => d.parameters.length) = some 1 := by decide +kernel
theorem yp_yX6_setBounds : yX6_setBounds.cls ≠ "java/lang/invoke/MethodHandle" ∧ yX6_setBounds.cls ≠ "java/lang/invoke/VarHandle" ∧ (parseMethodDescriptor yX6_setBounds.desc).map (fun d => d.parameters.length) = some 4 := by decide +kernel
theorem yp_yX7_addWeight : yX7_addWeight.cls ≠ "java/lang/invoke/MethodHandle" ∧ yX7_addWeight.cls ≠ "java/lang/invoke/VarHandle" ∧ (parseMethodDescriptor yX7_addWeight.desc).map (fun d => d.parameters.length) = some 1 := by decide +kernel
theorem yp_yX7_countAbove : yX7_countAbove.cls ≠ "java/lang/invoke/MethodHandle" ∧ yX7_countAbove.cls ≠ "java/lang/invoke/VarHandle" ∧ (parseMethodDescriptor yX7_countAbove.desc).map (fun d => d.parameters.length) = some 2 := by decide +kernel
theorem yp_yX7_countFewest : yX7_countFewest.cls ≠ "java/lang/invoke/MethodHandle" ∧ yX7_countFewest.cls ≠ "java/lang/invoke/VarHandle" ∧ (parseMethodDescriptor yX7_countFewest.desc).map (fun d => d.parameters.length) = some 1 := by decide +kernel
theorem yp_yX7_finish : yX7_finish.cls ≠ "java/lang/invoke/MethodHandle" ∧ yX7_finish.cls ≠ "java/lang/invoke/VarHandle" ∧ (parseMethodDescriptor yX7_finish.desc).map (fun d => d.parameters.length) = some 2 := by decide +kernel
theorem yp_yX7_isNewStep : yX7_isNewStep.cls ≠ "java/lang/invoke/MethodHandle" ∧ yX7_isNewStep.cls ≠ "java/lang/invoke/VarHandle" ∧ (parseMethodDescriptor yX7_isNewStep.desc).map (fun d => d.parameters.length) = some 2 := by decide +kernel
theorem yp_yX7_leastOf : yX7_leastOf.cls ≠ "java/lang/invoke/MethodHandle" ∧ yX7_leastOf.cls ≠ "java/lang/invoke/VarHandle" ∧ (parseMethodDescriptor yX7_leastOf.desc).map (fun d => d.parameters.length) = some 1 := by decide +kernel
theorem yp_yX7_seek : yX7_seek.cls ≠ "java/lang/invoke/MethodHandle" ∧ yX7_seek.cls ≠ "java/lang/invoke/VarHandle" ∧ (parseMethodDescriptor yX7_seek.desc).map (fun d => d.parameters.length) = some 1 := by decide +kernel
theorem yp_yX8_put : yX8_put.cls ≠ "java/lang/invoke/MethodHandle" ∧ yX8_put.cls ≠ "java/lang/invoke/VarHandle" ∧ (parseMethodDescriptor yX8_put.desc).map (fun d => d.parameters.length) = some 1 := by decide +kernel
theorem yp_yX8_putNumber : yX8_putNumber.cls ≠ "java/lang/invoke/MethodHandle" ∧ yX8_putNumber.cls ≠ "java/lang/invoke/VarHandle" ∧ (parseMethodDescriptor yX8_putNumber.desc).map (fun d => d.parameters.length) = some 1 := by decide +kernel
theorem yp_yX8_write : yX8_write.cls ≠ "java/lang/invoke/MethodHandle" ∧ yX8_write.cls ≠ "java/lang/invoke/VarHandle" ∧ (parseMethodDescriptor yX8_write.desc).map (fun d => d.parameters.length) = some 1 := by decide +kernel
theorem yp_yX9_countAbove0 : yX9_countAbove0.cls ≠ "java/lang/invoke/MethodHandle" ∧ yX9_countAbove0.cls ≠ "java/lang/invoke/VarHandle" ∧ (parseMethodDescriptor yX9_countAbove0.desc).map (fun d => d.parameters.length) = some 0 := by decide +kernel
theorem yp_yX9_firstUneven : yX9_firstUneven.cls ≠ "java/lang/invoke/MethodHandle" ∧ yX9_firstUneven.cls ≠ "java/lang/invoke/VarHandle" ∧ (parseMethodDescriptor yX9_firstUneven.desc).map (fun d => d.parameters.length) = some 0 := by decide +kernel
theorem yp_yX9_greatestCell : yX9_greatestCell.cls ≠ "java/lang/invoke/MethodHandle" ∧ yX9_greatestCell.cls ≠ "java/lang/invoke/VarHandle" ∧ (parseMethodDescriptor yX9_greatestCell.desc).map (fun d => d.parameters.length) = some 0 := by decide +kernel
theorem yp_yX9_greatestSum : yX9_greatestSum.cls ≠ "java/lang/invoke/MethodHandle" ∧ yX9_greatestSum.cls ≠ "java/lang/invoke/VarHandle" ∧ (parseMethodDescriptor yX9_greatestSum.desc).map (fun d => d.parameters.length) = some 0 := by decide +kernel
theorem yp_yX9_has : yX9_has.cls ≠ "java/lang/invoke/MethodHandle" ∧ yX9_has.cls ≠ "java/lang/invoke/VarHandle" ∧ (parseMethodDescriptor yX9_has.desc).map (fun d => d.parameters.length) = some 1 := by decide +kernel
theorem yp_yX9_joinedBy : yX9_joinedBy.cls ≠ "java/lang/invoke/MethodHandle" ∧ yX9_joinedBy.cls ≠ "java/lang/invoke/VarHandle" ∧ (parseMethodDescriptor yX9_joinedBy.desc).map (fun d => d.parameters.length) = some 1 := by decide +kernel
theorem yp_yX9_settle : yX9_settle.cls ≠ "java/lang/invoke/MethodHandle" ∧ yX9_settle.cls ≠ "java/lang/invoke/VarHandle" ∧ (parseMethodDescriptor yX9_settle.desc).map (fun d => d.parameters.length) = some 2 := by decide +kernel
theorem yp_yX9_sumOfColumn : yX9_sumOfColumn.cls ≠ "java/lang/invoke/MethodHandle" ∧ yX9_sumOfColumn.cls ≠ "java/lang/invoke/VarHandle" ∧ (parseMethodDescriptor yX9_sumOfColumn.desc).map (fun d => d.parameters.length) = some 1 := by decide +kernel
theorem yp_yX9_sumOfRow : yX9_sumOfRow.cls ≠ "java/lang/invoke/MethodHandle" ∧ yX9_sumOfRow.cls ≠ "java/lang/invoke/VarHandle" ∧ (parseMethodDescriptor yX9_sumOfRow.desc).map (fun d => d.parameters.length) = some 1 := by decide +kernel
theorem ml_L_13 : eLkV RL 13 yX11_feed 5 := ⟨(wd2 78 rfl rfl), (wd1 1 rfl rfl), (wd2 79 rfl rfl), (wd2 80 rfl rfl), yp_yX11_feed.1, yp_yX11_feed.2.1, yp_yX11_feed.2.2⟩
theorem ml_L_17 : eLkV RL 17 yX12_feed 5 := ⟨(wd5 149 rfl rfl), (wd1 11 rfl rfl), (wd5 150 rfl rfl), (wd5 151 rfl rfl), yp_yX12_feed.1, yp_yX12_feed.2.1, yp_yX12_feed.2.2⟩
theorem ml_L_18 : eLkV RL 18 yX11_end 1 := ⟨(wd2 90 rfl rfl), (wd1 1 rfl rfl), (wd2 91 rfl rfl), (wd2 92 rfl rfl), yp_yX11_end.1, yp_yX11_end.2.1, yp_yX11_end.2.2⟩
theorem ml_L_22 : eLkV RL 22 yX12_end 1 := ⟨(wd5 157 rfl rfl), (wd1 11 rfl rfl), (wd5 158 rfl rfl), (wd5 159 rfl rfl), yp_yX12_end.1, yp_yX12_end.2.1, yp_yX12_end.2.2⟩
theorem ml_L_23 : eLkV RL 23 yX11_table 1 := ⟨(wd2 94 rfl rfl), (wd1 1 rfl rfl), (wd2 95 rfl rfl), (wd2 96 rfl rfl), yp_yX11_table.1, yp_yX11_table.2.1, yp_yX11_table.2.2⟩
theorem ml_L_27 : eLkV RL 27 yX12_table 1 := ⟨(wd5 161 rfl rfl), (wd1 11 rfl rfl), (wd5 162 rfl rfl), (wd5 163 rfl rfl), yp_yX12_table.1, yp_yX12_table.2.1, yp_yX12_table.2.2⟩
theorem ml_L_28 : eLkV RL 28 yX11_fault 1 := ⟨(wd2 203 rfl rfl), (wd1 1 rfl rfl), (wd2 204 rfl rfl), (wd2 205 rfl rfl), yp_yX11_fault.1, yp_yX11_fault.2.1, yp_yX11_fault.2.2⟩
theorem ml_L_31 : eLkV RL 31 yX12_fault 1 := ⟨(wd5 204 rfl rfl), (wd1 11 rfl rfl), (wd5 205 rfl rfl), (wd5 206 rfl rfl), yp_yX12_fault.1, yp_yX12_fault.2.1, yp_yX12_fault.2.2⟩
theorem ml_L_32 : eLkV RL 32 yX11_look 2 := ⟨(wd2 207 rfl rfl), (wd1 1 rfl rfl), (wd2 208 rfl rfl), (wd2 209 rfl rfl), yp_yX11_look.1, yp_yX11_look.2.1, yp_yX11_look.2.2⟩
theorem ml_L_36 : eLkV RL 36 yX12_look 2 := ⟨(wd5 208 rfl rfl), (wd1 11 rfl rfl), (wd5 209 rfl rfl), (wd5 210 rfl rfl), yp_yX12_look.1, yp_yX12_look.2.1, yp_yX12_look.2.2⟩
theorem ml_L_37 : eLkV RL 37 yX11_cell 3 := ⟨(wd3 15 rfl rfl), (wd1 1 rfl rfl), (wd3 16 rfl rfl), (wd3 17 rfl rfl), yp_yX11_cell.1, yp_yX11_cell.2.1, yp_yX11_cell.2.2⟩
theorem ml_L_41 : eLkV RL 41 yX12_cell 3 := ⟨(wd5 229 rfl rfl), (wd1 11 rfl rfl), (wd5 230 rfl rfl), (wd5 231 rfl rfl), yp_yX12_cell.1, yp_yX12_cell.2.1, yp_yX12_cell.2.2⟩
theorem ml_L_42 : eLkV RL 42 yX11_uneven 1 := ⟨(wd3 23 rfl rfl), (wd1 1 rfl rfl), (wd3 24 rfl rfl), (wd3 25 rfl rfl), yp_yX11_uneven.1, yp_yX11_uneven.2.1, yp_yX11_uneven.2.2⟩
theorem ml_L_45 : eLkV RL 45 yX12_uneven 1 := ⟨(wd5 122 rfl rfl), (wd1 11 rfl rfl), (wd5 123 rfl rfl), (wd5 124 rfl rfl), yp_yX12_uneven.1, yp_yX12_uneven.2.1, yp_yX12_uneven.2.2⟩
theorem ml_L_46 : eLkV RL 46 yX11_mix 7 := ⟨(wd3 32 rfl rfl), (wd1 1 rfl rfl), (wd3 33 rfl rfl), (wd3 34 rfl rfl), yp_yX11_mix.1, yp_yX11_mix.2.1, yp_yX11_mix.2.2⟩
theorem ml_L_50 : eLkV RL 50 yX12_mix 7 := ⟨(wd5 237 rfl rfl), (wd1 11 rfl rfl), (wd5 238 rfl rfl), (wd5 239 rfl rfl), yp_yX12_mix.1, yp_yX12_mix.2.1, yp_yX12_mix.2.2⟩
theorem ml_L_51 : eLkV RL 51 yX11_times 3 := ⟨(wd3 70 rfl rfl), (wd1 1 rfl rfl), (wd3 71 rfl rfl), (wd3 72 rfl rfl), yp_yX11_times.1, yp_yX11_times.2.1, yp_yX11_times.2.2⟩
theorem ml_L_55 : eLkV RL 55 yX12_times 3 := ⟨(wd6 11 rfl rfl), (wd1 11 rfl rfl), (wd6 12 rfl rfl), (wd6 13 rfl rfl), yp_yX12_times.1, yp_yX12_times.2.1, yp_yX12_times.2.2⟩
theorem ml_L_56 : eLkV RL 56 yX11_turn 4 := ⟨(wd3 78 rfl rfl), (wd1 1 rfl rfl), (wd3 79 rfl rfl), (wd3 80 rfl rfl), yp_yX11_turn.1, yp_yX11_turn.2.1, yp_yX11_turn.2.2⟩
theorem ml_L_60 : eLkV RL 60 yX12_turn 4 := ⟨(wd6 15 rfl rfl), (wd1 11 rfl rfl), (wd6 16 rfl rfl), (wd6 17 rfl rfl), yp_yX12_turn.1, yp_yX12_turn.2.1, yp_yX12_turn.2.2⟩
theorem ml_L_61 : eLkV RL 61 yX11_peel 2 := ⟨(wd3 89 rfl rfl), (wd1 1 rfl rfl), (wd3 90 rfl rfl), (wd3 91 rfl rfl), yp_yX11_peel.1, yp_yX11_peel.2.1, yp_yX11_peel.2.2⟩
theorem ml_L_64 : eLkV RL 64 yX12_peel 2 := ⟨(wd6 23 rfl rfl), (wd1 11 rfl rfl), (wd6 24 rfl rfl), (wd6 25 rfl rfl), yp_yX12_peel.1, yp_yX12_peel.2.1, yp_yX12_peel.2.2⟩
theorem ml_L_65 : eLkV RL 65 yX11_part 2 := ⟨(wd3 176 rfl rfl), (wd1 1 rfl rfl), (wd3 177 rfl rfl), (wd3 178 rfl rfl), yp_yX11_part.1, yp_yX11_part.2.1, yp_yX11_part.2.2⟩
theorem ml_L_68 : eLkV RL 68 yX12_part 2 := ⟨(wd6 78 rfl rfl), (wd1 11 rfl rfl), (wd6 79 rfl rfl), (wd6 80 rfl rfl), yp_yX12_part.1, yp_yX12_part.2.1, yp_yX12_part.2.2⟩
theorem ml_L_69 : eLkV RL 69 yX11_weight 2 := ⟨(wd3 192 rfl rfl), (wd1 1 rfl rfl), (wd3 193 rfl rfl), (wd3 194 rfl rfl), yp_yX11_weight.1, yp_yX11_weight.2.1, yp_yX11_weight.2.2⟩
theorem ml_L_72 : eLkV RL 72 yX12_weight 2 := ⟨(wd6 90 rfl rfl), (wd1 11 rfl rfl), (wd6 91 rfl rfl), (wd6 92 rfl rfl), yp_yX12_weight.1, yp_yX12_weight.2.1, yp_yX12_weight.2.2⟩
theorem ml_L_73 : eLkV RL 73 yX11_draw 1 := ⟨(wd3 201 rfl rfl), (wd1 1 rfl rfl), (wd3 202 rfl rfl), (wd3 203 rfl rfl), yp_yX11_draw.1, yp_yX11_draw.2.1, yp_yX11_draw.2.2⟩
theorem ml_L_76 : eLkV RL 76 yX12_draw 1 := ⟨(wd6 95 rfl rfl), (wd1 11 rfl rfl), (wd6 96 rfl rfl), (wd6 97 rfl rfl), yp_yX12_draw.1, yp_yX12_draw.2.1, yp_yX12_draw.2.2⟩
theorem ml_L_77 : eLkV RL 77 yX11_joint 5 := ⟨(wd3 209 rfl rfl), (wd1 1 rfl rfl), (wd3 210 rfl rfl), (wd3 211 rfl rfl), yp_yX11_joint.1, yp_yX11_joint.2.1, yp_yX11_joint.2.2⟩
theorem ml_L_80 : eLkV RL 80 yX12_joint 5 := ⟨(wd6 99 rfl rfl), (wd1 11 rfl rfl), (wd6 100 rfl rfl), (wd6 101 rfl rfl), yp_yX12_joint.1, yp_yX12_joint.2.1, yp_yX12_joint.2.2⟩
theorem ml_L_81 : eLkV RL 81 yX11_bound 2 := ⟨(wd3 218 rfl rfl), (wd1 1 rfl rfl), (wd3 219 rfl rfl), (wd3 220 rfl rfl), yp_yX11_bound.1, yp_yX11_bound.2.1, yp_yX11_bound.2.2⟩
theorem ml_L_84 : eLkV RL 84 yX12_bound 2 := ⟨(wd6 111 rfl rfl), (wd1 11 rfl rfl), (wd6 112 rfl rfl), (wd6 113 rfl rfl), yp_yX12_bound.1, yp_yX12_bound.2.1, yp_yX12_bound.2.2⟩
theorem ml_L_85 : eLkV RL 85 yX11_lack 3 := ⟨(wd4 2 rfl rfl), (wd1 1 rfl rfl), (wd4 3 rfl rfl), (wd4 4 rfl rfl), yp_yX11_lack.1, yp_yX11_lack.2.1, yp_yX11_lack.2.2⟩
theorem ml_L_88 : eLkV RL 88 yX12_lack 3 := ⟨(wd6 157 rfl rfl), (wd1 11 rfl rfl), (wd6 158 rfl rfl), (wd6 159 rfl rfl), yp_yX12_lack.1, yp_yX12_lack.2.1, yp_yX12_lack.2.2⟩
theorem ml_L_89 : eLkV RL 89 yX11_paired 3 := ⟨(wd4 15 rfl rfl), (wd1 1 rfl rfl), (wd4 16 rfl rfl), (wd4 17 rfl rfl), yp_yX11_paired.1, yp_yX11_paired.2.1, yp_yX11_paired.2.2⟩
theorem ml_L_92 : eLkV RL 92 yX12_paired 3 := ⟨(wd6 168 rfl rfl), (wd1 11 rfl rfl), (wd6 169 rfl rfl), (wd6 170 rfl rfl), yp_yX12_paired.1, yp_yX12_paired.2.1, yp_yX12_paired.2.2⟩
theorem ml_L_93 : eLkV RL 93 yX11_ways 2 := ⟨(wd4 20 rfl rfl), (wd1 1 rfl rfl), (wd4 21 rfl rfl), (wd4 22 rfl rfl), yp_yX11_ways.1, yp_yX11_ways.2.1, yp_yX11_ways.2.2⟩
theorem ml_L_96 : eLkV RL 96 yX12_ways 2 := ⟨(wd6 172 rfl rfl), (wd1 11 rfl rfl), (wd6 173 rfl rfl), (wd6 174 rfl rfl), yp_yX12_ways.1, yp_yX12_ways.2.1, yp_yX12_ways.2.2⟩
theorem ml_L_97 : eLkV RL 97 yX11_widest 1 := ⟨(wd4 28 rfl rfl), (wd1 1 rfl rfl), (wd4 29 rfl rfl), (wd4 30 rfl rfl), yp_yX11_widest.1, yp_yX11_widest.2.1, yp_yX11_widest.2.2⟩
theorem ml_L_100 : eLkV RL 100 yX12_widest 1 := ⟨(wd6 180 rfl rfl), (wd1 11 rfl rfl), (wd6 181 rfl rfl), (wd6 182 rfl rfl), yp_yX12_widest.1, yp_yX12_widest.2.1, yp_yX12_widest.2.2⟩
theorem ml_L_101 : eLkV RL 101 yX11_best 2 := ⟨(wd4 33 rfl rfl), (wd1 1 rfl rfl), (wd4 34 rfl rfl), (wd4 35 rfl rfl), yp_yX11_best.1, yp_yX11_best.2.1, yp_yX11_best.2.2⟩
theorem ml_L_105 : eLkV RL 105 yX12_best 2 := ⟨(wd6 184 rfl rfl), (wd1 11 rfl rfl), (wd6 185 rfl rfl), (wd6 186 rfl rfl), yp_yX12_best.1, yp_yX12_best.2.1, yp_yX12_best.2.2⟩
theorem ml_L_106 : eLkV RL 106 yX11_permanent 1 := ⟨(wd4 39 rfl rfl), (wd1 1 rfl rfl), (wd4 40 rfl rfl), (wd4 41 rfl rfl), yp_yX11_permanent.1, yp_yX11_permanent.2.1, yp_yX11_permanent.2.2⟩
theorem ml_L_110 : eLkV RL 110 yX12_permanent 1 := ⟨(wd6 189 rfl rfl), (wd1 11 rfl rfl), (wd6 190 rfl rfl), (wd6 191 rfl rfl), yp_yX12_permanent.1, yp_yX12_permanent.2.1, yp_yX12_permanent.2.2⟩
theorem ml_L_111 : eLkV RL 111 yX11_sought 2 := ⟨(wd4 52 rfl rfl), (wd1 1 rfl rfl), (wd4 53 rfl rfl), (wd4 54 rfl rfl), yp_yX11_sought.1, yp_yX11_sought.2.1, yp_yX11_sought.2.2⟩
theorem ml_L_114 : eLkV RL 114 yX12_sought 2 := ⟨(wd6 123 rfl rfl), (wd1 11 rfl rfl), (wd6 124 rfl rfl), (wd6 125 rfl rfl), yp_yX12_sought.1, yp_yX12_sought.2.1, yp_yX12_sought.2.2⟩
theorem ml_L_115 : eLkV RL 115 yX11_rounded 3 := ⟨(wd4 76 rfl rfl), (wd1 1 rfl rfl), (wd4 77 rfl rfl), (wd4 78 rfl rfl), yp_yX11_rounded.1, yp_yX11_rounded.2.1, yp_yX11_rounded.2.2⟩
theorem ml_L_118 : eLkV RL 118 yX12_rounded 3 := ⟨(wd6 131 rfl rfl), (wd1 11 rfl rfl), (wd6 132 rfl rfl), (wd6 133 rfl rfl), yp_yX12_rounded.1, yp_yX12_rounded.2.1, yp_yX12_rounded.2.2⟩
theorem ml_L_119 : eLkV RL 119 yX11_most 2 := ⟨(wd4 117 rfl rfl), (wd1 1 rfl rfl), (wd4 118 rfl rfl), (wd4 119 rfl rfl), yp_yX11_most.1, yp_yX11_most.2.1, yp_yX11_most.2.2⟩
theorem ml_L_122 : eLkV RL 122 yX12_most 2 := ⟨(wd6 103 rfl rfl), (wd1 11 rfl rfl), (wd6 104 rfl rfl), (wd6 105 rfl rfl), yp_yX12_most.1, yp_yX12_most.2.1, yp_yX12_most.2.2⟩
theorem ml_L_123 : eLkV RL 123 yX11_mixing 1 := ⟨(wd4 136 rfl rfl), (wd1 1 rfl rfl), (wd4 137 rfl rfl), (wd4 138 rfl rfl), yp_yX11_mixing.1, yp_yX11_mixing.2.1, yp_yX11_mixing.2.2⟩
theorem ml_L_126 : eLkV RL 126 yX12_mixing 1 := ⟨(wd6 194 rfl rfl), (wd1 11 rfl rfl), (wd6 195 rfl rfl), (wd6 196 rfl rfl), yp_yX12_mixing.1, yp_yX12_mixing.2.1, yp_yX12_mixing.2.2⟩
theorem ml_L_127 : eLkV RL 127 yX11_kin 2 := ⟨(wd4 146 rfl rfl), (wd1 1 rfl rfl), (wd4 147 rfl rfl), (wd4 148 rfl rfl), yp_yX11_kin.1, yp_yX11_kin.2.1, yp_yX11_kin.2.2⟩
theorem ml_L_130 : eLkV RL 130 yX12_kin 2 := ⟨(wd6 198 rfl rfl), (wd1 11 rfl rfl), (wd6 199 rfl rfl), (wd6 200 rfl rfl), yp_yX12_kin.1, yp_yX12_kin.2.1, yp_yX12_kin.2.2⟩
theorem ml_L_131 : eLkV RL 131 yX11_show 0 := ⟨(wd4 156 rfl rfl), (wd1 1 rfl rfl), (wd4 157 rfl rfl), (wd4 158 rfl rfl), yp_yX11_show.1, yp_yX11_show.2.1, yp_yX11_show.2.2⟩
theorem ml_L_135 : eLkV RL 135 yX12_show 0 := ⟨(wd6 202 rfl rfl), (wd1 11 rfl rfl), (wd6 203 rfl rfl), (wd6 204 rfl rfl), yp_yX12_show.1, yp_yX12_show.2.1, yp_yX12_show.2.2⟩
theorem ml_L_136 : eLkV RL 136 yX11_out 1 := ⟨(wd4 173 rfl rfl), (wd1 1 rfl rfl), (wd4 174 rfl rfl), (wd4 175 rfl rfl), yp_yX11_out.1, yp_yX11_out.2.1, yp_yX11_out.2.2⟩
theorem ml_L_139 : eLkV RL 139 yX12_out 1 := ⟨(wd6 210 rfl rfl), (wd1 11 rfl rfl), (wd6 211 rfl rfl), (wd6 212 rfl rfl), yp_yX12_out.1, yp_yX12_out.2.1, yp_yX12_out.2.2⟩
theorem ml_L_140 : eLkV RL 140 yX11_shop 2 := ⟨(wd4 177 rfl rfl), (wd1 1 rfl rfl), (wd4 178 rfl rfl), (wd4 179 rfl rfl), yp_yX11_shop.1, yp_yX11_shop.2.1, yp_yX11_shop.2.2⟩
theorem ml_L_143 : eLkV RL 143 yX12_shop 2 := ⟨(wd6 214 rfl rfl), (wd1 11 rfl rfl), (wd6 215 rfl rfl), (wd6 216 rfl rfl), yp_yX12_shop.1, yp_yX12_shop.2.1, yp_yX12_shop.2.2⟩
theorem ml_L_144 : eLkV RL 144 yX11_works 2 := ⟨(wd4 192 rfl rfl), (wd1 1 rfl rfl), (wd4 193 rfl rfl), (wd4 194 rfl rfl), yp_yX11_works.1, yp_yX11_works.2.1, yp_yX11_works.2.2⟩
theorem ml_L_147 : eLkV RL 147 yX12_works 2 := ⟨(wd6 218 rfl rfl), (wd1 11 rfl rfl), (wd6 219 rfl rfl), (wd6 220 rfl rfl), yp_yX12_works.1, yp_yX12_works.2.1, yp_yX12_works.2.2⟩
theorem ml_L_148 : eLkV RL 148 yX11_job 2 := ⟨(wd4 204 rfl rfl), (wd1 1 rfl rfl), (wd4 205 rfl rfl), (wd4 206 rfl rfl), yp_yX11_job.1, yp_yX11_job.2.1, yp_yX11_job.2.2⟩
theorem ml_L_151 : eLkV RL 151 yX12_job 2 := ⟨(wd6 227 rfl rfl), (wd1 11 rfl rfl), (wd6 228 rfl rfl), (wd6 229 rfl rfl), yp_yX12_job.1, yp_yX12_job.2.1, yp_yX12_job.2.2⟩
theorem ml_L_152 : eLkV RL 152 yX11_kept 1 := ⟨(wd4 221 rfl rfl), (wd1 1 rfl rfl), (wd4 222 rfl rfl), (wd4 223 rfl rfl), yp_yX11_kept.1, yp_yX11_kept.2.1, yp_yX11_kept.2.2⟩
theorem ml_L_155 : eLkV RL 155 yX12_kept 1 := ⟨(wd6 231 rfl rfl), (wd1 11 rfl rfl), (wd6 232 rfl rfl), (wd6 233 rfl rfl), yp_yX12_kept.1, yp_yX12_kept.2.1, yp_yX12_kept.2.2⟩
theorem ml_X0_26 : eLkS RX0 26 yX1_rowOf 2 := ⟨(wd3 130 rfl rfl), (wd1 14 rfl rfl), (wd3 3 rfl rfl), yp_yX1_rowOf.1, yp_yX1_rowOf.2.1, yp_yX1_rowOf.2.2⟩
theorem ml_X0_32 : eLkV RX0 32 yX0_nextColumn 4 := ⟨(wd3 142 rfl rfl), (wd1 4 rfl rfl), (wd3 144 rfl rfl), (ws2 9 rfl), yp_yX0_nextColumn.1, yp_yX0_nextColumn.2.1, yp_yX0_nextColumn.2.2⟩
theorem ml_X0_38 : eLkS RX0 38 yJ6_bitCount_0f7a4 1 := ⟨(wd3 129 rfl rfl), (wd1 16 rfl rfl), (wd3 10 rfl rfl), yp_yJ6_bitCount_0f7a4.1, yp_yJ6_bitCount_0f7a4.2.1, yp_yJ6_bitCount_0f7a4.2.2⟩
theorem ml_X0_46 : eLkS RX0 46 yJ9_min_f86c9 2 := ⟨(wd3 132 rfl rfl), (wd1 13 rfl rfl), (wd3 133 rfl rfl), yp_yJ9_min_f86c9.1, yp_yJ9_min_f86c9.2.1, yp_yJ9_min_f86c9.2.2⟩
theorem ml_X0_52 : eLkS RX0 52 yJ9_max_f86c9 2 := ⟨(wd3 135 rfl rfl), (wd1 13 rfl rfl), (wd3 136 rfl rfl), yp_yJ9_max_f86c9.1, yp_yJ9_max_f86c9.2.1, yp_yJ9_max_f86c9.2.2⟩
theorem ml_X0_55 : eLkV RX0 55 yX0_sumUp 3 := ⟨(wd3 159 rfl rfl), (wd1 4 rfl rfl), (wd3 161 rfl rfl), (ws2 11 rfl), yp_yX0_sumUp.1, yp_yX0_sumUp.2.1, yp_yX0_sumUp.2.2⟩
theorem ml_X0_59 : eLkV RX0 59 yX0_richestColumn 5 := ⟨(wd3 163 rfl rfl), (wd1 4 rfl rfl), (wd3 165 rfl rfl), (ws2 12 rfl), yp_yX0_richestColumn.1, yp_yX0_richestColumn.2.1, yp_yX0_richestColumn.2.2⟩
theorem ml_X0_63 : eLkV RX0 63 yX0_multiplySet 3 := ⟨(wd4 47 rfl rfl), (wd1 4 rfl rfl), (wd4 49 rfl rfl), (ws2 14 rfl), yp_yX0_multiplySet.1, yp_yX0_multiplySet.2.1, yp_yX0_multiplySet.2.2⟩
theorem ml_X1_17 : eLkS RX1 17 yX1_rowOf 2 := ⟨(wd3 2 rfl rfl), (wd1 14 rfl rfl), (wd3 3 rfl rfl), yp_yX1_rowOf.1, yp_yX1_rowOf.2.1, yp_yX1_rowOf.2.2⟩
theorem ml_X1_21 : eLkS RX1 21 yX1_groupOf 3 := ⟨(wd2 236 rfl rfl), (wd1 14 rfl rfl), (wd2 237 rfl rfl), yp_yX1_groupOf.1, yp_yX1_groupOf.2.1, yp_yX1_groupOf.2.2⟩
theorem ml_X1_25 : eLkS RX1 25 yX1_columnsOf 3 := ⟨(wd2 239 rfl rfl), (wd1 14 rfl rfl), (wd3 0 rfl rfl), yp_yX1_columnsOf.1, yp_yX1_columnsOf.2.1, yp_yX1_columnsOf.2.2⟩
theorem ml_X1_28 : eLkS RX1 28 yJ6_bitCount_0f7a4 1 := ⟨(wd3 9 rfl rfl), (wd1 16 rfl rfl), (wd3 10 rfl rfl), yp_yJ6_bitCount_0f7a4.1, yp_yJ6_bitCount_0f7a4.2.1, yp_yJ6_bitCount_0f7a4.2.2⟩
theorem ml_X1_34 : eLkS RX1 34 yX1_rowsOf 3 := ⟨(wd3 6 rfl rfl), (wd1 14 rfl rfl), (wd3 7 rfl rfl), yp_yX1_rowsOf.1, yp_yX1_rowsOf.2.1, yp_yX1_rowsOf.2.2⟩
theorem ml_X1_37 : eLkS RX1 37 yX1_reachedFrom 3 := ⟨(wd4 153 rfl rfl), (wd1 14 rfl rfl), (wd4 154 rfl rfl), yp_yX1_reachedFrom.1, yp_yX1_reachedFrom.2.1, yp_yX1_reachedFrom.2.2⟩
theorem ml_X1_40 : eLkS RX1 40 yX1_product 3 := ⟨(wd4 143 rfl rfl), (wd1 14 rfl rfl), (wd4 144 rfl rfl), yp_yX1_product.1, yp_yX1_product.2.1, yp_yX1_product.2.2⟩
theorem ml_X10_43 : eLkV RX10 43 yX10_readPiece 0 := ⟨(wd2 110 rfl rfl), (wd1 2 rfl rfl), (wd2 112 rfl rfl), (ws1 1 rfl), yp_yX10_readPiece.1, yp_yX10_readPiece.2.1, yp_yX10_readPiece.2.2⟩
theorem ml_X10_46 : eLkV RX10 46 yX10_checkEnd 0 := ⟨(wd2 161 rfl rfl), (wd1 2 rfl rfl), (wd2 163 rfl rfl), (ws1 13 rfl), yp_yX10_checkEnd.1, yp_yX10_checkEnd.2.1, yp_yX10_checkEnd.2.2⟩
theorem ml_X10_49 : eLkV RX10 49 yX10_fill 1 := ⟨(wd2 165 rfl rfl), (wd1 2 rfl rfl), (wd2 167 rfl rfl), (ws1 14 rfl), yp_yX10_fill.1, yp_yX10_fill.2.1, yp_yX10_fill.2.2⟩
theorem ml_X10_58 : eLkV RX10 58 yX10_isBlank 1 := ⟨(wd2 114 rfl rfl), (wd1 2 rfl rfl), (wd2 116 rfl rfl), (ws1 2 rfl), yp_yX10_isBlank.1, yp_yX10_isBlank.2.1, yp_yX10_isBlank.2.2⟩
theorem ml_X10_62 : eLkV RX10 62 yX10_isSign 2 := ⟨(wd2 118 rfl rfl), (wd1 2 rfl rfl), (wd2 120 rfl rfl), (ws1 3 rfl), yp_yX10_isSign.1, yp_yX10_isSign.2.1, yp_yX10_isSign.2.2⟩
theorem ml_X10_66 : eLkV RX10 66 yX10_closeRow 0 := ⟨(wd2 122 rfl rfl), (wd1 2 rfl rfl), (wd2 124 rfl rfl), (ws1 4 rfl), yp_yX10_closeRow.1, yp_yX10_closeRow.2.1, yp_yX10_closeRow.2.2⟩
theorem ml_X10_69 : eLkV RX10 69 yX10_isDigit 1 := ⟨(wd2 130 rfl rfl), (wd1 2 rfl rfl), (wd2 132 rfl rfl), (ws1 6 rfl), yp_yX10_isDigit.1, yp_yX10_isDigit.2.1, yp_yX10_isDigit.2.2⟩
theorem ml_X10_72 : eLkV RX10 72 yX10_readFraction 0 := ⟨(wd2 134 rfl rfl), (wd1 2 rfl rfl), (wd2 136 rfl rfl), (ws1 7 rfl), yp_yX10_readFraction.1, yp_yX10_readFraction.2.1, yp_yX10_readFraction.2.2⟩
theorem ml_X10_75 : eLkV RX10 75 yX10_fail 2 := ⟨(wd2 126 rfl rfl), (wd1 2 rfl rfl), (wd2 128 rfl rfl), (ws1 5 rfl), yp_yX10_fail.1, yp_yX10_fail.2.1, yp_yX10_fail.2.2⟩
theorem ml_X10_79 : eLkV RX10 79 yX10_countDigits 0 := ⟨(wd2 138 rfl rfl), (wd1 2 rfl rfl), (wd2 140 rfl rfl), (ws1 8 rfl), yp_yX10_countDigits.1, yp_yX10_countDigits.2.1, yp_yX10_countDigits.2.2⟩
theorem ml_X10_83 : eLkV RX10 83 yX10_readNumber 0 := ⟨(wd2 142 rfl rfl), (wd1 2 rfl rfl), (wd2 144 rfl rfl), (ws1 9 rfl), yp_yX10_readNumber.1, yp_yX10_readNumber.2.1, yp_yX10_readNumber.2.2⟩
theorem ml_X10_86 : eLkV RX10 86 yX10_readDivisor 0 := ⟨(wd2 146 rfl rfl), (wd1 2 rfl rfl), (wd2 148 rfl rfl), (ws1 10 rfl), yp_yX10_readDivisor.1, yp_yX10_readDivisor.2.1, yp_yX10_readDivisor.2.2⟩
theorem ml_X10_89 : eLkV RX10 89 yX10_keepFraction 2 := ⟨(wd2 154 rfl rfl), (wd1 2 rfl rfl), (wd2 156 rfl rfl), (ws1 12 rfl), yp_yX10_keepFraction.1, yp_yX10_keepFraction.2.1, yp_yX10_keepFraction.2.2⟩
theorem ml_X10_92 : eLkV RX10 92 yX10_skipBlanks 0 := ⟨(wd2 150 rfl rfl), (wd1 2 rfl rfl), (wd2 152 rfl rfl), (ws1 11 rfl), yp_yX10_skipBlanks.1, yp_yX10_skipBlanks.2.1, yp_yX10_skipBlanks.2.2⟩
theorem ml_X10_95 : eLkS RX10 95 yX4_greatestDivisor 2 := ⟨(wd2 158 rfl rfl), (wd1 12 rfl rfl), (wd2 159 rfl rfl), yp_yX4_greatestDivisor.1, yp_yX4_greatestDivisor.2.1, yp_yX4_greatestDivisor.2.2⟩
theorem ml_X10_101 : eLkV RX10 101 yX10_commonBelow 0 := ⟨(wd2 169 rfl rfl), (wd1 2 rfl rfl), (wd2 171 rfl rfl), (ws1 15 rfl), yp_yX10_commonBelow.1, yp_yX10_commonBelow.2.1, yp_yX10_commonBelow.2.2⟩
theorem ml_X10_104 : eLkV RX10 104 yX10_areCells 1 := ⟨(wd2 179 rfl rfl), (wd1 2 rfl rfl), (wd2 181 rfl rfl), (ws2 0 rfl), yp_yX10_areCells.1, yp_yX10_areCells.2.1, yp_yX10_areCells.2.2⟩
theorem ml_X10_110 : eLkV RX10 110 yX9_settle 2 := ⟨(wd2 184 rfl rfl), (wd1 10 rfl rfl), (wd2 185 rfl rfl), (wd2 186 rfl rfl), yp_yX9_settle.1, yp_yX9_settle.2.1, yp_yX9_settle.2.2⟩
theorem ml_X10_115 : eLkS RX10 115 yX4_leastMultiple 3 := ⟨(wd2 174 rfl rfl), (wd1 12 rfl rfl), (wd2 175 rfl rfl), yp_yX4_leastMultiple.1, yp_yX4_leastMultiple.2.1, yp_yX4_leastMultiple.2.2⟩
theorem ml_X11_74 : eLkV RX11 74 yX10_hasRoom 0 := ⟨(wd2 82 rfl rfl), (wd1 2 rfl rfl), (wd2 83 rfl rfl), (wd2 84 rfl rfl), yp_yX10_hasRoom.1, yp_yX10_hasRoom.2.1, yp_yX10_hasRoom.2.2⟩
theorem ml_X11_78 : eLkV RX11 78 yX10_putNumber 1 := ⟨(wd2 86 rfl rfl), (wd1 2 rfl rfl), (wd2 87 rfl rfl), (wd2 88 rfl rfl), yp_yX10_putNumber.1, yp_yX10_putNumber.2.1, yp_yX10_putNumber.2.2⟩
theorem ml_X11_86 : eLkV RX11 86 yX11_slotAt 1 := ⟨(wd2 98 rfl rfl), (wd1 1 rfl rfl), (wd2 100 rfl rfl), (ws1 0 rfl), yp_yX11_slotAt.1, yp_yX11_slotAt.2.1, yp_yX11_slotAt.2.2⟩
theorem ml_X11_90 : eLkV RX11 90 yX10_drop 0 := ⟨(wd2 102 rfl rfl), (wd1 2 rfl rfl), (wd2 103 rfl rfl), (wd2 104 rfl rfl), yp_yX10_drop.1, yp_yX10_drop.2.1, yp_yX10_drop.2.2⟩
theorem ml_X11_93 : eLkV RX11 93 yX10_readInto 1 := ⟨(wd2 106 rfl rfl), (wd1 2 rfl rfl), (wd2 107 rfl rfl), (wd2 108 rfl rfl), yp_yX10_readInto.1, yp_yX10_readInto.2.1, yp_yX10_readInto.2.2⟩
theorem ml_X11_112 : eLkV RX11 112 yX9_countAbove0 0 := ⟨(wd2 211 rfl rfl), (wd1 10 rfl rfl), (wd2 212 rfl rfl), (wd2 213 rfl rfl), yp_yX9_countAbove0.1, yp_yX9_countAbove0.2.1, yp_yX9_countAbove0.2.2⟩
theorem ml_X11_116 : eLkV RX11 116 yX9_greatestCell 0 := ⟨(wd2 228 rfl rfl), (wd1 10 rfl rfl), (wd2 229 rfl rfl), (wd2 230 rfl rfl), yp_yX9_greatestCell.1, yp_yX9_greatestCell.2.1, yp_yX9_greatestCell.2.2⟩
theorem ml_X11_119 : eLkV RX11 119 yX9_joinedBy 1 := ⟨(wd2 232 rfl rfl), (wd1 10 rfl rfl), (wd2 216 rfl rfl), (wd2 217 rfl rfl), yp_yX9_joinedBy.1, yp_yX9_joinedBy.2.1, yp_yX9_joinedBy.2.2⟩
theorem ml_X11_123 : eLkS RX11 123 yX1_countGroups 2 := ⟨(wd2 233 rfl rfl), (wd1 14 rfl rfl), (wd2 234 rfl rfl), yp_yX1_countGroups.1, yp_yX1_countGroups.2.1, yp_yX1_countGroups.2.2⟩
theorem ml_X11_129 : eLkV RX11 129 yX9_has 1 := ⟨(wd3 19 rfl rfl), (wd1 10 rfl rfl), (wd3 20 rfl rfl), (wd3 21 rfl rfl), yp_yX9_has.1, yp_yX9_has.2.1, yp_yX9_has.2.2⟩
theorem ml_X11_137 : eLkV RX11 137 yX11_filledSlot 1 := ⟨(wd3 27 rfl rfl), (wd1 1 rfl rfl), (wd3 29 rfl rfl), (ws2 1 rfl), yp_yX11_filledSlot.1, yp_yX11_filledSlot.2.1, yp_yX11_filledSlot.2.2⟩
theorem ml_X11_140 : eLkV RX11 140 yX9_firstUneven 0 := ⟨(wd3 31 rfl rfl), (wd1 10 rfl rfl), (wd2 192 rfl rfl), (wd2 193 rfl rfl), yp_yX9_firstUneven.1, yp_yX9_firstUneven.2.1, yp_yX9_firstUneven.2.2⟩
theorem ml_X11_143 : eLkS RX11 143 yX11_isShare 2 := ⟨(wd3 36 rfl rfl), (wd1 1 rfl rfl), (wd3 37 rfl rfl), yp_yX11_isShare.1, yp_yX11_isShare.2.1, yp_yX11_isShare.2.2⟩
theorem ml_X11_147 : eLkV RX11 147 yX11_areLike 3 := ⟨(wd3 39 rfl rfl), (wd1 1 rfl rfl), (wd3 41 rfl rfl), (ws2 2 rfl), yp_yX11_areLike.1, yp_yX11_areLike.2.1, yp_yX11_areLike.2.2⟩
theorem ml_X11_151 : eLkV RX11 151 yX2_makeMixture 7 := ⟨(wd3 43 rfl rfl), (wd1 3 rfl rfl), (wd3 44 rfl rfl), (wd3 45 rfl rfl), yp_yX2_makeMixture.1, yp_yX2_makeMixture.2.1, yp_yX2_makeMixture.2.2⟩
theorem ml_X11_155 : eLkV RX11 155 yX2_makeProduct 3 := ⟨(wd3 74 rfl rfl), (wd1 3 rfl rfl), (wd3 75 rfl rfl), (wd3 76 rfl rfl), yp_yX2_makeProduct.1, yp_yX2_makeProduct.2.1, yp_yX2_makeProduct.2.2⟩
theorem ml_X11_159 : eLkV RX11 159 yX2_makeTurned 4 := ⟨(wd3 82 rfl rfl), (wd1 3 rfl rfl), (wd3 83 rfl rfl), (wd3 84 rfl rfl), yp_yX2_makeTurned.1, yp_yX2_makeTurned.2.1, yp_yX2_makeTurned.2.2⟩
theorem ml_X11_163 : eLkV RX11 163 yX11_evenSlot 1 := ⟨(wd3 93 rfl rfl), (wd1 1 rfl rfl), (wd3 95 rfl rfl), (ws2 6 rfl), yp_yX11_evenSlot.1, yp_yX11_evenSlot.2.1, yp_yX11_evenSlot.2.2⟩
theorem ml_X11_166 : eLkS RX11 166 yX11_isRule 1 := ⟨(wd3 97 rfl rfl), (wd1 1 rfl rfl), (wd3 98 rfl rfl), yp_yX11_isRule.1, yp_yX11_isRule.2.1, yp_yX11_isRule.2.2⟩
theorem ml_X11_169 : eLkV RX11 169 yX5_startTable 1 := ⟨(wd3 100 rfl rfl), (wd1 5 rfl rfl), (wd3 101 rfl rfl), (wd3 102 rfl rfl), yp_yX5_startTable.1, yp_yX5_startTable.2.1, yp_yX5_startTable.2.2⟩
theorem ml_X11_173 : eLkV RX11 173 yX3_start 4 := ⟨(wd3 107 rfl rfl), (wd1 6 rfl rfl), (wd3 108 rfl rfl), (wd3 109 rfl rfl), yp_yX3_start.1, yp_yX3_start.2.1, yp_yX3_start.2.2⟩
theorem ml_X11_177 : eLkV RX11 177 yX11_keepParts 1 := ⟨(wd3 111 rfl rfl), (wd1 1 rfl rfl), (wd3 113 rfl rfl), (ws2 7 rfl), yp_yX11_keepParts.1, yp_yX11_keepParts.2.1, yp_yX11_keepParts.2.2⟩
theorem ml_X11_181 : eLkV RX11 181 yX3_hasPart 1 := ⟨(wd3 180 rfl rfl), (wd1 6 rfl rfl), (wd3 181 rfl rfl), (wd3 182 rfl rfl), yp_yX3_hasPart.1, yp_yX3_hasPart.2.1, yp_yX3_hasPart.2.2⟩
theorem ml_X11_184 : eLkV RX11 184 yX3_hasRow 1 := ⟨(wd3 184 rfl rfl), (wd1 6 rfl rfl), (wd3 185 rfl rfl), (wd3 186 rfl rfl), yp_yX3_hasRow.1, yp_yX3_hasRow.2.1, yp_yX3_hasRow.2.2⟩
theorem ml_X11_187 : eLkV RX11 187 yX3_columnOf 2 := ⟨(wd3 188 rfl rfl), (wd1 6 rfl rfl), (wd3 189 rfl rfl), (wd3 190 rfl rfl), yp_yX3_columnOf.1, yp_yX3_columnOf.2.1, yp_yX3_columnOf.2.2⟩
theorem ml_X11_194 : eLkV RX11 194 yX3_inLeastTerms 2 := ⟨(wd3 196 rfl rfl), (wd1 6 rfl rfl), (wd3 197 rfl rfl), (wd3 198 rfl rfl), yp_yX3_inLeastTerms.1, yp_yX3_inLeastTerms.2.1, yp_yX3_inLeastTerms.2.2⟩
theorem ml_X11_198 : eLkV RX11 198 yX3_partAt 1 := ⟨(wd3 205 rfl rfl), (wd1 6 rfl rfl), (wd3 206 rfl rfl), (wd3 207 rfl rfl), yp_yX3_partAt.1, yp_yX3_partAt.2.1, yp_yX3_partAt.2.2⟩
theorem ml_X11_201 : eLkV RX11 201 yX3_weightOfBoth 4 := ⟨(wd3 213 rfl rfl), (wd1 6 rfl rfl), (wd3 214 rfl rfl), (wd3 215 rfl rfl), yp_yX3_weightOfBoth.1, yp_yX3_weightOfBoth.2.1, yp_yX3_weightOfBoth.2.2⟩
theorem ml_X11_205 : eLkV RX11 205 yX7_countFewest 1 := ⟨(wd3 222 rfl rfl), (wd1 7 rfl rfl), (wd3 223 rfl rfl), (wd3 224 rfl rfl), yp_yX7_countFewest.1, yp_yX7_countFewest.2.1, yp_yX7_countFewest.2.2⟩
theorem ml_X11_208 : eLkS RX11 208 yX11_isCell 1 := ⟨(wd4 6 rfl rfl), (wd1 1 rfl rfl), (wd4 7 rfl rfl), yp_yX11_isCell.1, yp_yX11_isCell.2.1, yp_yX11_isCell.2.2⟩
theorem ml_X11_211 : eLkS RX11 211 yX1_rowsMostLacking 2 := ⟨(wd4 10 rfl rfl), (wd1 14 rfl rfl), (wd4 11 rfl rfl), yp_yX1_rowsMostLacking.1, yp_yX1_rowsMostLacking.2.1, yp_yX1_rowsMostLacking.2.2⟩
theorem ml_X11_214 : eLkS RX11 214 yX1_columnsOf 3 := ⟨(wd4 13 rfl rfl), (wd1 14 rfl rfl), (wd3 0 rfl rfl), yp_yX1_columnsOf.1, yp_yX1_columnsOf.2.1, yp_yX1_columnsOf.2.2⟩
theorem ml_X11_218 : eLkS RX11 218 yJ6_bitCount_0f7a4 1 := ⟨(wd4 14 rfl rfl), (wd1 16 rfl rfl), (wd3 10 rfl rfl), yp_yJ6_bitCount_0f7a4.1, yp_yJ6_bitCount_0f7a4.2.1, yp_yJ6_bitCount_0f7a4.2.2⟩
theorem ml_X11_223 : eLkV RX11 223 yX0_findFirst 2 := ⟨(wd4 19 rfl rfl), (wd1 4 rfl rfl), (wd3 139 rfl rfl), (wd3 140 rfl rfl), yp_yX0_findFirst.1, yp_yX0_findFirst.2.1, yp_yX0_findFirst.2.2⟩
theorem ml_X11_230 : eLkV RX11 230 yX0_countAll 2 := ⟨(wd4 24 rfl rfl), (wd1 4 rfl rfl), (wd4 25 rfl rfl), (wd4 26 rfl rfl), yp_yX0_countAll.1, yp_yX0_countAll.2.1, yp_yX0_countAll.2.2⟩
theorem ml_X11_234 : eLkV RX11 234 yX0_greatestLeast 3 := ⟨(wd4 32 rfl rfl), (wd1 4 rfl rfl), (wd3 125 rfl rfl), (wd3 126 rfl rfl), yp_yX0_greatestLeast.1, yp_yX0_greatestLeast.2.1, yp_yX0_greatestLeast.2.2⟩
theorem ml_X11_240 : eLkV RX11 240 yX0_findRichest 3 := ⟨(wd4 38 rfl rfl), (wd1 4 rfl rfl), (wd3 156 rfl rfl), (wd3 157 rfl rfl), yp_yX0_findRichest.1, yp_yX0_findRichest.2.1, yp_yX0_findRichest.2.2⟩
theorem ml_X11_243 : eLkV RX11 243 yX0_multiplyAll 2 := ⟨(wd4 43 rfl rfl), (wd1 4 rfl rfl), (wd4 44 rfl rfl), (wd4 45 rfl rfl), yp_yX0_multiplyAll.1, yp_yX0_multiplyAll.2.1, yp_yX0_multiplyAll.2.2⟩
theorem ml_X11_251 : eLkV RX11 251 yX7_seek 1 := ⟨(wd4 56 rfl rfl), (wd1 7 rfl rfl), (wd4 57 rfl rfl), (wd4 58 rfl rfl), yp_yX7_seek.1, yp_yX7_seek.2.1, yp_yX7_seek.2.2⟩
theorem ml_X11_263 : eLkV RX11 263 yX6_round 1 := ⟨(wd4 80 rfl rfl), (wd1 8 rfl rfl), (wd4 81 rfl rfl), (wd4 82 rfl rfl), yp_yX6_round.1, yp_yX6_round.2.1, yp_yX6_round.2.2⟩
theorem ml_X11_270 : eLkV RX11 270 yX3_countColumns 1 := ⟨(wd4 121 rfl rfl), (wd1 6 rfl rfl), (wd4 122 rfl rfl), (wd4 123 rfl rfl), yp_yX3_countColumns.1, yp_yX3_countColumns.2.1, yp_yX3_countColumns.2.2⟩
theorem ml_X11_273 : eLkV RX11 273 yX3_commonestColumn 1 := ⟨(wd4 126 rfl rfl), (wd1 6 rfl rfl), (wd4 127 rfl rfl), (wd4 128 rfl rfl), yp_yX3_commonestColumn.1, yp_yX3_commonestColumn.2.1, yp_yX3_commonestColumn.2.2⟩
theorem ml_X11_276 : eLkV RX11 276 yX3_weightOf 2 := ⟨(wd4 135 rfl rfl), (wd1 6 rfl rfl), (wd4 131 rfl rfl), (wd4 132 rfl rfl), yp_yX3_weightOf.1, yp_yX3_weightOf.2.1, yp_yX3_weightOf.2.2⟩
theorem ml_X11_279 : eLkS RX11 279 yX1_leastFullPower 3 := ⟨(wd4 140 rfl rfl), (wd1 14 rfl rfl), (wd4 141 rfl rfl), yp_yX1_leastFullPower.1, yp_yX1_leastFullPower.2.1, yp_yX1_leastFullPower.2.2⟩
theorem ml_X11_283 : eLkS RX11 283 yX1_kinOf 3 := ⟨(wd4 150 rfl rfl), (wd1 14 rfl rfl), (wd4 151 rfl rfl), yp_yX1_kinOf.1, yp_yX1_kinOf.2.1, yp_yX1_kinOf.2.2⟩
theorem ml_X11_286 : eLkV RX11 286 yX8_write 1 := ⟨(wd4 160 rfl rfl), (wd1 9 rfl rfl), (wd4 161 rfl rfl), (wd4 162 rfl rfl), yp_yX8_write.1, yp_yX8_write.2.1, yp_yX8_write.2.2⟩
theorem ml_X11_294 : eLkV RX11 294 yX5_startShop 1 := ⟨(wd4 181 rfl rfl), (wd1 5 rfl rfl), (wd4 182 rfl rfl), (wd4 183 rfl rfl), yp_yX5_startShop.1, yp_yX5_startShop.2.1, yp_yX5_startShop.2.2⟩
theorem ml_X11_300 : eLkV RX11 300 yX3_hasJob 1 := ⟨(wd4 196 rfl rfl), (wd1 6 rfl rfl), (wd4 197 rfl rfl), (wd4 198 rfl rfl), yp_yX3_hasJob.1, yp_yX3_hasJob.2.1, yp_yX3_hasJob.2.2⟩
theorem ml_X11_303 : eLkV RX11 303 yX3_machineOf 2 := ⟨(wd4 200 rfl rfl), (wd1 6 rfl rfl), (wd4 201 rfl rfl), (wd4 202 rfl rfl), yp_yX3_machineOf.1, yp_yX3_machineOf.2.1, yp_yX3_machineOf.2.2⟩
theorem ml_X11_306 : eLkV RX11 306 yX3_lastHour 1 := ⟨(wd4 208 rfl rfl), (wd1 6 rfl rfl), (wd4 209 rfl rfl), (wd4 210 rfl rfl), yp_yX3_lastHour.1, yp_yX3_lastHour.2.1, yp_yX3_lastHour.2.2⟩
theorem ml_X11_309 : eLkV RX11 309 yX3_countPieces 1 := ⟨(wd4 213 rfl rfl), (wd1 6 rfl rfl), (wd4 214 rfl rfl), (wd4 215 rfl rfl), yp_yX3_countPieces.1, yp_yX3_countPieces.2.1, yp_yX3_countPieces.2.2⟩
theorem ml_X11_312 : eLkV RX11 312 yX3_countMoves 1 := ⟨(wd4 217 rfl rfl), (wd1 6 rfl rfl), (wd4 218 rfl rfl), (wd4 219 rfl rfl), yp_yX3_countMoves.1, yp_yX3_countMoves.2.1, yp_yX3_countMoves.2.2⟩
theorem ml_X11_325 : eLkV RX11 325 yX5_takePart 1 := ⟨(wd3 115 rfl rfl), (wd1 5 rfl rfl), (wd3 116 rfl rfl), (wd3 117 rfl rfl), yp_yX5_takePart.1, yp_yX5_takePart.2.1, yp_yX5_takePart.2.2⟩
theorem ml_X11_331 : eLkV RX11 331 yX3_add 2 := ⟨(wd3 171 rfl rfl), (wd1 6 rfl rfl), (wd3 172 rfl rfl), (wd3 173 rfl rfl), yp_yX3_add.1, yp_yX3_add.2.1, yp_yX3_add.2.2⟩
theorem ml_X12_89 : eLkS RX12 89 yX12_common 2 := ⟨(wd5 195 rfl rfl), (wd1 11 rfl rfl), (wd5 196 rfl rfl), yp_yX12_common.1, yp_yX12_common.2.1, yp_yX12_common.2.2⟩
theorem ml_X12_99 : eLkS RX12 99 yX12_isIn 3 := ⟨(wd5 134 rfl rfl), (wd1 11 rfl rfl), (wd5 135 rfl rfl), yp_yX12_isIn.1, yp_yX12_isIn.2.1, yp_yX12_isIn.2.2⟩
theorem ml_X12_103 : eLkS RX12 103 yX12_isSlot 1 := ⟨(wd5 130 rfl rfl), (wd1 11 rfl rfl), (wd5 131 rfl rfl), yp_yX12_isSlot.1, yp_yX12_isSlot.2.1, yp_yX12_isSlot.2.2⟩
theorem ml_X12_107 : eLkV RX12 107 yX12_at 3 := ⟨(wd5 141 rfl rfl), (wd1 11 rfl rfl), (wd5 143 rfl rfl), (ws3 13 rfl), yp_yX12_at.1, yp_yX12_at.2.1, yp_yX12_at.2.2⟩
theorem ml_X12_111 : eLkV RX12 111 yX12_isTable 1 := ⟨(wd5 126 rfl rfl), (wd1 11 rfl rfl), (wd5 128 rfl rfl), (ws3 11 rfl), yp_yX12_isTable.1, yp_yX12_isTable.2.1, yp_yX12_isTable.2.2⟩
theorem ml_X12_114 : eLkV RX12 114 yX12_rowOf 2 := ⟨(wd5 137 rfl rfl), (wd1 11 rfl rfl), (wd5 139 rfl rfl), (ws3 12 rfl), yp_yX12_rowOf.1, yp_yX12_rowOf.2.1, yp_yX12_rowOf.2.2⟩
theorem ml_X12_118 : eLkV RX12 118 yX12_uneven 1 := ⟨(wd5 217 rfl rfl), (wd1 11 rfl rfl), (wd5 123 rfl rfl), (wd5 124 rfl rfl), yp_yX12_uneven.1, yp_yX12_uneven.2.1, yp_yX12_uneven.2.2⟩
theorem ml_X12_122 : eLkV RX12 122 yX12_columnOf 2 := ⟨(wd5 145 rfl rfl), (wd1 11 rfl rfl), (wd5 147 rfl rfl), (ws3 14 rfl), yp_yX12_columnOf.1, yp_yX12_columnOf.2.1, yp_yX12_columnOf.2.2⟩
theorem ml_X12_128 : eLkV RX12 128 yX12_four 1 := ⟨(wd5 153 rfl rfl), (wd1 11 rfl rfl), (wd5 155 rfl rfl), (ws3 15 rfl), yp_yX12_four.1, yp_yX12_four.2.1, yp_yX12_four.2.2⟩
theorem ml_X12_135 : eLkV RX12 135 yX12_see 1 := ⟨(wd5 169 rfl rfl), (wd1 11 rfl rfl), (wd5 171 rfl rfl), (ws4 1 rfl), yp_yX12_see.1, yp_yX12_see.2.1, yp_yX12_see.2.2⟩
theorem ml_X12_160 : eLkV RX12 160 yX12_isNumber 0 := ⟨(wd5 179 rfl rfl), (wd1 11 rfl rfl), (wd5 181 rfl rfl), (ws4 3 rfl), yp_yX12_isNumber.1, yp_yX12_isNumber.2.1, yp_yX12_isNumber.2.2⟩
theorem ml_X12_164 : eLkV RX12 164 yX12_fails 1 := ⟨(wd5 183 rfl rfl), (wd1 11 rfl rfl), (wd5 185 rfl rfl), (ws4 4 rfl), yp_yX12_fails.1, yp_yX12_fails.2.1, yp_yX12_fails.2.2⟩
theorem ml_X12_173 : eLkV RX12 173 yX12_next 0 := ⟨(wd5 165 rfl rfl), (wd1 11 rfl rfl), (wd5 167 rfl rfl), (ws4 0 rfl), yp_yX12_next.1, yp_yX12_next.2.1, yp_yX12_next.2.2⟩
theorem ml_X12_176 : eLkV RX12 176 yX12_readFraction 1 := ⟨(wd5 187 rfl rfl), (wd1 11 rfl rfl), (wd5 189 rfl rfl), (ws4 5 rfl), yp_yX12_readFraction.1, yp_yX12_readFraction.2.1, yp_yX12_readFraction.2.2⟩
theorem ml_X12_179 : eLkV RX12 179 yX12_takes 2 := ⟨(wd5 199 rfl rfl), (wd1 11 rfl rfl), (wd5 201 rfl rfl), (ws4 7 rfl), yp_yX12_takes.1, yp_yX12_takes.2.1, yp_yX12_takes.2.2⟩
theorem ml_X12_183 : eLkV RX12 183 yX12_readRow 0 := ⟨(wd5 175 rfl rfl), (wd1 11 rfl rfl), (wd5 177 rfl rfl), (ws4 2 rfl), yp_yX12_readRow.1, yp_yX12_readRow.2.1, yp_yX12_readRow.2.2⟩
theorem ml_X12_186 : eLkV RX12 186 yX12_isOver 1 := ⟨(wd5 191 rfl rfl), (wd1 11 rfl rfl), (wd5 193 rfl rfl), (ws4 6 rfl), yp_yX12_isOver.1, yp_yX12_isOver.2.1, yp_yX12_isOver.2.2⟩
theorem ml_X12_192 : eLkS RX12 192 yX12_one 1 := ⟨(wd5 222 rfl rfl), (wd1 11 rfl rfl), (wd5 223 rfl rfl), yp_yX12_one.1, yp_yX12_one.2.1, yp_yX12_one.2.2⟩
theorem ml_X12_196 : eLkS RX12 196 yJ9_max_7cf53 2 := ⟨(wd5 212 rfl rfl), (wd1 13 rfl rfl), (wd2 189 rfl rfl), yp_yJ9_max_7cf53.1, yp_yJ9_max_7cf53.2.1, yp_yJ9_max_7cf53.2.2⟩
theorem ml_X12_202 : eLkV RX12 202 yX12_isEven 1 := ⟨(wd5 213 rfl rfl), (wd1 11 rfl rfl), (wd5 215 rfl rfl), (ws4 8 rfl), yp_yX12_isEven.1, yp_yX12_isEven.2.1, yp_yX12_isEven.2.2⟩
theorem ml_X12_205 : eLkV RX12 205 yX12_aboveNought 1 := ⟨(wd5 218 rfl rfl), (wd1 11 rfl rfl), (wd5 220 rfl rfl), (ws4 9 rfl), yp_yX12_aboveNought.1, yp_yX12_aboveNought.2.1, yp_yX12_aboveNought.2.2⟩
theorem ml_X12_208 : eLkV RX12 208 yX12_groupsOf 1 := ⟨(wd5 225 rfl rfl), (wd1 11 rfl rfl), (wd5 227 rfl rfl), (ws4 10 rfl), yp_yX12_groupsOf.1, yp_yX12_groupsOf.2.1, yp_yX12_groupsOf.2.2⟩
theorem ml_X12_211 : eLkV RX12 211 yX12_isCell 3 := ⟨(wd5 233 rfl rfl), (wd1 11 rfl rfl), (wd5 235 rfl rfl), (ws4 11 rfl), yp_yX12_isCell.1, yp_yX12_isCell.2.1, yp_yX12_isCell.2.2⟩
theorem ml_X12_221 : eLkS RX12 221 yX12_isPart 2 := ⟨(wd6 1 rfl rfl), (wd1 11 rfl rfl), (wd6 2 rfl rfl), yp_yX12_isPart.1, yp_yX12_isPart.2.1, yp_yX12_isPart.2.2⟩
theorem ml_X12_226 : eLkS RX12 226 yX12_grown 2 := ⟨(wd6 6 rfl rfl), (wd1 11 rfl rfl), (wd6 7 rfl rfl), yp_yX12_grown.1, yp_yX12_grown.2.1, yp_yX12_grown.2.2⟩
theorem ml_X12_231 : eLkS RX12 231 yX12_behind 3 := ⟨(wd6 20 rfl rfl), (wd1 11 rfl rfl), (wd6 21 rfl rfl), yp_yX12_behind.1, yp_yX12_behind.2.1, yp_yX12_behind.2.2⟩
theorem ml_X12_241 : eLkS RX12 241 yX12_bits 1 := ⟨(wd6 54 rfl rfl), (wd1 11 rfl rfl), (wd6 55 rfl rfl), yp_yX12_bits.1, yp_yX12_bits.2.1, yp_yX12_bits.2.2⟩
theorem ml_X12_244 : eLkV RX12 244 yX12_worked 2 := ⟨(wd6 61 rfl rfl), (wd1 11 rfl rfl), (wd6 63 rfl rfl), (ws5 3 rfl), yp_yX12_worked.1, yp_yX12_worked.2.1, yp_yX12_worked.2.2⟩
theorem ml_X12_247 : eLkS RX12 247 yJ9_min_f86c9 2 := ⟨(wd6 70 rfl rfl), (wd1 13 rfl rfl), (wd3 133 rfl rfl), yp_yJ9_min_f86c9.1, yp_yJ9_min_f86c9.2.1, yp_yJ9_min_f86c9.2.2⟩
theorem ml_X12_250 : eLkS RX12 250 yJ9_max_f86c9 2 := ⟨(wd6 71 rfl rfl), (wd1 13 rfl rfl), (wd3 136 rfl rfl), yp_yJ9_max_f86c9.1, yp_yJ9_max_f86c9.2.1, yp_yJ9_max_f86c9.2.2⟩
theorem ml_X12_252 : eLkV RX12 252 yX12_isOpen 5 := ⟨(wd6 57 rfl rfl), (wd1 11 rfl rfl), (wd6 59 rfl rfl), (ws5 2 rfl), yp_yX12_isOpen.1, yp_yX12_isOpen.2.1, yp_yX12_isOpen.2.2⟩
theorem ml_X12_256 : eLkV RX12 256 yX12_laysCan 2 := ⟨(wd6 65 rfl rfl), (wd1 11 rfl rfl), (wd6 67 rfl rfl), (ws5 4 rfl), yp_yX12_laysCan.1, yp_yX12_laysCan.2.1, yp_yX12_laysCan.2.2⟩
theorem ml_X12_260 : eLkV RX12 260 yX12_isChosen 3 := ⟨(wd6 50 rfl rfl), (wd1 11 rfl rfl), (wd6 52 rfl rfl), (ws5 1 rfl), yp_yX12_isChosen.1, yp_yX12_isChosen.2.1, yp_yX12_isChosen.2.2⟩
theorem ml_X12_263 : eLkV RX12 263 yX12_chooseGreatest 1 := ⟨(wd6 72 rfl rfl), (wd1 11 rfl rfl), (wd6 74 rfl rfl), (ws5 5 rfl), yp_yX12_chooseGreatest.1, yp_yX12_chooseGreatest.2.1, yp_yX12_chooseGreatest.2.2⟩
theorem ml_X12_267 : eLkV RX12 267 yX12_choose 1 := ⟨(wd6 46 rfl rfl), (wd1 11 rfl rfl), (wd6 48 rfl rfl), (ws5 0 rfl), yp_yX12_choose.1, yp_yX12_choose.2.1, yp_yX12_choose.2.2⟩
theorem ml_X12_271 : eLkS RX12 271 yJ9_min_7cf53 2 := ⟨(wd6 77 rfl rfl), (wd1 13 rfl rfl), (wd3 169 rfl rfl), yp_yJ9_min_7cf53.1, yp_yJ9_min_7cf53.2.1, yp_yJ9_min_7cf53.2.2⟩
theorem ml_X12_285 : eLkV RX12 285 yX12_isLeft 0 := ⟨(wd6 38 rfl rfl), (wd1 11 rfl rfl), (wd6 40 rfl rfl), (ws4 14 rfl), yp_yX12_isLeft.1, yp_yX12_isLeft.2.1, yp_yX12_isLeft.2.2⟩
theorem ml_X12_288 : eLkV RX12 288 yX12_peels 1 := ⟨(wd6 42 rfl rfl), (wd1 11 rfl rfl), (wd6 44 rfl rfl), (ws4 15 rfl), yp_yX12_peels.1, yp_yX12_peels.2.1, yp_yX12_peels.2.2⟩
theorem ml_X12_291 : eLkS RX12 291 yX12_isRule 1 := ⟨(wd6 27 rfl rfl), (wd1 11 rfl rfl), (wd6 28 rfl rfl), yp_yX12_isRule.1, yp_yX12_isRule.2.1, yp_yX12_isRule.2.2⟩
theorem ml_X12_294 : eLkV RX12 294 yX12_worksOn 1 := ⟨(wd6 30 rfl rfl), (wd1 11 rfl rfl), (wd6 32 rfl rfl), (ws4 12 rfl), yp_yX12_worksOn.1, yp_yX12_worksOn.2.1, yp_yX12_worksOn.2.2⟩
theorem ml_X12_297 : eLkV RX12 297 yX12_keepsAll 3 := ⟨(wd6 34 rfl rfl), (wd1 11 rfl rfl), (wd6 36 rfl rfl), (ws4 13 rfl), yp_yX12_keepsAll.1, yp_yX12_keepsAll.2.1, yp_yX12_keepsAll.2.2⟩
theorem ml_X12_300 : eLkV RX12 300 yX12_isPartThere 1 := ⟨(wd6 82 rfl rfl), (wd1 11 rfl rfl), (wd6 84 rfl rfl), (ws5 6 rfl), yp_yX12_isPartThere.1, yp_yX12_isPartThere.2.1, yp_yX12_isPartThere.2.2⟩
theorem ml_X12_303 : eLkV RX12 303 yX12_isKeptRow 1 := ⟨(wd6 86 rfl rfl), (wd1 11 rfl rfl), (wd6 88 rfl rfl), (ws5 7 rfl), yp_yX12_isKeptRow.1, yp_yX12_isKeptRow.2.1, yp_yX12_isKeptRow.2.2⟩
theorem ml_X12_308 : eLkV RX12 308 yX12_together 2 := ⟨(wd6 107 rfl rfl), (wd1 11 rfl rfl), (wd6 109 rfl rfl), (ws5 8 rfl), yp_yX12_together.1, yp_yX12_together.2.1, yp_yX12_together.2.2⟩
theorem ml_X12_311 : eLkV RX12 311 yX12_fewest 1 := ⟨(wd6 115 rfl rfl), (wd1 11 rfl rfl), (wd6 117 rfl rfl), (ws5 9 rfl), yp_yX12_fewest.1, yp_yX12_fewest.2.1, yp_yX12_fewest.2.2⟩
theorem ml_X12_314 : eLkV RX12 314 yX12_lies 3 := ⟨(wd6 119 rfl rfl), (wd1 11 rfl rfl), (wd6 121 rfl rfl), (ws5 10 rfl), yp_yX12_lies.1, yp_yX12_lies.2.1, yp_yX12_lies.2.2⟩
theorem ml_X12_320 : eLkS RX12 320 yX12_ruleOf 2 := ⟨(wd6 128 rfl rfl), (wd1 11 rfl rfl), (wd6 129 rfl rfl), yp_yX12_ruleOf.1, yp_yX12_ruleOf.2.1, yp_yX12_ruleOf.2.2⟩
theorem ml_X12_323 : eLkS RX12 323 yX12_cut 2 := ⟨(wd6 139 rfl rfl), (wd1 11 rfl rfl), (wd6 140 rfl rfl), yp_yX12_cut.1, yp_yX12_cut.2.1, yp_yX12_cut.2.2⟩
theorem ml_X12_327 : eLkS RX12 327 yX12_up 2 := ⟨(wd6 142 rfl rfl), (wd1 11 rfl rfl), (wd6 143 rfl rfl), yp_yX12_up.1, yp_yX12_up.2.1, yp_yX12_up.2.2⟩
theorem ml_X12_330 : eLkV RX12 330 yX12_edge 4 := ⟨(wd6 149 rfl rfl), (wd1 11 rfl rfl), (wd6 151 rfl rfl), (ws5 13 rfl), yp_yX12_edge.1, yp_yX12_edge.2.1, yp_yX12_edge.2.2⟩
theorem ml_X12_334 : eLkV RX12 334 yX12_isWay 0 := ⟨(wd6 153 rfl rfl), (wd1 11 rfl rfl), (wd6 155 rfl rfl), (ws5 14 rfl), yp_yX12_isWay.1, yp_yX12_isWay.2.1, yp_yX12_isWay.2.2⟩
theorem ml_X12_337 : eLkV RX12 337 yX12_laysBounds 1 := ⟨(wd6 135 rfl rfl), (wd1 11 rfl rfl), (wd6 137 rfl rfl), (ws5 11 rfl), yp_yX12_laysBounds.1, yp_yX12_laysBounds.2.1, yp_yX12_laysBounds.2.2⟩
theorem ml_X12_340 : eLkV RX12 340 yX12_isKept 1 := ⟨(wd6 145 rfl rfl), (wd1 11 rfl rfl), (wd6 147 rfl rfl), (ws5 12 rfl), yp_yX12_isKept.1, yp_yX12_isKept.2.1, yp_yX12_isKept.2.2⟩
theorem ml_X12_343 : eLkS RX12 343 yX12_isLeast 1 := ⟨(wd6 161 rfl rfl), (wd1 11 rfl rfl), (wd6 162 rfl rfl), yp_yX12_isLeast.1, yp_yX12_isLeast.2.1, yp_yX12_isLeast.2.2⟩
theorem ml_X12_346 : eLkV RX12 346 yX12_joined 3 := ⟨(wd6 164 rfl rfl), (wd1 11 rfl rfl), (wd6 166 rfl rfl), (ws5 15 rfl), yp_yX12_joined.1, yp_yX12_joined.2.1, yp_yX12_joined.2.2⟩
theorem ml_X12_349 : eLkV RX12 349 yX12_isSummed 3 := ⟨(wd6 176 rfl rfl), (wd1 11 rfl rfl), (wd6 178 rfl rfl), (ws6 0 rfl), yp_yX12_isSummed.1, yp_yX12_isSummed.2.1, yp_yX12_isSummed.2.2⟩
theorem ml_X12_360 : eLkV RX12 360 yX12_says 1 := ⟨(wd6 206 rfl rfl), (wd1 11 rfl rfl), (wd6 208 rfl rfl), (ws6 1 rfl), yp_yX12_says.1, yp_yX12_says.2.1, yp_yX12_says.2.2⟩
theorem ml_X12_366 : eLkV RX12 366 yX12_isJob 1 := ⟨(wd6 222 rfl rfl), (wd1 11 rfl rfl), (wd6 224 rfl rfl), (ws6 2 rfl), yp_yX12_isJob.1, yp_yX12_isJob.2.1, yp_yX12_isJob.2.2⟩
theorem ml_X12_369 : eLkV RX12 369 yX12_draw 1 := ⟨(wd6 226 rfl rfl), (wd1 11 rfl rfl), (wd6 96 rfl rfl), (wd6 97 rfl rfl), yp_yX12_draw.1, yp_yX12_draw.2.1, yp_yX12_draw.2.2⟩
theorem ml_X2_23 : eLkS RX2 23 yX4_leastMultiple 3 := ⟨(wd3 48 rfl rfl), (wd1 12 rfl rfl), (wd2 175 rfl rfl), yp_yX4_leastMultiple.1, yp_yX4_leastMultiple.2.1, yp_yX4_leastMultiple.2.2⟩
theorem ml_X2_38 : eLkS RX2 38 yX2_multiplied 2 := ⟨(wd3 50 rfl rfl), (wd1 3 rfl rfl), (wd3 51 rfl rfl), yp_yX2_multiplied.1, yp_yX2_multiplied.2.1, yp_yX2_multiplied.2.2⟩
theorem ml_X2_44 : eLkV RX2 44 yX2_bring 3 := ⟨(wd3 54 rfl rfl), (wd1 3 rfl rfl), (wd3 56 rfl rfl), (ws2 3 rfl), yp_yX2_bring.1, yp_yX2_bring.2.1, yp_yX2_bring.2.2⟩
theorem ml_X2_48 : eLkS RX2 48 yX2_turnedFrom 5 := ⟨(wd3 86 rfl rfl), (wd1 3 rfl rfl), (wd3 87 rfl rfl), yp_yX2_turnedFrom.1, yp_yX2_turnedFrom.2.1, yp_yX2_turnedFrom.2.2⟩
theorem ml_X2_52 : eLkV RX2 52 yX2_sharedDivisor 2 := ⟨(wd3 58 rfl rfl), (wd1 3 rfl rfl), (wd3 60 rfl rfl), (ws2 4 rfl), yp_yX2_sharedDivisor.1, yp_yX2_sharedDivisor.2.1, yp_yX2_sharedDivisor.2.2⟩
theorem ml_X2_58 : eLkV RX2 58 yX2_areCells 2 := ⟨(wd3 64 rfl rfl), (wd1 3 rfl rfl), (wd3 66 rfl rfl), (ws2 5 rfl), yp_yX2_areCells.1, yp_yX2_areCells.2.1, yp_yX2_areCells.2.2⟩
theorem ml_X2_62 : eLkV RX2 62 yX9_settle 2 := ⟨(wd3 69 rfl rfl), (wd1 10 rfl rfl), (wd2 185 rfl rfl), (wd2 186 rfl rfl), yp_yX9_settle.1, yp_yX9_settle.2.1, yp_yX9_settle.2.2⟩
theorem ml_X2_66 : eLkS RX2 66 yX4_greatestDivisor 2 := ⟨(wd3 62 rfl rfl), (wd1 12 rfl rfl), (wd2 159 rfl rfl), yp_yX4_greatestDivisor.1, yp_yX4_greatestDivisor.2.1, yp_yX4_greatestDivisor.2.2⟩
theorem ml_X3_40 : eLkS RX3 40 yX4_greatestDivisor 2 := ⟨(wd3 200 rfl rfl), (wd1 12 rfl rfl), (wd2 159 rfl rfl), yp_yX4_greatestDivisor.1, yp_yX4_greatestDivisor.2.1, yp_yX4_greatestDivisor.2.2⟩
theorem ml_X3_46 : eLkV RX3 46 yX3_columnOf 2 := ⟨(wd3 217 rfl rfl), (wd1 6 rfl rfl), (wd3 189 rfl rfl), (wd3 190 rfl rfl), yp_yX3_columnOf.1, yp_yX3_columnOf.2.1, yp_yX3_columnOf.2.2⟩
theorem ml_X3_50 : eLkV RX3 50 yX3_weightOfBoth 4 := ⟨(wd4 134 rfl rfl), (wd1 6 rfl rfl), (wd3 214 rfl rfl), (wd3 215 rfl rfl), yp_yX3_weightOfBoth.1, yp_yX3_weightOfBoth.2.1, yp_yX3_weightOfBoth.2.2⟩
theorem ml_X3_54 : eLkV RX3 54 yX3_weightOf 2 := ⟨(wd4 130 rfl rfl), (wd1 6 rfl rfl), (wd4 131 rfl rfl), (wd4 132 rfl rfl), yp_yX3_weightOf.1, yp_yX3_weightOf.2.1, yp_yX3_weightOf.2.2⟩
theorem ml_X3_57 : eLkS RX3 57 yJ6_bitCount_0f7a4 1 := ⟨(wd4 125 rfl rfl), (wd1 16 rfl rfl), (wd3 10 rfl rfl), yp_yJ6_bitCount_0f7a4.1, yp_yJ6_bitCount_0f7a4.2.1, yp_yJ6_bitCount_0f7a4.2.2⟩
theorem ml_X3_63 : eLkV RX3 63 yX3_machineOf 2 := ⟨(wd4 212 rfl rfl), (wd1 6 rfl rfl), (wd4 201 rfl rfl), (wd4 202 rfl rfl), yp_yX3_machineOf.1, yp_yX3_machineOf.2.1, yp_yX3_machineOf.2.2⟩
theorem ml_X4_11 : eLkS RX4 11 yX4_greatestDivisor 2 := ⟨(wd2 178 rfl rfl), (wd1 12 rfl rfl), (wd2 159 rfl rfl), yp_yX4_greatestDivisor.1, yp_yX4_greatestDivisor.2.1, yp_yX4_greatestDivisor.2.2⟩
theorem ml_X5_45 : eLkV RX5 45 yX9_greatestSum 0 := ⟨(wd4 185 rfl rfl), (wd1 10 rfl rfl), (wd4 186 rfl rfl), (wd4 187 rfl rfl), yp_yX9_greatestSum.1, yp_yX9_greatestSum.2.1, yp_yX9_greatestSum.2.2⟩
theorem ml_X5_49 : eLkS RX5 49 yJ7_fill_53178 2 := ⟨(wd4 189 rfl rfl), (wd1 18 rfl rfl), (wd3 227 rfl rfl), yp_yJ7_fill_53178.1, yp_yJ7_fill_53178.2.1, yp_yJ7_fill_53178.2.2⟩
theorem ml_X5_55 : eLkV RX5 55 yX9_sumOfRow 1 := ⟨(wd4 190 rfl rfl), (wd1 10 rfl rfl), (wd2 196 rfl rfl), (wd2 197 rfl rfl), yp_yX9_sumOfRow.1, yp_yX9_sumOfRow.2.1, yp_yX9_sumOfRow.2.2⟩
theorem ml_X5_59 : eLkV RX5 59 yX9_sumOfColumn 1 := ⟨(wd4 191 rfl rfl), (wd1 10 rfl rfl), (wd2 200 rfl rfl), (wd2 201 rfl rfl), yp_yX9_sumOfColumn.1, yp_yX9_sumOfColumn.2.1, yp_yX9_sumOfColumn.2.2⟩
theorem ml_X5_62 : eLkV RX5 62 yX5_choose 1 := ⟨(wd3 119 rfl rfl), (wd1 5 rfl rfl), (wd3 121 rfl rfl), (ws2 8 rfl), yp_yX5_choose.1, yp_yX5_choose.2.1, yp_yX5_choose.2.2⟩
theorem ml_X5_71 : eLkS RX5 71 yJ9_min_7cf53 2 := ⟨(wd3 168 rfl rfl), (wd1 13 rfl rfl), (wd3 169 rfl rfl), yp_yJ9_min_7cf53.1, yp_yJ9_min_7cf53.2.1, yp_yJ9_min_7cf53.2.2⟩
theorem ml_X5_77 : eLkS RX5 77 yX1_of 3 := ⟨(wd3 123 rfl rfl), (wd1 14 rfl rfl), (wd2 220 rfl rfl), yp_yX1_of.1, yp_yX1_of.2.1, yp_yX1_of.2.2⟩
theorem ml_X5_83 : eLkV RX5 83 yX0_greatestLeast 3 := ⟨(wd3 124 rfl rfl), (wd1 4 rfl rfl), (wd3 125 rfl rfl), (wd3 126 rfl rfl), yp_yX0_greatestLeast.1, yp_yX0_greatestLeast.2.1, yp_yX0_greatestLeast.2.2⟩
theorem ml_X5_87 : eLkV RX5 87 yX0_findFirst 2 := ⟨(wd3 138 rfl rfl), (wd1 4 rfl rfl), (wd3 139 rfl rfl), (wd3 140 rfl rfl), yp_yX0_findFirst.1, yp_yX0_findFirst.2.1, yp_yX0_findFirst.2.2⟩
theorem ml_X5_91 : eLkV RX5 91 yX5_leastPlace 0 := ⟨(wd3 146 rfl rfl), (wd1 5 rfl rfl), (wd3 148 rfl rfl), (ws2 10 rfl), yp_yX5_leastPlace.1, yp_yX5_leastPlace.2.1, yp_yX5_leastPlace.2.2⟩
theorem ml_X5_94 : eLkS RX5 94 yX1_through 3 := ⟨(wd3 150 rfl rfl), (wd1 14 rfl rfl), (wd3 151 rfl rfl), yp_yX1_through.1, yp_yX1_through.2.1, yp_yX1_through.2.2⟩
theorem ml_X5_98 : eLkV RX5 98 yX0_findRichest 3 := ⟨(wd3 155 rfl rfl), (wd1 4 rfl rfl), (wd3 156 rfl rfl), (wd3 157 rfl rfl), yp_yX0_findRichest.1, yp_yX0_findRichest.2.1, yp_yX0_findRichest.2.2⟩
theorem ml_X6_27 : eLkV RX6 27 yX6_lay 1 := ⟨(wd4 84 rfl rfl), (wd1 8 rfl rfl), (wd4 86 rfl rfl), (ws3 1 rfl), yp_yX6_lay.1, yp_yX6_lay.2.1, yp_yX6_lay.2.2⟩
theorem ml_X6_37 : eLkV RX6 37 yX6_meetLows 1 := ⟨(wd4 93 rfl rfl), (wd1 8 rfl rfl), (wd4 95 rfl rfl), (ws3 3 rfl), yp_yX6_meetLows.1, yp_yX6_meetLows.2.1, yp_yX6_meetLows.2.2⟩
theorem ml_X6_41 : eLkV RX6 41 yX6_lessen 1 := ⟨(wd4 113 rfl rfl), (wd1 8 rfl rfl), (wd4 115 rfl rfl), (ws3 8 rfl), yp_yX6_lessen.1, yp_yX6_lessen.2.1, yp_yX6_lessen.2.2⟩
theorem ml_X6_53 : eLkS RX6 53 yJ7_fill_53178 2 := ⟨(wd4 88 rfl rfl), (wd1 18 rfl rfl), (wd3 227 rfl rfl), yp_yJ7_fill_53178.1, yp_yJ7_fill_53178.2.1, yp_yJ7_fill_53178.2.2⟩
theorem ml_X6_65 : eLkV RX6 65 yX6_setBounds 4 := ⟨(wd4 89 rfl rfl), (wd1 8 rfl rfl), (wd4 91 rfl rfl), (ws3 2 rfl), yp_yX6_setBounds.1, yp_yX6_setBounds.2.1, yp_yX6_setBounds.2.2⟩
theorem ml_X6_69 : eLkV RX6 69 yX6_meetLow 2 := ⟨(wd4 97 rfl rfl), (wd1 8 rfl rfl), (wd4 99 rfl rfl), (ws3 4 rfl), yp_yX6_meetLow.1, yp_yX6_meetLow.2.1, yp_yX6_meetLow.2.2⟩
theorem ml_X6_73 : eLkV RX6 73 yX6_findWay 2 := ⟨(wd4 101 rfl rfl), (wd1 8 rfl rfl), (wd4 103 rfl rfl), (ws3 5 rfl), yp_yX6_findWay.1, yp_yX6_findWay.2.1, yp_yX6_findWay.2.2⟩
theorem ml_X6_77 : eLkV RX6 77 yX6_flowAlong 2 := ⟨(wd4 109 rfl rfl), (wd1 8 rfl rfl), (wd4 111 rfl rfl), (ws3 7 rfl), yp_yX6_flowAlong.1, yp_yX6_flowAlong.2.1, yp_yX6_flowAlong.2.2⟩
theorem ml_X6_80 : eLkV RX6 80 yX6_isOpen 2 := ⟨(wd4 105 rfl rfl), (wd1 8 rfl rfl), (wd4 107 rfl rfl), (ws3 6 rfl), yp_yX6_isOpen.1, yp_yX6_isOpen.2.1, yp_yX6_isOpen.2.2⟩
theorem ml_X7_40 : eLkV RX7 40 yX5_startTable 1 := ⟨(wd3 229 rfl rfl), (wd1 5 rfl rfl), (wd3 101 rfl rfl), (wd3 102 rfl rfl), yp_yX5_startTable.1, yp_yX5_startTable.2.1, yp_yX5_startTable.2.2⟩
theorem ml_X7_44 : eLkV RX7 44 yX7_isNewStep 2 := ⟨(wd4 60 rfl rfl), (wd1 7 rfl rfl), (wd4 62 rfl rfl), (ws2 15 rfl), yp_yX7_isNewStep.1, yp_yX7_isNewStep.2.1, yp_yX7_isNewStep.2.2⟩
theorem ml_X7_48 : eLkV RX7 48 yX7_finish 2 := ⟨(wd4 72 rfl rfl), (wd1 7 rfl rfl), (wd4 74 rfl rfl), (ws3 0 rfl), yp_yX7_finish.1, yp_yX7_finish.2.1, yp_yX7_finish.2.2⟩
theorem ml_X7_56 : eLkV RX7 56 yX5_startLike 1 := ⟨(wd4 64 rfl rfl), (wd1 5 rfl rfl), (wd4 65 rfl rfl), (wd4 66 rfl rfl), yp_yX5_startLike.1, yp_yX5_startLike.2.1, yp_yX5_startLike.2.2⟩
theorem ml_X7_63 : eLkV RX7 63 yX5_takePart 1 := ⟨(wd3 230 rfl rfl), (wd1 5 rfl rfl), (wd3 116 rfl rfl), (wd3 117 rfl rfl), yp_yX5_takePart.1, yp_yX5_takePart.2.1, yp_yX5_takePart.2.2⟩
theorem ml_X7_67 : eLkV RX7 67 yX5_choiceNumber 0 := ⟨(wd4 68 rfl rfl), (wd1 5 rfl rfl), (wd4 69 rfl rfl), (wd4 70 rfl rfl), yp_yX5_choiceNumber.1, yp_yX5_choiceNumber.2.1, yp_yX5_choiceNumber.2.2⟩
theorem ml_X7_77 : eLkS RX7 77 yJ7_fill_53178 2 := ⟨(wd3 226 rfl rfl), (wd1 18 rfl rfl), (wd3 227 rfl rfl), yp_yJ7_fill_53178.1, yp_yJ7_fill_53178.2.1, yp_yJ7_fill_53178.2.2⟩
theorem ml_X7_86 : eLkV RX7 86 yX7_addWeight 1 := ⟨(wd3 231 rfl rfl), (wd1 7 rfl rfl), (wd3 233 rfl rfl), (ws2 13 rfl), yp_yX7_addWeight.1, yp_yX7_addWeight.2.1, yp_yX7_addWeight.2.2⟩
theorem ml_X7_92 : eLkS RX7 92 yX7_leastOf 1 := ⟨(wd3 235 rfl rfl), (wd1 7 rfl rfl), (wd3 236 rfl rfl), yp_yX7_leastOf.1, yp_yX7_leastOf.2.1, yp_yX7_leastOf.2.2⟩
theorem ml_X7_96 : eLkS RX7 96 yX7_countAbove 2 := ⟨(wd3 239 rfl rfl), (wd1 7 rfl rfl), (wd4 0 rfl rfl), yp_yX7_countAbove.1, yp_yX7_countAbove.2.1, yp_yX7_countAbove.2.2⟩
theorem ml_X7_100 : eLkS RX7 100 yJ9_min_7cf53 2 := ⟨(wd3 238 rfl rfl), (wd1 13 rfl rfl), (wd3 169 rfl rfl), yp_yJ9_min_7cf53.1, yp_yJ9_min_7cf53.2.1, yp_yJ9_min_7cf53.2.2⟩
theorem ml_X8_27 : eLkV RX8 27 yX8_putNumber 1 := ⟨(wd4 164 rfl rfl), (wd1 9 rfl rfl), (wd4 166 rfl rfl), (ws3 9 rfl), yp_yX8_putNumber.1, yp_yX8_putNumber.2.1, yp_yX8_putNumber.2.2⟩
theorem ml_X8_31 : eLkV RX8 31 yX8_put 1 := ⟨(wd4 168 rfl rfl), (wd1 9 rfl rfl), (wd4 170 rfl rfl), (ws3 10 rfl), yp_yX8_put.1, yp_yX8_put.2.1, yp_yX8_put.2.2⟩
theorem ml_X8_37 : eLkV RX8 37 yX3_columnOf 2 := ⟨(wd4 172 rfl rfl), (wd1 6 rfl rfl), (wd3 189 rfl rfl), (wd3 190 rfl rfl), yp_yX3_columnOf.1, yp_yX3_columnOf.2.1, yp_yX3_columnOf.2.2⟩
theorem ml_X9_42 : eLkS RX9 42 yJ9_max_7cf53 2 := ⟨(wd2 188 rfl rfl), (wd1 13 rfl rfl), (wd2 189 rfl rfl), yp_yJ9_max_7cf53.1, yp_yJ9_max_7cf53.2.1, yp_yJ9_max_7cf53.2.2⟩
theorem ml_X9_48 : eLkV RX9 48 yX9_firstUneven 0 := ⟨(wd2 191 rfl rfl), (wd1 10 rfl rfl), (wd2 192 rfl rfl), (wd2 193 rfl rfl), yp_yX9_firstUneven.1, yp_yX9_firstUneven.2.1, yp_yX9_firstUneven.2.2⟩
theorem ml_X9_52 : eLkV RX9 52 yX9_sumOfRow 1 := ⟨(wd2 195 rfl rfl), (wd1 10 rfl rfl), (wd2 196 rfl rfl), (wd2 197 rfl rfl), yp_yX9_sumOfRow.1, yp_yX9_sumOfRow.2.1, yp_yX9_sumOfRow.2.2⟩
theorem ml_X9_56 : eLkS RX9 56 yX1_of 3 := ⟨(wd2 219 rfl rfl), (wd1 14 rfl rfl), (wd2 220 rfl rfl), yp_yX1_of.1, yp_yX1_of.2.1, yp_yX1_of.2.2⟩
theorem ml_X9_62 : eLkV RX9 62 yX9_sumOfColumn 1 := ⟨(wd2 199 rfl rfl), (wd1 10 rfl rfl), (wd2 200 rfl rfl), (wd2 201 rfl rfl), yp_yX9_sumOfColumn.1, yp_yX9_sumOfColumn.2.1, yp_yX9_sumOfColumn.2.2⟩
theorem ml_X9_65 : eLkV RX9 65 yX9_joinedBy 1 := ⟨(wd2 215 rfl rfl), (wd1 10 rfl rfl), (wd2 216 rfl rfl), (wd2 217 rfl rfl), yp_yX9_joinedBy.1, yp_yX9_joinedBy.2.1, yp_yX9_joinedBy.2.2⟩
theorem ml_X9_69 : eLkS RX9 69 yJ13_bitCount_95d88 1 := ⟨(wd2 222 rfl rfl), (wd1 15 rfl rfl), (wd2 223 rfl rfl), yp_yJ13_bitCount_95d88.1, yp_yJ13_bitCount_95d88.2.1, yp_yJ13_bitCount_95d88.2.2⟩
theorem eGoodIn {L : List Cond} (h : ∀ w ∈ L, w ∈ eTbl) : GoodIn eTbl L := fun w hw => ⟨h w hw, good_of_word (eTbl_good (h w hw))⟩
theorem cw_X0_init : Cond.code yX0_init cX0_init 1 none ∈ eTbl := (wd1 85 rfl rfl)
theorem cw_X0_findFirst : Cond.code yX0_findFirst cX0_findFirst 9 (some .boolean) ∈ eTbl := (wd3 141 rfl rfl)
theorem cw_X0_nextColumn : Cond.code yX0_nextColumn cX0_nextColumn 6 (some .int) ∈ eTbl := (wd3 145 rfl rfl)
theorem cw_X0_greatestLeast : Cond.code yX0_greatestLeast cX0_greatestLeast 12 (some .long) ∈ eTbl := (wd3 127 rfl rfl)
theorem cw_X0_findRichest : Cond.code yX0_findRichest cX0_findRichest 8 (some .long) ∈ eTbl := (wd3 158 rfl rfl)
theorem cw_X0_sumUp : Cond.code yX0_sumUp cX0_sumUp 12 none ∈ eTbl := (wd3 162 rfl rfl)
theorem cw_X0_richestColumn : Cond.code yX0_richestColumn cX0_richestColumn 9 (some .int) ∈ eTbl := (wd3 166 rfl rfl)
theorem cw_X0_countAll : Cond.code yX0_countAll cX0_countAll 10 (some .long) ∈ eTbl := (wd4 27 rfl rfl)
theorem cw_X0_multiplyAll : Cond.code yX0_multiplyAll cX0_multiplyAll 4 (some .long) ∈ eTbl := (wd4 46 rfl rfl)
theorem cw_X0_multiplySet : Cond.code yX0_multiplySet cX0_multiplySet 11 (some .long) ∈ eTbl := (wd4 50 rfl rfl)
theorem cw_X1_of : Cond.code yX1_of cX1_of 8 (some .long) ∈ eTbl := (wd2 221 rfl rfl)
theorem cw_X1_rowOf : Cond.code yX1_rowOf cX1_rowOf 3 (some .int) ∈ eTbl := (wd3 4 rfl rfl)
theorem cw_X1_through : Cond.code yX1_through cX1_through 6 (some .long) ∈ eTbl := (wd3 152 rfl rfl)
theorem cw_X1_columnsOf : Cond.code yX1_columnsOf cX1_columnsOf 6 (some .int) ∈ eTbl := (wd3 1 rfl rfl)
theorem cw_X1_rowsOf : Cond.code yX1_rowsOf cX1_rowsOf 6 (some .int) ∈ eTbl := (wd3 8 rfl rfl)
theorem cw_X1_countGroups : Cond.code yX1_countGroups cX1_countGroups 6 (some .int) ∈ eTbl := (wd2 235 rfl rfl)
theorem cw_X1_groupOf : Cond.code yX1_groupOf cX1_groupOf 6 (some .int) ∈ eTbl := (wd2 238 rfl rfl)
theorem cw_X1_rowsMostLacking : Cond.code yX1_rowsMostLacking cX1_rowsMostLacking 7 (some .int) ∈ eTbl := (wd4 12 rfl rfl)
theorem cw_X1_kinOf : Cond.code yX1_kinOf cX1_kinOf 7 (some .int) ∈ eTbl := (wd4 152 rfl rfl)
theorem cw_X1_reachedFrom : Cond.code yX1_reachedFrom cX1_reachedFrom 6 (some .int) ∈ eTbl := (wd4 155 rfl rfl)
theorem cw_X1_leastFullPower : Cond.code yX1_leastFullPower cX1_leastFullPower 8 (some .int) ∈ eTbl := (wd4 142 rfl rfl)
theorem cw_X1_product : Cond.code yX1_product cX1_product 8 (some .long) ∈ eTbl := (wd4 145 rfl rfl)
theorem cw_X2_init : Cond.code yX2_init cX2_init 1 none ∈ eTbl := (wd1 74 rfl rfl)
theorem cw_X2_makeMixture : Cond.code yX2_makeMixture cX2_makeMixture 25 (some .boolean) ∈ eTbl := (wd3 46 rfl rfl)
theorem cw_X2_multiplied : Cond.code yX2_multiplied cX2_multiplied 4 (some .long) ∈ eTbl := (wd3 52 rfl rfl)
theorem cw_X2_makeProduct : Cond.code yX2_makeProduct cX2_makeProduct 9 (some .boolean) ∈ eTbl := (wd3 77 rfl rfl)
theorem cw_X2_makeTurned : Cond.code yX2_makeTurned cX2_makeTurned 10 (some .boolean) ∈ eTbl := (wd3 85 rfl rfl)
theorem cw_X2_turnedFrom : Cond.code yX2_turnedFrom cX2_turnedFrom 5 (some .int) ∈ eTbl := (wd3 88 rfl rfl)
theorem cw_X2_bring : Cond.code yX2_bring cX2_bring 10 (some .boolean) ∈ eTbl := (wd3 57 rfl rfl)
theorem cw_X2_sharedDivisor : Cond.code yX2_sharedDivisor cX2_sharedDivisor 8 (some .long) ∈ eTbl := (wd3 61 rfl rfl)
theorem cw_X2_areCells : Cond.code yX2_areCells cX2_areCells 6 (some .boolean) ∈ eTbl := (wd3 67 rfl rfl)
theorem cw_X3_init : Cond.code yX3_init cX3_init 1 none ∈ eTbl := (wd1 137 rfl rfl)
theorem cw_X3_start : Cond.code yX3_start cX3_start 5 none ∈ eTbl := (wd3 110 rfl rfl)
theorem cw_X3_add : Cond.code yX3_add cX3_add 3 none ∈ eTbl := (wd3 174 rfl rfl)
theorem cw_X3_hasPart : Cond.code yX3_hasPart cX3_hasPart 2 (some .boolean) ∈ eTbl := (wd3 183 rfl rfl)
theorem cw_X3_hasRow : Cond.code yX3_hasRow cX3_hasRow 2 (some .boolean) ∈ eTbl := (wd3 187 rfl rfl)
theorem cw_X3_hasJob : Cond.code yX3_hasJob cX3_hasJob 2 (some .boolean) ∈ eTbl := (wd4 199 rfl rfl)
theorem cw_X3_columnOf : Cond.code yX3_columnOf cX3_columnOf 3 (some .int) ∈ eTbl := (wd3 191 rfl rfl)
theorem cw_X3_inLeastTerms : Cond.code yX3_inLeastTerms cX3_inLeastTerms 4 (some .int) ∈ eTbl := (wd3 199 rfl rfl)
theorem cw_X3_partAt : Cond.code yX3_partAt cX3_partAt 4 (some .int) ∈ eTbl := (wd3 208 rfl rfl)
theorem cw_X3_weightOfBoth : Cond.code yX3_weightOfBoth cX3_weightOfBoth 7 (some .int) ∈ eTbl := (wd3 216 rfl rfl)
theorem cw_X3_weightOf : Cond.code yX3_weightOf cX3_weightOf 3 (some .int) ∈ eTbl := (wd4 133 rfl rfl)
theorem cw_X3_commonestColumn : Cond.code yX3_commonestColumn cX3_commonestColumn 4 (some .int) ∈ eTbl := (wd4 129 rfl rfl)
theorem cw_X3_countColumns : Cond.code yX3_countColumns cX3_countColumns 4 (some .int) ∈ eTbl := (wd4 124 rfl rfl)
theorem cw_X3_machineOf : Cond.code yX3_machineOf cX3_machineOf 4 (some .int) ∈ eTbl := (wd4 203 rfl rfl)
theorem cw_X3_lastHour : Cond.code yX3_lastHour cX3_lastHour 5 (some .int) ∈ eTbl := (wd4 211 rfl rfl)
theorem cw_X3_countPieces : Cond.code yX3_countPieces cX3_countPieces 4 (some .int) ∈ eTbl := (wd4 216 rfl rfl)
theorem cw_X3_countMoves : Cond.code yX3_countMoves cX3_countMoves 6 (some .int) ∈ eTbl := (wd4 220 rfl rfl)
theorem cw_X4_greatestDivisor : Cond.code yX4_greatestDivisor cX4_greatestDivisor 11 (some .long) ∈ eTbl := (wd2 160 rfl rfl)
theorem cw_X4_leastMultiple : Cond.code yX4_leastMultiple cX4_leastMultiple 8 (some .long) ∈ eTbl := (wd2 176 rfl rfl)
theorem cw_X5_init : Cond.code yX5_init cX5_init 2 none ∈ eTbl := (wd1 107 rfl rfl)
theorem cw_X5_startTable : Cond.code yX5_startTable cX5_startTable 2 none ∈ eTbl := (wd3 103 rfl rfl)
theorem cw_X5_startShop : Cond.code yX5_startShop cX5_startShop 7 none ∈ eTbl := (wd4 184 rfl rfl)
theorem cw_X5_startLike : Cond.code yX5_startLike cX5_startLike 2 none ∈ eTbl := (wd4 67 rfl rfl)
theorem cw_X5_takePart : Cond.code yX5_takePart cX5_takePart 3 none ∈ eTbl := (wd3 118 rfl rfl)
theorem cw_X5_choose : Cond.code yX5_choose cX5_choose 6 (some .boolean) ∈ eTbl := (wd3 122 rfl rfl)
theorem cw_X5_leastPlace : Cond.code yX5_leastPlace cX5_leastPlace 6 (some .int) ∈ eTbl := (wd3 149 rfl rfl)
theorem cw_X5_choiceNumber : Cond.code yX5_choiceNumber cX5_choiceNumber 3 (some .int) ∈ eTbl := (wd4 71 rfl rfl)
theorem cw_X6_init : Cond.code yX6_init cX6_init 1 none ∈ eTbl := (wd1 198 rfl rfl)
theorem cw_X6_round : Cond.code yX6_round cX6_round 2 none ∈ eTbl := (wd4 83 rfl rfl)
theorem cw_X6_lay : Cond.code yX6_lay cX6_lay 8 none ∈ eTbl := (wd4 87 rfl rfl)
theorem cw_X6_setBounds : Cond.code yX6_setBounds cX6_setBounds 6 none ∈ eTbl := (wd4 92 rfl rfl)
theorem cw_X6_meetLows : Cond.code yX6_meetLows cX6_meetLows 3 none ∈ eTbl := (wd4 96 rfl rfl)
theorem cw_X6_meetLow : Cond.code yX6_meetLow cX6_meetLow 5 none ∈ eTbl := (wd4 100 rfl rfl)
theorem cw_X6_lessen : Cond.code yX6_lessen cX6_lessen 7 (some .long) ∈ eTbl := (wd4 116 rfl rfl)
theorem cw_X6_findWay : Cond.code yX6_findWay cX6_findWay 6 (some .boolean) ∈ eTbl := (wd4 104 rfl rfl)
theorem cw_X6_isOpen : Cond.code yX6_isOpen cX6_isOpen 5 (some .boolean) ∈ eTbl := (wd4 108 rfl rfl)
theorem cw_X6_flowAlong : Cond.code yX6_flowAlong cX6_flowAlong 6 none ∈ eTbl := (wd4 112 rfl rfl)
theorem cw_X7_init : Cond.code yX7_init cX7_init 3 none ∈ eTbl := (wd1 173 rfl rfl)
theorem cw_X7_seek : Cond.code yX7_seek cX7_seek 5 none ∈ eTbl := (wd4 59 rfl rfl)
theorem cw_X7_isNewStep : Cond.code yX7_isNewStep cX7_isNewStep 7 (some .boolean) ∈ eTbl := (wd4 63 rfl rfl)
theorem cw_X7_finish : Cond.code yX7_finish cX7_finish 6 none ∈ eTbl := (wd4 75 rfl rfl)
theorem cw_X7_countFewest : Cond.code yX7_countFewest cX7_countFewest 5 (some .int) ∈ eTbl := (wd3 225 rfl rfl)
theorem cw_X7_addWeight : Cond.code yX7_addWeight cX7_addWeight 3 none ∈ eTbl := (wd3 234 rfl rfl)
theorem cw_X7_leastOf : Cond.code yX7_leastOf cX7_leastOf 6 (some .int) ∈ eTbl := (wd3 237 rfl rfl)
theorem cw_X7_countAbove : Cond.code yX7_countAbove cX7_countAbove 7 (some .int) ∈ eTbl := (wd4 1 rfl rfl)
theorem cw_X8_init : Cond.code yX8_init cX8_init 1 none ∈ eTbl := (wd1 220 rfl rfl)
theorem cw_X8_write : Cond.code yX8_write cX8_write 4 none ∈ eTbl := (wd4 163 rfl rfl)
theorem cw_X8_putNumber : Cond.code yX8_putNumber cX8_putNumber 4 none ∈ eTbl := (wd4 167 rfl rfl)
theorem cw_X8_put : Cond.code yX8_put cX8_put 2 none ∈ eTbl := (wd4 171 rfl rfl)
theorem cw_X9_init : Cond.code yX9_init cX9_init 1 none ∈ eTbl := (wd1 234 rfl rfl)
theorem cw_X9_settle : Cond.code yX9_settle cX9_settle 4 none ∈ eTbl := (wd2 187 rfl rfl)
theorem cw_X9_has : Cond.code yX9_has cX9_has 2 (some .boolean) ∈ eTbl := (wd3 22 rfl rfl)
theorem cw_X9_joinedBy : Cond.code yX9_joinedBy cX9_joinedBy 2 (some .long) ∈ eTbl := (wd2 218 rfl rfl)
theorem cw_X9_sumOfRow : Cond.code yX9_sumOfRow cX9_sumOfRow 4 (some .int) ∈ eTbl := (wd2 198 rfl rfl)
theorem cw_X9_sumOfColumn : Cond.code yX9_sumOfColumn cX9_sumOfColumn 4 (some .int) ∈ eTbl := (wd2 202 rfl rfl)
theorem cw_X9_greatestSum : Cond.code yX9_greatestSum cX9_greatestSum 3 (some .int) ∈ eTbl := (wd4 188 rfl rfl)
theorem cw_X9_firstUneven : Cond.code yX9_firstUneven cX9_firstUneven 3 (some .int) ∈ eTbl := (wd2 194 rfl rfl)
theorem cw_X9_countAbove0 : Cond.code yX9_countAbove0 cX9_countAbove0 1 (some .int) ∈ eTbl := (wd2 214 rfl rfl)
theorem cw_X9_greatestCell : Cond.code yX9_greatestCell cX9_greatestCell 4 (some .int) ∈ eTbl := (wd2 231 rfl rfl)
theorem cw_X10_init : Cond.code yX10_init cX10_init 1 none ∈ eTbl := (wd1 33 rfl rfl)
theorem cw_X10_hasRoom : Cond.code yX10_hasRoom cX10_hasRoom 1 (some .boolean) ∈ eTbl := (wd2 85 rfl rfl)
theorem cw_X10_putNumber : Cond.code yX10_putNumber cX10_putNumber 3 none ∈ eTbl := (wd2 89 rfl rfl)
theorem cw_X10_drop : Cond.code yX10_drop cX10_drop 1 none ∈ eTbl := (wd2 105 rfl rfl)
theorem cw_X10_readInto : Cond.code yX10_readInto cX10_readInto 3 (some .int) ∈ eTbl := (wd2 109 rfl rfl)
theorem cw_X10_readPiece : Cond.code yX10_readPiece cX10_readPiece 1 none ∈ eTbl := (wd2 113 rfl rfl)
theorem cw_X10_closeRow : Cond.code yX10_closeRow cX10_closeRow 1 none ∈ eTbl := (wd2 125 rfl rfl)
theorem cw_X10_readFraction : Cond.code yX10_readFraction cX10_readFraction 2 none ∈ eTbl := (wd2 137 rfl rfl)
theorem cw_X10_readDivisor : Cond.code yX10_readDivisor cX10_readDivisor 3 (some .int) ∈ eTbl := (wd2 149 rfl rfl)
theorem cw_X10_keepFraction : Cond.code yX10_keepFraction cX10_keepFraction 5 none ∈ eTbl := (wd2 157 rfl rfl)
theorem cw_X10_countDigits : Cond.code yX10_countDigits cX10_countDigits 3 (some .int) ∈ eTbl := (wd2 141 rfl rfl)
theorem cw_X10_readNumber : Cond.code yX10_readNumber cX10_readNumber 3 (some .int) ∈ eTbl := (wd2 145 rfl rfl)
theorem cw_X10_skipBlanks : Cond.code yX10_skipBlanks cX10_skipBlanks 2 none ∈ eTbl := (wd2 153 rfl rfl)
theorem cw_X10_isSign : Cond.code yX10_isSign cX10_isSign 3 (some .boolean) ∈ eTbl := (wd2 121 rfl rfl)
theorem cw_X10_isBlank : Cond.code yX10_isBlank cX10_isBlank 2 (some .boolean) ∈ eTbl := (wd2 117 rfl rfl)
theorem cw_X10_isDigit : Cond.code yX10_isDigit cX10_isDigit 2 (some .boolean) ∈ eTbl := (wd2 133 rfl rfl)
theorem cw_X10_fail : Cond.code yX10_fail cX10_fail 3 none ∈ eTbl := (wd2 129 rfl rfl)
theorem cw_X10_checkEnd : Cond.code yX10_checkEnd cX10_checkEnd 1 none ∈ eTbl := (wd2 164 rfl rfl)
theorem cw_X10_fill : Cond.code yX10_fill cX10_fill 6 none ∈ eTbl := (wd2 168 rfl rfl)
theorem cw_X10_commonBelow : Cond.code yX10_commonBelow cX10_commonBelow 5 (some .int) ∈ eTbl := (wd2 172 rfl rfl)
theorem cw_X10_areCells : Cond.code yX10_areCells cX10_areCells 5 (some .boolean) ∈ eTbl := (wd2 182 rfl rfl)
theorem cw_X11_init : Cond.code yX11_init cX11_init 2 none ∈ eTbl := (wd1 23 rfl rfl)
theorem cw_X11_feed : Cond.code yX11_feed cX11_feed 6 (some .int) ∈ eTbl := (wd2 81 rfl rfl)
theorem cw_X11_end : Cond.code yX11_end cX11_end 2 (some .boolean) ∈ eTbl := (wd2 93 rfl rfl)
theorem cw_X11_table : Cond.code yX11_table cX11_table 3 (some .int) ∈ eTbl := (wd2 97 rfl rfl)
theorem cw_X11_fault : Cond.code yX11_fault cX11_fault 2 (some .int) ∈ eTbl := (wd2 206 rfl rfl)
theorem cw_X11_look : Cond.code yX11_look cX11_look 4 (some .int) ∈ eTbl := (wd2 210 rfl rfl)
theorem cw_X11_cell : Cond.code yX11_cell cX11_cell 5 (some .int) ∈ eTbl := (wd3 18 rfl rfl)
theorem cw_X11_uneven : Cond.code yX11_uneven cX11_uneven 3 (some .int) ∈ eTbl := (wd3 26 rfl rfl)
theorem cw_X11_mix : Cond.code yX11_mix cX11_mix 8 (some .boolean) ∈ eTbl := (wd3 35 rfl rfl)
theorem cw_X11_times : Cond.code yX11_times cX11_times 4 (some .boolean) ∈ eTbl := (wd3 73 rfl rfl)
theorem cw_X11_turn : Cond.code yX11_turn cX11_turn 7 (some .boolean) ∈ eTbl := (wd3 81 rfl rfl)
theorem cw_X11_peel : Cond.code yX11_peel cX11_peel 4 (some .int) ∈ eTbl := (wd3 92 rfl rfl)
theorem cw_X11_part : Cond.code yX11_part cX11_part 3 (some .int) ∈ eTbl := (wd3 179 rfl rfl)
theorem cw_X11_weight : Cond.code yX11_weight cX11_weight 4 (some .int) ∈ eTbl := (wd3 195 rfl rfl)
theorem cw_X11_draw : Cond.code yX11_draw cX11_draw 2 (some .int) ∈ eTbl := (wd3 204 rfl rfl)
theorem cw_X11_joint : Cond.code yX11_joint cX11_joint 6 (some .int) ∈ eTbl := (wd3 212 rfl rfl)
theorem cw_X11_bound : Cond.code yX11_bound cX11_bound 4 (some .int) ∈ eTbl := (wd3 221 rfl rfl)
theorem cw_X11_lack : Cond.code yX11_lack cX11_lack 9 (some .int) ∈ eTbl := (wd4 5 rfl rfl)
theorem cw_X11_paired : Cond.code yX11_paired cX11_paired 5 (some .int) ∈ eTbl := (wd4 18 rfl rfl)
theorem cw_X11_ways : Cond.code yX11_ways cX11_ways 4 (some .int) ∈ eTbl := (wd4 23 rfl rfl)
theorem cw_X11_widest : Cond.code yX11_widest cX11_widest 3 (some .int) ∈ eTbl := (wd4 31 rfl rfl)
theorem cw_X11_best : Cond.code yX11_best cX11_best 6 (some .long) ∈ eTbl := (wd4 36 rfl rfl)
theorem cw_X11_permanent : Cond.code yX11_permanent cX11_permanent 3 (some .long) ∈ eTbl := (wd4 42 rfl rfl)
theorem cw_X11_sought : Cond.code yX11_sought cX11_sought 4 (some .int) ∈ eTbl := (wd4 55 rfl rfl)
theorem cw_X11_rounded : Cond.code yX11_rounded cX11_rounded 6 (some .int) ∈ eTbl := (wd4 79 rfl rfl)
theorem cw_X11_most : Cond.code yX11_most cX11_most 4 (some .int) ∈ eTbl := (wd4 120 rfl rfl)
theorem cw_X11_mixing : Cond.code yX11_mixing cX11_mixing 3 (some .int) ∈ eTbl := (wd4 139 rfl rfl)
theorem cw_X11_kin : Cond.code yX11_kin cX11_kin 4 (some .int) ∈ eTbl := (wd4 149 rfl rfl)
theorem cw_X11_show : Cond.code yX11_show cX11_show 1 (some .int) ∈ eTbl := (wd4 159 rfl rfl)
theorem cw_X11_out : Cond.code yX11_out cX11_out 2 (some .int) ∈ eTbl := (wd4 176 rfl rfl)
theorem cw_X11_shop : Cond.code yX11_shop cX11_shop 4 (some .int) ∈ eTbl := (wd4 180 rfl rfl)
theorem cw_X11_works : Cond.code yX11_works cX11_works 4 (some .int) ∈ eTbl := (wd4 195 rfl rfl)
theorem cw_X11_job : Cond.code yX11_job cX11_job 3 (some .int) ∈ eTbl := (wd4 207 rfl rfl)
theorem cw_X11_kept : Cond.code yX11_kept cX11_kept 2 (some .int) ∈ eTbl := (wd4 224 rfl rfl)
theorem cw_X11_slotAt : Cond.code yX11_slotAt cX11_slotAt 2 (some (.object "EvenTables$Table")) ∈ eTbl := (wd2 101 rfl rfl)
theorem cw_X11_filledSlot : Cond.code yX11_filledSlot cX11_filledSlot 3 (some (.object "EvenTables$Table")) ∈ eTbl := (wd3 30 rfl rfl)
theorem cw_X11_evenSlot : Cond.code yX11_evenSlot cX11_evenSlot 3 (some (.object "EvenTables$Table")) ∈ eTbl := (wd3 96 rfl rfl)
theorem cw_X11_areLike : Cond.code yX11_areLike cX11_areLike 6 (some .boolean) ∈ eTbl := (wd3 42 rfl rfl)
theorem cw_X11_keepParts : Cond.code yX11_keepParts cX11_keepParts 3 (some .int) ∈ eTbl := (wd3 114 rfl rfl)
theorem cw_X11_isRule : Cond.code yX11_isRule cX11_isRule 1 (some .boolean) ∈ eTbl := (wd3 99 rfl rfl)
theorem cw_X11_isCell : Cond.code yX11_isCell cX11_isCell 1 (some .boolean) ∈ eTbl := (wd4 8 rfl rfl)
theorem cw_X11_isShare : Cond.code yX11_isShare cX11_isShare 2 (some .boolean) ∈ eTbl := (wd3 38 rfl rfl)
theorem cw_X12_isIn : Cond.code yX12_isIn cX12_isIn 6 (some .boolean) ∈ eTbl := (wd5 136 rfl rfl)
theorem cw_X12_one : Cond.code yX12_one cX12_one 1 (some .int) ∈ eTbl := (wd5 224 rfl rfl)
theorem cw_X12_init : Cond.code yX12_init cX12_init 1 none ∈ eTbl := (wd4 229 rfl rfl)
theorem cw_X12_common : Cond.code yX12_common cX12_common 10 (some .long) ∈ eTbl := (wd5 197 rfl rfl)
theorem cw_X12_takes : Cond.code yX12_takes cX12_takes 6 (some .boolean) ∈ eTbl := (wd5 202 rfl rfl)
theorem cw_X12_isSlot : Cond.code yX12_isSlot cX12_isSlot 1 (some .boolean) ∈ eTbl := (wd5 132 rfl rfl)
theorem cw_X12_isTable : Cond.code yX12_isTable cX12_isTable 2 (some .boolean) ∈ eTbl := (wd5 129 rfl rfl)
theorem cw_X12_at : Cond.code yX12_at cX12_at 4 (some .int) ∈ eTbl := (wd5 144 rfl rfl)
theorem cw_X12_rowOf : Cond.code yX12_rowOf cX12_rowOf 6 (some .long) ∈ eTbl := (wd5 140 rfl rfl)
theorem cw_X12_columnOf : Cond.code yX12_columnOf cX12_columnOf 6 (some .long) ∈ eTbl := (wd5 148 rfl rfl)
theorem cw_X12_isEven : Cond.code yX12_isEven cX12_isEven 2 (some .boolean) ∈ eTbl := (wd5 216 rfl rfl)
theorem cw_X12_uneven : Cond.code yX12_uneven cX12_uneven 3 (some .int) ∈ eTbl := (wd5 125 rfl rfl)
theorem cw_X12_four : Cond.code yX12_four cX12_four 3 none ∈ eTbl := (wd5 156 rfl rfl)
theorem cw_X12_feed : Cond.code yX12_feed cX12_feed 6 (some .int) ∈ eTbl := (wd5 152 rfl rfl)
theorem cw_X12_end : Cond.code yX12_end cX12_end 2 (some .boolean) ∈ eTbl := (wd5 160 rfl rfl)
theorem cw_X12_see : Cond.code yX12_see cX12_see 2 (some .int) ∈ eTbl := (wd5 172 rfl rfl)
theorem cw_X12_next : Cond.code yX12_next cX12_next 2 none ∈ eTbl := (wd5 168 rfl rfl)
theorem cw_X12_fails : Cond.code yX12_fails cX12_fails 2 (some .boolean) ∈ eTbl := (wd5 186 rfl rfl)
theorem cw_X12_isNumber : Cond.code yX12_isNumber cX12_isNumber 1 (some .boolean) ∈ eTbl := (wd5 182 rfl rfl)
theorem cw_X12_readFraction : Cond.code yX12_readFraction cX12_readFraction 3 (some .boolean) ∈ eTbl := (wd5 190 rfl rfl)
theorem cw_X12_readRow : Cond.code yX12_readRow cX12_readRow 3 (some .boolean) ∈ eTbl := (wd5 178 rfl rfl)
theorem cw_X12_isOver : Cond.code yX12_isOver cX12_isOver 7 (some .boolean) ∈ eTbl := (wd5 194 rfl rfl)
theorem cw_X12_table : Cond.code yX12_table cX12_table 4 (some .int) ∈ eTbl := (wd5 164 rfl rfl)
theorem cw_X12_fault : Cond.code yX12_fault cX12_fault 2 (some .int) ∈ eTbl := (wd5 207 rfl rfl)
theorem cw_X12_groupsOf : Cond.code yX12_groupsOf cX12_groupsOf 7 (some .int) ∈ eTbl := (wd5 228 rfl rfl)
theorem cw_X12_aboveNought : Cond.code yX12_aboveNought cX12_aboveNought 4 (some .int) ∈ eTbl := (wd5 221 rfl rfl)
theorem cw_X12_look : Cond.code yX12_look cX12_look 5 (some .int) ∈ eTbl := (wd5 211 rfl rfl)
theorem cw_X12_isCell : Cond.code yX12_isCell cX12_isCell 4 (some .boolean) ∈ eTbl := (wd5 236 rfl rfl)
theorem cw_X12_cell : Cond.code yX12_cell cX12_cell 4 (some .int) ∈ eTbl := (wd5 232 rfl rfl)
theorem cw_X12_isPart : Cond.code yX12_isPart cX12_isPart 2 (some .boolean) ∈ eTbl := (wd6 3 rfl rfl)
theorem cw_X12_grown : Cond.code yX12_grown cX12_grown 4 (some .long) ∈ eTbl := (wd6 8 rfl rfl)
theorem cw_X12_mix : Cond.code yX12_mix cX12_mix 20 (some .boolean) ∈ eTbl := (wd6 0 rfl rfl)
theorem cw_X12_times : Cond.code yX12_times cX12_times 10 (some .boolean) ∈ eTbl := (wd6 14 rfl rfl)
theorem cw_X12_behind : Cond.code yX12_behind cX12_behind 3 (some .int) ∈ eTbl := (wd6 22 rfl rfl)
theorem cw_X12_turn : Cond.code yX12_turn cX12_turn 10 (some .boolean) ∈ eTbl := (wd6 18 rfl rfl)
theorem cw_X12_bits : Cond.code yX12_bits cX12_bits 3 (some .int) ∈ eTbl := (wd6 56 rfl rfl)
theorem cw_X12_worked : Cond.code yX12_worked cX12_worked 3 (some .int) ∈ eTbl := (wd6 64 rfl rfl)
theorem cw_X12_worksOn : Cond.code yX12_worksOn cX12_worksOn 3 none ∈ eTbl := (wd6 33 rfl rfl)
theorem cw_X12_laysCan : Cond.code yX12_laysCan cX12_laysCan 9 none ∈ eTbl := (wd6 68 rfl rfl)
theorem cw_X12_isChosen : Cond.code yX12_isChosen cX12_isChosen 8 (some .boolean) ∈ eTbl := (wd6 53 rfl rfl)
theorem cw_X12_isOpen : Cond.code yX12_isOpen cX12_isOpen 6 (some .boolean) ∈ eTbl := (wd6 60 rfl rfl)
theorem cw_X12_chooseGreatest : Cond.code yX12_chooseGreatest cX12_chooseGreatest 5 (some .long) ∈ eTbl := (wd6 75 rfl rfl)
theorem cw_X12_choose : Cond.code yX12_choose cX12_choose 4 none ∈ eTbl := (wd6 49 rfl rfl)
theorem cw_X12_isLeft : Cond.code yX12_isLeft cX12_isLeft 2 (some .boolean) ∈ eTbl := (wd6 41 rfl rfl)
theorem cw_X12_peels : Cond.code yX12_peels cX12_peels 4 (some .int) ∈ eTbl := (wd6 45 rfl rfl)
theorem cw_X12_keepsAll : Cond.code yX12_keepsAll cX12_keepsAll 5 (some .int) ∈ eTbl := (wd6 37 rfl rfl)
theorem cw_X12_isRule : Cond.code yX12_isRule cX12_isRule 1 (some .boolean) ∈ eTbl := (wd6 29 rfl rfl)
theorem cw_X12_peel : Cond.code yX12_peel cX12_peel 3 (some .int) ∈ eTbl := (wd6 26 rfl rfl)
theorem cw_X12_isPartThere : Cond.code yX12_isPartThere cX12_isPartThere 2 (some .boolean) ∈ eTbl := (wd6 85 rfl rfl)
theorem cw_X12_isKeptRow : Cond.code yX12_isKeptRow cX12_isKeptRow 2 (some .boolean) ∈ eTbl := (wd6 89 rfl rfl)
theorem cw_X12_part : Cond.code yX12_part cX12_part 3 (some .int) ∈ eTbl := (wd6 81 rfl rfl)
theorem cw_X12_weight : Cond.code yX12_weight cX12_weight 4 (some .int) ∈ eTbl := (wd6 93 rfl rfl)
theorem cw_X12_draw : Cond.code yX12_draw cX12_draw 4 (some .int) ∈ eTbl := (wd6 98 rfl rfl)
theorem cw_X12_joint : Cond.code yX12_joint cX12_joint 8 (some .int) ∈ eTbl := (wd6 102 rfl rfl)
theorem cw_X12_together : Cond.code yX12_together cX12_together 5 (some .int) ∈ eTbl := (wd6 110 rfl rfl)
theorem cw_X12_most : Cond.code yX12_most cX12_most 6 (some .int) ∈ eTbl := (wd6 106 rfl rfl)
theorem cw_X12_bound : Cond.code yX12_bound cX12_bound 3 (some .int) ∈ eTbl := (wd6 114 rfl rfl)
theorem cw_X12_fewest : Cond.code yX12_fewest cX12_fewest 13 (some .int) ∈ eTbl := (wd6 118 rfl rfl)
theorem cw_X12_lies : Cond.code yX12_lies cX12_lies 5 (some .long) ∈ eTbl := (wd6 122 rfl rfl)
theorem cw_X12_sought : Cond.code yX12_sought cX12_sought 7 (some .int) ∈ eTbl := (wd6 126 rfl rfl)
theorem cw_X12_ruleOf : Cond.code yX12_ruleOf cX12_ruleOf 2 (some .int) ∈ eTbl := (wd6 130 rfl rfl)
theorem cw_X12_cut : Cond.code yX12_cut cX12_cut 3 (some .int) ∈ eTbl := (wd6 141 rfl rfl)
theorem cw_X12_up : Cond.code yX12_up cX12_up 3 (some .int) ∈ eTbl := (wd6 144 rfl rfl)
theorem cw_X12_laysBounds : Cond.code yX12_laysBounds cX12_laysBounds 10 none ∈ eTbl := (wd6 138 rfl rfl)
theorem cw_X12_edge : Cond.code yX12_edge cX12_edge 5 none ∈ eTbl := (wd6 152 rfl rfl)
theorem cw_X12_isKept : Cond.code yX12_isKept cX12_isKept 4 (some .boolean) ∈ eTbl := (wd6 148 rfl rfl)
theorem cw_X12_isWay : Cond.code yX12_isWay cX12_isWay 4 (some .boolean) ∈ eTbl := (wd6 156 rfl rfl)
theorem cw_X12_rounded : Cond.code yX12_rounded cX12_rounded 6 (some .int) ∈ eTbl := (wd6 134 rfl rfl)
theorem cw_X12_isLeast : Cond.code yX12_isLeast cX12_isLeast 1 (some .boolean) ∈ eTbl := (wd6 163 rfl rfl)
theorem cw_X12_joined : Cond.code yX12_joined cX12_joined 7 (some .int) ∈ eTbl := (wd6 167 rfl rfl)
theorem cw_X12_lack : Cond.code yX12_lack cX12_lack 8 (some .int) ∈ eTbl := (wd6 160 rfl rfl)
theorem cw_X12_paired : Cond.code yX12_paired cX12_paired 4 (some .int) ∈ eTbl := (wd6 171 rfl rfl)
theorem cw_X12_isSummed : Cond.code yX12_isSummed cX12_isSummed 11 (some .boolean) ∈ eTbl := (wd6 179 rfl rfl)
theorem cw_X12_ways : Cond.code yX12_ways cX12_ways 3 (some .int) ∈ eTbl := (wd6 175 rfl rfl)
theorem cw_X12_widest : Cond.code yX12_widest cX12_widest 2 (some .int) ∈ eTbl := (wd6 183 rfl rfl)
theorem cw_X12_best : Cond.code yX12_best cX12_best 5 (some .long) ∈ eTbl := (wd6 187 rfl rfl)
theorem cw_X12_permanent : Cond.code yX12_permanent cX12_permanent 2 (some .long) ∈ eTbl := (wd6 192 rfl rfl)
theorem cw_X12_mixing : Cond.code yX12_mixing cX12_mixing 9 (some .int) ∈ eTbl := (wd6 197 rfl rfl)
theorem cw_X12_kin : Cond.code yX12_kin cX12_kin 7 (some .int) ∈ eTbl := (wd6 201 rfl rfl)
theorem cw_X12_says : Cond.code yX12_says cX12_says 2 none ∈ eTbl := (wd6 209 rfl rfl)
theorem cw_X12_show : Cond.code yX12_show cX12_show 4 (some .int) ∈ eTbl := (wd6 205 rfl rfl)
theorem cw_X12_out : Cond.code yX12_out cX12_out 2 (some .int) ∈ eTbl := (wd6 213 rfl rfl)
theorem cw_X12_shop : Cond.code yX12_shop cX12_shop 8 (some .int) ∈ eTbl := (wd6 217 rfl rfl)
theorem cw_X12_isJob : Cond.code yX12_isJob cX12_isJob 2 (some .boolean) ∈ eTbl := (wd6 225 rfl rfl)
theorem cw_X12_works : Cond.code yX12_works cX12_works 4 (some .int) ∈ eTbl := (wd6 221 rfl rfl)
theorem cw_X12_job : Cond.code yX12_job cX12_job 10 (some .int) ∈ eTbl := (wd6 230 rfl rfl)
theorem cw_X12_kept : Cond.code yX12_kept cX12_kept 2 (some .int) ∈ eTbl := (wd6 234 rfl rfl)
theorem cw_J6_bitCount_0f7a4 : Cond.code yJ6_bitCount_0f7a4 cJ6_bitCount_0f7a4 1 (some .int) ∈ eTbl := (wd3 11 rfl rfl)
theorem cw_J13_bitCount_95d88 : Cond.code yJ13_bitCount_95d88 cJ13_bitCount_95d88 2 (some .int) ∈ eTbl := (wd2 224 rfl rfl)
theorem cw_J9_max_7cf53 : Cond.code yJ9_max_7cf53 cJ9_max_7cf53 2 (some .int) ∈ eTbl := (wd2 190 rfl rfl)
theorem cw_J9_max_f86c9 : Cond.code yJ9_max_f86c9 cJ9_max_f86c9 4 (some .long) ∈ eTbl := (wd3 137 rfl rfl)
theorem cw_J9_min_7cf53 : Cond.code yJ9_min_7cf53 cJ9_min_7cf53 2 (some .int) ∈ eTbl := (wd3 170 rfl rfl)
theorem cw_J9_min_f86c9 : Cond.code yJ9_min_f86c9 cJ9_min_f86c9 4 (some .long) ∈ eTbl := (wd3 134 rfl rfl)
theorem cw_J7_fill_53178 : Cond.code yJ7_fill_53178 cJ7_fill_53178 4 none ∈ eTbl := (wd3 228 rfl rfl)
end
section
def up (σ : eS) (c : Nat) (k : Int) (z : Int) : eS := fun c' k' => if c' = c ∧ k' = k then z else σ c' k'
theorem up_same (σ : eS) (c : Nat) (k z : Int) : up σ c k z c k = z := by simp [up]
theorem up_ne (σ : eS) {c c' : Nat} (k k' z : Int) (h : c' ≠ c) : up σ c k z c' k' = σ c' k' := by simp [up, h]
theorem up_nk (σ : eS) {k k' : Int} (c c' : Nat) (z : Int) (h : k' ≠ k) : up σ c k z c' k' = σ c' k' := by simp [up, h]
theorem eE_up {dA : Nat → ClassId} {ad : Nat → Nat} {σ : eS} {c c' : Nat} {k z : Int} {r : Nat × Nat × List Nat} (h : c' ≠ c) : eE dA ad (up σ c k z) c' r = eE dA ad σ c' r := by
  unfold eE
  simp only [up_ne _ _ _ _ h]
theorem eW_up {sh : eSh} {dA : Nat → ClassId} {ad : Nat → Nat} {σ : eS} {c : Nat} {k z : Int} {r : Nat × Nat × List Nat} (h : sh[c]? = some r) {x : va_E} (hx : eE dA ad (up σ c k z) c r = x) : (eW sh dA ad σ).set c (ad c, x) = eW sh dA ad (up σ c k z) := by
  subst hx
  apply List.ext_getElem?
  intro j
  by_cases hj : j = c
  · subst hj
    rw [eW_at h, List.getElem?_set_self]
    simp only [eW, List.length_mapIdx]
    exact (List.getElem?_eq_some_iff.mp h).1
  · rw [List.getElem?_set_ne (fun q => hj q.symm)]
    simp only [eW, List.getElem?_mapIdx]
    cases sh[j]? with
    | none => rfl
    | some r' => simp only [Option.map_some, eE_up hj]
theorem eGd_up {sh : eSh} {σ : eS} {c : Nat} {k z : Int} (h : eGd sh σ) (h1 : rl z) (h2 : eLong sh c k = false → rg z) : eGd sh (up σ c k z) := by
  intro c' k'
  by_cases hc : c' = c ∧ k' = k
  · obtain ⟨rfl, rfl⟩ := hc
    rw [up_same]
    exact ⟨h1, h2⟩
  · have : up σ c k z c' k' = σ c' k' := by simp [up, hc]
    rw [this]
    exact h c' k'
theorem rg_rl {z : Int} (h : rg z) : rl z := ⟨by omega, by omega⟩
section E3
variable {sh : eSh} {M : eM} {pc pc' tgt : Nat} {ls : List (Option eV)} {st st' : List eV} {σ : eS} {Q : eS → Option eV → Prop}
theorem og_get (i : Nat) {c0 x ci k t : Nat} {kz : Int} {ts : List Nat} (hd : nth (eTab M) i = some (pc, .getfield x, pc')) (hn : pc + 3 = pc') (hf : eFk (eOwn M) x ci k kz) (hs : nth sh c0 = some (0, ci, ts)) (ht : nth ts k = some t) {v : eV} (hv : ∀ ad : Nat → Nat, eFv ad (σ c0 kz) t = eR ad v) (hk : eGd sh σ → eK v) (K : Ok sh M pc' ls (v :: st) σ Q) : Ok sh M pc ls (vr c0 :: st) σ Q := by
  intro l p e s m args below meth c D dA ad H locs la C hH hL hS
  obtain ⟨q, q1, q2, q3, q4, rfl⟩ := hf
  have hw := eW_at (dA := dA) (ad := ad) (σ := σ) (nth_get hs)
  exact va_get (a := ad c0) C.2.1 C.2.2.1 C.2.2.2.2.2.2.2.1 (eCl_in q1) C.2.2.2.2.2.2.1 C.2.2.2.2.2.2.2.2.1 hH.1 c0 hw q1 k q3 (C.2.2.2.2.2.2.2.1 _ q2) (fun x h => h) (v := eR ad v) (by
    show (ts.mapIdx _)[k]? = _
    rw [List.getElem?_mapIdx, nth_get ht]
    exact congrArg some (hv ad)) (C.1.dec hd hn) (Ok.go K C hH hL ⟨hk hH.2.2, hS.2⟩ hn rfl)
theorem eGd_i {c0 ci k : Nat} {ts : List Nat} {t : Nat} (h : eGd sh σ) (hs : nth sh c0 = some (0, ci, ts)) (ht : nth ts k = some t) (h1 : t ≠ 1) : rg (σ c0 (k : Int)) := by
  refine (h c0 k).2 ?_
  unfold eLong
  rw [nth_get hs]
  simp [nth_get ht, h1]
theorem ok_getI (i : Nat) {c0 x ci k t : Nat} {kz : Int} {ts : List Nat} (hd : nth (eTab M) i = some (pc, .getfield x, pc')) (hn : pc + 3 = pc') (hf : eFk (eOwn M) x ci k kz) (hs : nth sh c0 = some (0, ci, ts)) (ht : nth ts k = some t) (h0 : t = 0 ∨ t = 2) (K : Ok sh M pc' ls (vi (σ c0 kz) :: st) σ Q) : Ok sh M pc ls (vr c0 :: st) σ Q := by
  refine og_get i hd hn hf hs ht (fun ad => ?_) (fun h => ?_) K
  · rcases h0 with rfl | rfl <;> rfl
  · obtain ⟨q, q1, q2, q3, q4, rfl⟩ := hf
    exact eGd_i h hs ht (by omega)
theorem ok_getL (i : Nat) {c0 x ci k : Nat} {kz : Int} {ts : List Nat} (hd : nth (eTab M) i = some (pc, .getfield x, pc')) (hn : pc + 3 = pc') (hf : eFk (eOwn M) x ci k kz) (hs : nth sh c0 = some (0, ci, ts)) (ht : nth ts k = some 1) (K : Ok sh M pc' ls (vl (σ c0 kz) :: st) σ Q) : Ok sh M pc ls (vr c0 :: st) σ Q :=
  og_get (v := vl (σ c0 kz)) i hd hn hf hs ht (fun ad => rfl) (fun h => (h c0 kz).1) K
theorem ok_getR (i : Nat) {c0 x ci k r : Nat} {kz : Int} {ts : List Nat} (hd : nth (eTab M) i = some (pc, .getfield x, pc')) (hn : pc + 3 = pc') (hf : eFk (eOwn M) x ci k kz) (hs : nth sh c0 = some (0, ci, ts)) (ht : nth ts k = some (r + 3)) (K : Ok sh M pc' ls (vr r :: st) σ Q) : Ok sh M pc ls (vr c0 :: st) σ Q :=
  og_get (v := vr r) i hd hn hf hs ht (fun ad => by simp [eFv, eR]) (fun h => trivial) K
theorem og_put (i : Nat) {c0 x ci k t : Nat} {z kz : Int} {ts : List Nat} {v : eV} {ty : FieldType} (hd : nth (eTab M) i = some (pc, .putfield x, pc')) (hn : pc + 3 = pc') (hf : eFk (eOwn M) x ci k kz) (hs : nth sh c0 = some (0, ci, ts)) (ht : nth ts k = some t) (hfin : (((eCl.getD ci ("", fun _ => ("", "", "", false), 0)).2.1) k).2.2.2 = false) (hty : parseFieldDescriptor (((eCl.getD ci ("", fun _ => ("", "", "", false), 0)).2.1) k).2.2.1 = some ty) (hv : ∀ ad : Nat → Nat, eFv ad z t = eR ad v ∧ narrow ty (eR ad v) = eR ad v ∧ fits ty (eR ad v) = true) (hg : eK v → rl z ∧ (eLong sh c0 kz = false → rg z)) (K : Ok sh M pc' ls st (up σ c0 kz z) Q) : Ok sh M pc ls (v :: vr c0 :: st) σ Q := by
  intro l p e s m args below meth c D dA ad H locs la C hH hL hS
  obtain ⟨q, q1, q2, q3, q4, rfl⟩ := hf
  have hq : eCl.getD ci ("", fun _ => ("", "", "", false), 0) = q := by rw [List.getD_eq_getElem?_getD, q1]; rfl
  rw [hq] at hfin hty
  have hw := eW_at (dA := dA) (ad := ad) (σ := σ) (nth_get hs)
  have hkl : k < ts.length := (List.getElem?_eq_some_iff.mp (nth_get ht)).1
  refine va_put (a := ad c0) C.2.1 C.2.2.1 C.2.2.2.2.2.2.2.1 (eCl_in q1) (eTyOf.getD ci (fun _ => .int)) (eCl_ty ci q4 q q1) (eCl_nm ci q4 q q1) C.2.2.2.2.2.2.1 C.2.2.2.2.2.2.2.2.1 hH.1 (eD C.2.2.2.2.2.2.2.2.2.2) hH.2.1 c0 hw q1 k q3 (C.2.2.2.2.2.2.2.1 _ q2) (fun x h => h) hfin hty (hv ad).2.1 (hv ad).2.2 (by rw [List.length_mapIdx]; exact hkl) (C.1.dec hd hn) (fun H1 locs1 hP1 _ hS1 => ?_)
  have he : eE dA ad (up σ c0 k z) c0 (0, ci, ts) = .inr (ci, (ts.mapIdx (fun j t => eFv ad (σ c0 (j : Nat)) t)).set k (eR ad v)) := by
    show Sum.inr (ci, ts.mapIdx _) = _
    congr 2
    apply List.ext_getElem?
    intro j
    by_cases hj : j = k
    · subst hj
      rw [List.getElem?_set_self (by rw [List.length_mapIdx]; exact hkl), List.getElem?_mapIdx, nth_get ht, Option.map_some, up_same]
      exact congrArg some (hv ad).1
    · rw [List.getElem?_set_ne (fun q => hj q.symm), List.getElem?_mapIdx, List.getElem?_mapIdx, up_nk _ _ _ _ (by omega)]
  rw [eW_up (nth_get hs) he] at hP1
  have hk2 := hg hS.1
  exact Ok.go K C ⟨hP1, hS1, eGd_up hH.2.2 hk2.1 hk2.2⟩ hL hS.2.2 hn rfl
theorem ok_putI (i : Nat) {c0 x ci k : Nat} {z kz : Int} {ts : List Nat} (hd : nth (eTab M) i = some (pc, .putfield x, pc')) (hn : pc + 3 = pc') (hf : eFk (eOwn M) x ci k kz) (hs : nth sh c0 = some (0, ci, ts)) (ht : nth ts k = some 0) (hfin : (((eCl.getD ci ("", fun _ => ("", "", "", false), 0)).2.1) k).2.2.2 = false) (hty : parseFieldDescriptor (((eCl.getD ci ("", fun _ => ("", "", "", false), 0)).2.1) k).2.2.1 = some .int) (K : Ok sh M pc' ls st (up σ c0 kz z) Q) : Ok sh M pc ls (vi z :: vr c0 :: st) σ Q :=
  og_put i hd hn hf hs ht hfin hty (fun ad => ⟨rfl, rfl, rfl⟩) (fun h => ⟨rg_rl h, fun _ => h⟩) K
theorem ok_putZ (i : Nat) {c0 x ci k : Nat} {z kz : Int} {ts : List Nat} (hd : nth (eTab M) i = some (pc, .putfield x, pc')) (hn : pc + 3 = pc') (hf : eFk (eOwn M) x ci k kz) (hs : nth sh c0 = some (0, ci, ts)) (ht : nth ts k = some 2) (hfin : (((eCl.getD ci ("", fun _ => ("", "", "", false), 0)).2.1) k).2.2.2 = false) (hty : parseFieldDescriptor (((eCl.getD ci ("", fun _ => ("", "", "", false), 0)).2.1) k).2.2.1 = some .boolean) (hz : z = 0 ∨ z = 1) (K : Ok sh M pc' ls st (up σ c0 kz z) Q) : Ok sh M pc ls (vi z :: vr c0 :: st) σ Q :=
  og_put i hd hn hf hs ht hfin hty (fun ad => by rcases hz with rfl | rfl <;> exact ⟨rfl, rfl, rfl⟩) (fun h => ⟨rg_rl h, fun _ => h⟩) K
theorem ok_putL (i : Nat) {c0 x ci k : Nat} {z kz : Int} {ts : List Nat} (hd : nth (eTab M) i = some (pc, .putfield x, pc')) (hn : pc + 3 = pc') (hf : eFk (eOwn M) x ci k kz) (hs : nth sh c0 = some (0, ci, ts)) (ht : nth ts k = some 1) (hfin : (((eCl.getD ci ("", fun _ => ("", "", "", false), 0)).2.1) k).2.2.2 = false) (hty : parseFieldDescriptor (((eCl.getD ci ("", fun _ => ("", "", "", false), 0)).2.1) k).2.2.1 = some .long) (K : Ok sh M pc' ls st (up σ c0 kz z) Q) : Ok sh M pc ls (vl z :: vr c0 :: st) σ Q :=
  og_put i hd hn hf hs ht hfin hty (fun ad => ⟨rfl, rfl, rfl⟩) (fun h => ⟨h, fun q => by
    obtain ⟨q0, q1, q2, q3, q4, rfl⟩ := hf
    unfold eLong at q
    rw [nth_get hs] at q
    simp [nth_get ht] at q⟩) K
/-! arrays -/
theorem ix_nat {j : Int} {n : Nat} (hj : rg j) (h0 : 0 ≤ j) (h1 : j < n) : (Int32.ofInt j).toNatClampNeg = j.toNat ∧ vp_in (Int32.ofInt j) n := by
  have e := rg_in hj
  have e2 : (Int32.ofInt j).toNatClampNeg = j.toNat := by
    show (Int32.ofInt j).toInt.toNat = _
    rw [e]
  refine ⟨e2, vp_in_iff.mpr ?_⟩
  rw [e]
  exact ⟨h0, h1⟩
theorem eKt {M : eM} {p : Program} {s : State} {m : MethodId} {args : Array Value} {meth : Method} {c : Code} {D : va_G} {dA : Nat → ClassId} {ad : Nat → Nat} {c0 : Nat} {r : Nat × Nat × List Nat} (C : eCx sh M p s m args meth c D dA ad) (hs : nth sh c0 = some r) (hr : r.1 ≠ 0) : va_K D eCl [(dA c0, eTy r.1)] s := by
  refine ⟨C.2.2.2.2.2.2.2.2.1.1, fun k q h => ?_⟩
  match k, h with
  | 0, h => cases h; exact C.2.2.2.2.2.2.2.2.2.1 c0 r (nth_get hs) hr
  | k + 1, h => simp at h
theorem eGd_a {c0 t n : Nat} {rs : List Nat} {k : Int} (h : eGd sh σ) (hs : nth sh c0 = some (t, n, rs)) (ht : t = 1 ∨ t = 3) : rg (σ c0 k) := by
  refine (h c0 k).2 ?_
  unfold eLong
  rw [nth_get hs]
  rcases ht with rfl | rfl <;> rfl
theorem ok_iald (i : Nat) {c0 n : Nat} {j : Int} {rs : List Nat} (hd : nth (eTab M) i = some (pc, .iaload, pc')) (hn : pc + 1 = pc') (hs : nth sh c0 = some (1, n, rs)) (hj : 0 ≤ j ∧ j < (n : Int)) (K : Ok sh M pc' ls (vi (σ c0 j) :: st) σ Q) : Ok sh M pc ls (vi j :: vr c0 :: st) σ Q := by
  intro l p e s m args below meth c D dA ad H locs la C hH hL hS
  obtain ⟨e1, e2⟩ := ix_nat hS.1 hj.1 hj.2
  have hw := eW_at (dA := dA) (ad := ad) (σ := σ) (nth_get hs)
  refine va_iald (a := ad c0) C.2.1 C.2.2.1 (eKt C hs (Nat.succ_ne_zero _)) hH.1 c0 0 hw rfl e2 (C.1.dec hd hn) (Ok.go K C hH hL ⟨eGd_a hH.2.2 hs (Or.inl rfl), hS.2.2⟩ hn ?_)
  rw [e1]
  show Value.int (Int32.ofInt (σ c0 j)) :: _ = Value.int (Int32.ofInt (σ c0 (j.toNat : Int))) :: _
  rw [Int.toNat_of_nonneg hj.1]
theorem ok_lald (i : Nat) {c0 n : Nat} {j : Int} {rs : List Nat} (hd : nth (eTab M) i = some (pc, .laload, pc')) (hn : pc + 1 = pc') (hs : nth sh c0 = some (2, n, rs)) (hj : 0 ≤ j ∧ j < (n : Int)) (K : Ok sh M pc' ls (vl (σ c0 j) :: st) σ Q) : Ok sh M pc ls (vi j :: vr c0 :: st) σ Q := by
  intro l p e s m args below meth c D dA ad H locs la C hH hL hS
  obtain ⟨e1, e2⟩ := ix_nat hS.1 hj.1 hj.2
  have hw := eW_at (dA := dA) (ad := ad) (σ := σ) (nth_get hs)
  refine va_lald (a := ad c0) C.2.1 C.2.2.1 (eKt C hs (Nat.succ_ne_zero _)) hH.1 c0 0 hw rfl e2 (C.1.dec hd hn) (Ok.go K C hH hL ⟨(hH.2.2 c0 j).1, hS.2.2⟩ hn ?_)
  rw [e1]
  show Value.long (Int64.ofInt (σ c0 j)) :: _ = Value.long (Int64.ofInt (σ c0 (j.toNat : Int))) :: _
  rw [Int.toNat_of_nonneg hj.1]
theorem ok_zald (i : Nat) {c0 n : Nat} {j : Int} {rs : List Nat} (hd : nth (eTab M) i = some (pc, .baload, pc')) (hn : pc + 1 = pc') (hs : nth sh c0 = some (3, n, rs)) (hj : 0 ≤ j ∧ j < (n : Int)) (K : Ok sh M pc' ls (vi (σ c0 j) :: st) σ Q) : Ok sh M pc ls (vi j :: vr c0 :: st) σ Q := by
  intro l p e s m args below meth c D dA ad H locs la C hH hL hS
  obtain ⟨e1, e2⟩ := ix_nat hS.1 hj.1 hj.2
  have hw := eW_at (dA := dA) (ad := ad) (σ := σ) (nth_get hs)
  refine va_zald (a := ad c0) C.2.1 C.2.2.1 (eKt C hs (Nat.succ_ne_zero _)) hH.1 c0 0 hw rfl e2 (C.1.dec hd hn) (Ok.go K C hH hL ⟨eGd_a hH.2.2 hs (Or.inr rfl), hS.2.2⟩ hn ?_)
  rw [e1]
  show Value.int (Int32.ofInt (σ c0 j)) :: _ = Value.int (Int32.ofInt (σ c0 (j.toNat : Int))) :: _
  rw [Int.toNat_of_nonneg hj.1]
theorem ok_aald (i r : Nat) {c0 n t : Nat} {j : Int} {rs : List Nat} (hd : nth (eTab M) i = some (pc, .aaload, pc')) (hn : pc + 1 = pc') (hs : nth sh c0 = some (t, n, rs)) (ht : t = 4 ∨ t = 5) (hj : 0 ≤ j ∧ j < (n : Int)) (hr : rs[j.toNat]? = some r) (K : Ok sh M pc' ls (vr r :: st) σ Q) : Ok sh M pc ls (vi j :: vr c0 :: st) σ Q := by
  intro l p e s m args below meth c D dA ad H locs la C hH hL hS
  obtain ⟨e1, e2⟩ := ix_nat hS.1 hj.1 hj.2
  have hw := eW_at (dA := dA) (ad := ad) (σ := σ) (nth_get hs)
  have hz : ∀ f : Nat → Option Nat, f (Int32.ofInt j).toNatClampNeg = some (ad r) → (vr r :: st).map (eR ad) = va_rf (f (Int32.ofInt j).toNatClampNeg) :: st.map (eR ad) := fun f h => by rw [h]; rfl
  rcases ht with rfl | rfl
  · exact va_aldq (a := ad c0) (C := "EvenTables$Table") C.2.1 C.2.2.1 (eKt C hs (Nat.succ_ne_zero _)) hH.1 c0 0 hw rfl e2 (C.1.dec hd hn) (Ok.go K C hH hL ⟨trivial, hS.2.2⟩ hn (hz (fun k => rs[k]?.map ad) (by show (rs[_]?).map ad = _; rw [e1, hr]; rfl)))
  · exact va_aldq (a := ad c0) (C := "EvenTables$Peeler") C.2.1 C.2.2.1 (eKt C hs (Nat.succ_ne_zero _)) hH.1 c0 0 hw rfl e2 (C.1.dec hd hn) (Ok.go K C hH hL ⟨trivial, hS.2.2⟩ hn (hz (fun k => rs[k]?.map ad) (by show (rs[_]?).map ad = _; rw [e1, hr]; rfl)))
theorem eE_ia {dA : Nat → ClassId} {ad : Nat → Nat} {c0 n t : Nat} {rs : List Nat} {j z : Int} (ht : t = 1 ∨ t = 3) (h0 : 0 ≤ j) : eE dA ad (up σ c0 j z) c0 (t, n, rs) = .inl (dA c0, n, .inl (upd (fun k => Int32.ofInt (σ c0 ((k : Nat) : Int))) j.toNat (Int32.ofInt z))) := by
  have : eE dA ad (up σ c0 j z) c0 (t, n, rs) = .inl (dA c0, n, .inl (fun k => Int32.ofInt (up σ c0 j z c0 ((k : Nat) : Int)))) := by rcases ht with rfl | rfl <;> rfl
  rw [this]
  congr 4
  funext k
  unfold upd
  by_cases hk : k = j.toNat
  · rw [if_pos hk, hk, Int.toNat_of_nonneg h0, up_same]
  · rw [if_neg hk, up_nk _ _ _ _ (by omega)]
theorem ok_iast (i : Nat) {c0 n : Nat} {j z : Int} {rs : List Nat} (hd : nth (eTab M) i = some (pc, .iastore, pc')) (hn : pc + 1 = pc') (hs : nth sh c0 = some (1, n, rs)) (hj : 0 ≤ j ∧ j < (n : Int)) (K : Ok sh M pc' ls st (up σ c0 j z) Q) : Ok sh M pc ls (vi z :: vi j :: vr c0 :: st) σ Q := by
  intro l p e s m args below meth c D dA ad H locs la C hH hL hS
  obtain ⟨e1, e2⟩ := ix_nat hS.2.1 hj.1 hj.2
  have hw := eW_at (dA := dA) (ad := ad) (σ := σ) (nth_get hs)
  refine va_iast (a := ad c0) C.2.1 C.2.2.1 (eKt C hs (Nat.succ_ne_zero _)) hH.1 (eD C.2.2.2.2.2.2.2.2.2.2) hH.2.1 c0 0 hw rfl e2 (C.1.dec hd hn) (fun H1 locs1 hP1 _ hS1 => ?_)
  rw [e1, eW_up (nth_get hs) (eE_ia (Or.inl rfl) hj.1)] at hP1
  exact Ok.go K C ⟨hP1, hS1, eGd_up hH.2.2 (rg_rl hS.1) (fun _ => hS.1)⟩ hL hS.2.2.2 hn rfl
theorem ok_zast (i : Nat) {c0 n : Nat} {j z : Int} {rs : List Nat} (hd : nth (eTab M) i = some (pc, .bastore, pc')) (hn : pc + 1 = pc') (hs : nth sh c0 = some (3, n, rs)) (hj : 0 ≤ j ∧ j < (n : Int)) (hz : z = 0 ∨ z = 1) (K : Ok sh M pc' ls st (up σ c0 j z) Q) : Ok sh M pc ls (vi z :: vi j :: vr c0 :: st) σ Q := by
  intro l p e s m args below meth c D dA ad H locs la C hH hL hS
  obtain ⟨e1, e2⟩ := ix_nat hS.2.1 hj.1 hj.2
  have hw := eW_at (dA := dA) (ad := ad) (σ := σ) (nth_get hs)
  refine va_zast (a := ad c0) C.2.1 C.2.2.1 (eKt C hs (Nat.succ_ne_zero _)) hH.1 (eD C.2.2.2.2.2.2.2.2.2.2) hH.2.1 c0 0 hw rfl e2 (C.1.dec hd hn) (fun H1 locs1 hP1 _ hS1 => ?_)
  have hna : vp_nar .boolean (Int32.ofInt z) = Int32.ofInt z := by rcases hz with rfl | rfl <;> rfl
  rw [hna, e1, eW_up (nth_get hs) (eE_ia (Or.inr rfl) hj.1)] at hP1
  exact Ok.go K C ⟨hP1, hS1, eGd_up hH.2.2 (rg_rl hS.1) (fun _ => hS.1)⟩ hL hS.2.2.2 hn rfl
theorem ok_last (i : Nat) {c0 n : Nat} {j z : Int} {rs : List Nat} (hd : nth (eTab M) i = some (pc, .lastore, pc')) (hn : pc + 1 = pc') (hs : nth sh c0 = some (2, n, rs)) (hj : 0 ≤ j ∧ j < (n : Int)) (K : Ok sh M pc' ls st (up σ c0 j z) Q) : Ok sh M pc ls (vl z :: vi j :: vr c0 :: st) σ Q := by
  intro l p e s m args below meth c D dA ad H locs la C hH hL hS
  obtain ⟨e1, e2⟩ := ix_nat hS.2.1 hj.1 hj.2
  have hw := eW_at (dA := dA) (ad := ad) (σ := σ) (nth_get hs)
  refine va_last (a := ad c0) C.2.1 C.2.2.1 (eKt C hs (Nat.succ_ne_zero _)) hH.1 (eD C.2.2.2.2.2.2.2.2.2.2) hH.2.1 c0 0 hw rfl e2 (C.1.dec hd hn) (fun H1 locs1 hP1 _ hS1 => ?_)
  have he : eE dA ad (up σ c0 j z) c0 (2, n, rs) = .inl (dA c0, n, .inr (.inl (vp_updL (fun k => Int64.ofInt (σ c0 ((k : Nat) : Int))) j.toNat (Int64.ofInt z)))) := by
    show Sum.inl (dA c0, n, Sum.inr (Sum.inl (fun k : Nat => Int64.ofInt (up σ c0 j z c0 (k : Int))))) = _
    congr 5
    funext k
    unfold vp_updL
    by_cases hk : k = j.toNat
    · rw [if_pos hk, hk, Int.toNat_of_nonneg hj.1, up_same]
    · rw [if_neg hk, up_nk _ _ _ _ (by omega)]
  rw [e1, eW_up (nth_get hs) he] at hP1
  exact Ok.go K C ⟨hP1, hS1, eGd_up hH.2.2 hS.1 (fun q => by unfold eLong at q; rw [nth_get hs] at q; cases q)⟩ hL hS.2.2.2 hn rfl
theorem ok_alen (i : Nat) {c0 n t : Nat} {nz : Int} {rs : List Nat} (hd : nth (eTab M) i = some (pc, .arraylength, pc')) (hn : pc + 1 = pc') (hs : nth sh c0 = some (t, n, rs)) (ht : t = 1) (hz : (n : Int) = nz) (hr : rg nz) (K : Ok sh M pc' ls (vi nz :: st) σ Q) : Ok sh M pc ls (vr c0 :: st) σ Q := by
  intro l p e s m args below meth c D dA ad H locs la C hH hL hS
  subst ht
  have hw := eW_at (dA := dA) (ad := ad) (σ := σ) (nth_get hs)
  exact va_alen (a := ad c0) (v := Int32.ofInt nz) C.2.1 C.2.2.1 (eKt C hs (Nat.succ_ne_zero _)) hH.1 c0 0 hw rfl (by show Int32.ofNat n = _; rw [← hz]; rfl) (C.1.dec hd hn) (Ok.go K C hH hL ⟨hr, hS.2⟩ hn rfl)
end E3
end
section
theorem eKA.moved {sh : eSh} {dA : Nat → ClassId} {u U : State} (hvm : u.vm.Alike U.vm) (h : eKA sh dA u) : eKA sh dA U := fun c r h1 h2 => ⟨arrOfT_moved hvm (h c r h1 h2).1, (h c r h1 h2).2.moved hvm⟩
section E4
variable {sh : eSh} {M : eM} {pc pc' tgt : Nat} {ls : List (Option eV)} {st st0 : List eV} {σ : eS} {Q : eS → Option eV → Prop}
theorem ePc_blind {D : va_G} {dA : Nat → ClassId} {ad : Nat → Nat} {as : List eV} : FrameBlind (ePc sh D dA ad as σ) := fun a U g mk q =>
  ⟨q.1, q.2.1, va_K.moved (u := U) (U := U.calling g mk a) (Vm.Alike.refl U.vm) q.2.2.1, eKA.moved (u := U) (U := U.calling g mk a) (Vm.Alike.refl U.vm) q.2.2.2⟩
theorem cat_sum (ad : Nat → Nat) : ∀ l : List eV, ((l.map (eR ad)).map fun v => v.category).sum = (l.map eCat).sum
  | [] => rfl
  | v :: l => by simp only [List.map_cons, List.sum_cons, eR_cat, cat_sum ad l]
/-- behind a call -/
theorem og_back {l : Launch} {p : Program} {e : Env} {s : State} {m : MethodId} {args : Array Value} {below : List Frame} {meth : Method} {c : Code} {D : va_G} {dA : Nat → ClassId} {ad : Nat → Nat} {H : Heap} {locs : List Loc} {la : Array Slot} {Q' : eS → Option eV → Prop} {stk : List Value} {a : Array Value}
    (C : eCx sh M p s m args meth c D dA ad) (hH : eHp sh s D dA ad σ H locs) (hL : eLs la (eNL M) ad ls) (hS : eKs st) (hn : pc + 3 = pc') (hrun : va_Run p l e (eRm M) s m args below meth c H locs 0 0 0 0 (F0 m pc la stk) (st.map (eR ad)) (eQ sh D dA ad Q' a) (eA sh ad))
    (K : ∀ σ' v, Q' σ' v → Ok sh M pc' ls (v.toList ++ st) σ' Q) : W p l e (eRm M) s m args below meth c H locs 0 0 (MQ below (eQ sh D dA ad Q) args s 0 0 (eA sh ad)) (F0 m pc la stk) := by
  intro T hT X
  obtain ⟨v, st₀, t, T', L, h0, X', hL', e1, e2, ⟨⟨v', σ', hv, hq, hk, hgd, hP'⟩, hF⟩, hgo⟩ := hrun T hT X
  cases hv
  have hS' : va_S (eA sh ad) s.heap T'.heap (locs ++ L) := by
    refine ⟨?_, fun q h1 h2 => ?_, fun q hq' => ?_⟩
    · rw [e1]
      exact Nat.le_trans hH.2.1.1 (by rw [← h0]; exact hF.1)
    · rw [e1, hF.2 q (by rw [h0]; exact Nat.lt_of_lt_of_le h1 hH.2.1.1) h2, h0]
      exact hH.2.1.2.1 q h1 h2
    · rcases List.mem_append.mp hq' with h | h
      · exact hH.2.1.2.2 q h
      · exact hL' q h
  have hks : eKs (v'.toList ++ st) := by
    cases v' with
    | none => exact hS
    | some x => exact ⟨hk x rfl, hS⟩
  have h := K σ' v' hq l p e s m args below meth c D dA ad T'.heap (locs ++ L) la C ⟨by rw [e1]; exact hP', hS', hgd⟩ hL hks
  obtain ⟨t2, a1, b1⟩ := h T' rfl X'
  refine ⟨t2, hgo t2 ?_, b1⟩
  have : (v'.toList ++ st).map (eR ad) = (v'.map (eR ad)).toList ++ st.map (eR ad) := by cases v' <;> rfl
  rw [this, ← hn] at a1
  exact a1
theorem og_callV (i : Nat) {x c0 ci : Nat} {M' : eM} {as : List eV} {Q' : eS → Option eV → Prop} {ts : List Nat} (hd : nth (eTab M) i = some (pc, .invokevirtual x, pc')) (hn : pc + 3 = pc') (hl : eLkV (eOwn M) x (eNm M') as.length) (hM : Mt sh M' (vr c0 :: as) σ Q') (hs : nth sh c0 = some (0, ci, ts)) (hc : (eCl.getD ci ("", fun _ => ("", "", "", false), 0)).1 = eOwn M') (hci : ci < eCl.length)
    (hr : (eRm M').frames + 1 ≤ (eRm M).frames ∧ 8 + (eNL M' + 11) + (eRm M').locals ≤ (eRm M).locals) (hst : st0 = as.reverse ++ vr c0 :: st) (hw : (st.map eCat).sum ≤ 8) (K : ∀ σ' v, Q' σ' v → Ok sh M pc' ls (v.toList ++ st) σ' Q) : Ok sh M pc ls st0 σ Q := by
  intro l p e s m args below meth c D dA ad H locs la C hH hL hS
  obtain ⟨w1, w2, w3, w4, w5, w6, w7⟩ := hl
  subst hst
  have hcls : (eNm M').cls = eOwn M' := hM.1.2.2.2.1
  have ksA : ∀ (xs : List eV), eKs (xs.reverse ++ vr c0 :: st) → eKs (vr c0 :: xs) ∧ eKs st := by
    intro xs h
    have h1 := eKs_at h
    exact ⟨eKs_of fun v hv => by
      rcases List.mem_cons.mp hv with rfl | hv
      · trivial
      · exact h1 v (List.mem_append_left _ (List.mem_reverse.mpr hv)), eKs_of fun v hv => h1 v (List.mem_append_right _ (List.mem_cons_of_mem _ hv))⟩
  obtain ⟨k1, k2⟩ := ksA as hS
  have hMet := hM.2 l D dA ad C.2.2.2.2.2.2.2.2.2.2 k1 hH.2.2
  have hstk : (as.reverse ++ vr c0 :: st).map (eR ad) = (as.map (eR ad)).reverse ++ .ref (ad c0) :: st.map (eR ad) := by
    rw [List.map_append, List.map_reverse, List.map_cons]
    rfl
  rw [hstk]
  have hq1 : eCl[ci]? = some (eCl.getD ci ("", fun _ => ("", "", "", false), 0)) := by
    rw [List.getD_eq_getElem?_getD, List.getElem?_eq_getElem hci]
    rfl
  have hg : GoodIn eTbl (wsV (eOwn M) x (eOwn M') (eNm M') (eWs M')) := eGoodIn fun w hw => by
    simp only [wsV, List.mem_append, List.mem_cons, List.not_mem_nil, or_false] at hw
    rcases hw with (rfl | rfl | rfl | rfl) | hw
    · exact w1
    · exact w3
    · rw [← hcls]; exact w4
    · rw [← hcls]; exact w2
    · rcases List.mem_cons.mp hw with rfl | hw
      · exact hM.1.2.1
      · exact hw
  refine og_back C hH hL k2 hn (va_runV (C := eOwn M') (As := as.map (eR ad)) (rest := st.map (eR ad)) (b := ad c0) ⟨C.2.1, C.2.2.1, C.2.2.2.1, C.2.2.2.2.2.2.1, C.2.2.2.2.2.2.2.1⟩ hMet (cwV as.length C.2.2.2.2.2.2.2.1 hg rfl hM.1.2.2.2.2.1 hM.1.2.2.2.2.2 ⟨hcls, w5, w6, w7⟩ hr) ⟨ePc_blind, ?_, fun U hU hW => ⟨rfl, by rw [hU]; exact hH.1, va_K.moved hW.alike C.2.2.2.2.2.2.2.2.1, eKA.moved hW.alike C.2.2.2.2.2.2.2.2.2.1⟩⟩ rfl (by rw [List.length_map]) hL.1 rfl (lv_room (by rw [cat_sum]; exact hw)) (C.1.dec hd hn) ⟨Nat.zero_le _, Nat.zero_le _⟩) K
  have hw1 := eW_at (dA := dA) (ad := ad) (σ := σ) (nth_get hs)
  have := va_recv (q0 := c0) C.2.2.2.2.2.2.2.2.1 hH.1 hq1 hw1
  rwa [hc] at this
theorem og_callS (i : Nat) {x : Nat} {M' : eM} {as : List eV} {Q' : eS → Option eV → Prop} (hd : nth (eTab M) i = some (pc, .invokestatic x, pc')) (hn : pc + 3 = pc') (hl : eLkS (eOwn M) x (eNm M') as.length) (hM : Mt sh M' as σ Q')
    (hr : (eRm M').frames + 1 ≤ (eRm M).frames ∧ 8 + (eNL M' + 11) + (eRm M').locals ≤ (eRm M).locals) (hst : st0 = as.reverse ++ st) (hw : (st.map eCat).sum ≤ 8) (K : ∀ σ' v, Q' σ' v → Ok sh M pc' ls (v.toList ++ st) σ' Q) : Ok sh M pc ls st0 σ Q := by
  intro l p e s m args below meth c D dA ad H locs la C hH hL hS
  obtain ⟨w1, w2, w3, w5, w6, w7⟩ := hl
  subst hst
  have h1 := eKs_at hS
  have k1 : eKs as := eKs_of fun v hv => h1 v (List.mem_append_left _ (List.mem_reverse.mpr hv))
  have k2 : eKs st := eKs_of fun v hv => h1 v (List.mem_append_right _ hv)
  have hMet := hM.2 l D dA ad C.2.2.2.2.2.2.2.2.2.2 k1 hH.2.2
  have hstk : (as.reverse ++ st).map (eR ad) = (as.map (eR ad)).reverse ++ st.map (eR ad) := by
    rw [List.map_append, List.map_reverse]
  rw [hstk]
  have hg : GoodIn eTbl (eWs M') := eGoodIn fun w hw => by
    rcases List.mem_cons.mp hw with rfl | hw
    · exact hM.1.2.1
    · exact hw
  exact og_back C hH hL k2 hn (va_runS (As := as.map (eR ad)) (rest := st.map (eR ad)) ⟨C.2.1, C.2.2.1, C.2.2.2.1, C.2.2.2.2.2.2.1, C.2.2.2.2.2.2.2.1⟩ hMet ⟨callB_of as.length C.2.2.2.2.2.2.2.1 hg rfl hM.1.2.2.2.2.1 hM.1.2.2.2.2.2 (C.2.2.2.2.2.2.2.1 _ w2) (C.2.2.2.2.2.2.2.1 _ w1) ⟨w5, w6, w7⟩ hr, C.2.2.2.2.2.2.2.1 _ w3⟩ ⟨ePc_blind, fun U hU hW => ⟨rfl, by rw [hU]; exact hH.1, va_K.moved hW.alike C.2.2.2.2.2.2.2.2.1, eKA.moved hW.alike C.2.2.2.2.2.2.2.2.2.1⟩⟩ rfl (by rw [List.length_map]) hL.1 rfl (lv_room (by rw [cat_sum]; exact hw)) (C.1.dec hd hn) ⟨Nat.zero_le _, Nat.zero_le _⟩) K
/-! contracts by what comes back: an int, a long, a reference or null, nothing -/
def MtI (sh : eSh) (M : eM) (as : List eV) (σ : eS) (P : eS → Int → Prop) : Prop := Mt sh M as σ (fun σ' v => ∃ z, v = some (vi z) ∧ P σ' z)
def MtL (sh : eSh) (M : eM) (as : List eV) (σ : eS) (P : eS → Int → Prop) : Prop := Mt sh M as σ (fun σ' v => ∃ z, v = some (vl z) ∧ P σ' z)
def MtR (sh : eSh) (M : eM) (as : List eV) (σ : eS) (P : eS → Option Nat → Prop) : Prop := Mt sh M as σ (fun σ' v => ∃ z, v = some (.inr (.inr z)) ∧ P σ' z)
def MtV (sh : eSh) (M : eM) (as : List eV) (σ : eS) (P : eS → Prop) : Prop := Mt sh M as σ (fun σ' v => v = none ∧ P σ')
theorem ok_callVI (i : Nat) {x c0 ci : Nat} {M' : eM} {as : List eV} {ts : List Nat} {P : eS → Int → Prop} (hd : nth (eTab M) i = some (pc, .invokevirtual x, pc')) (hn : pc + 3 = pc') (hl : eLkV (eOwn M) x (eNm M') as.length) (hM : MtI sh M' (vr c0 :: as) σ P) (hs : nth sh c0 = some (0, ci, ts)) (hc : (eCl.getD ci ("", fun _ => ("", "", "", false), 0)).1 = eOwn M') (hci : ci < eCl.length) (hr : (eRm M').frames + 1 ≤ (eRm M).frames ∧ 8 + (eNL M' + 11) + (eRm M').locals ≤ (eRm M).locals) (hst : st0 = as.reverse ++ vr c0 :: st) (hw : (st.map eCat).sum ≤ 8) (K : ∀ σ' z, P σ' z → Ok sh M pc' ls (vi z :: st) σ' Q) : Ok sh M pc ls st0 σ Q :=
  og_callV i hd hn hl hM hs hc hci hr hst hw (fun σ' v h => by obtain ⟨z, rfl, h⟩ := h; exact K σ' z h)
theorem ok_callVL (i : Nat) {x c0 ci : Nat} {M' : eM} {as : List eV} {ts : List Nat} {P : eS → Int → Prop} (hd : nth (eTab M) i = some (pc, .invokevirtual x, pc')) (hn : pc + 3 = pc') (hl : eLkV (eOwn M) x (eNm M') as.length) (hM : MtL sh M' (vr c0 :: as) σ P) (hs : nth sh c0 = some (0, ci, ts)) (hc : (eCl.getD ci ("", fun _ => ("", "", "", false), 0)).1 = eOwn M') (hci : ci < eCl.length) (hr : (eRm M').frames + 1 ≤ (eRm M).frames ∧ 8 + (eNL M' + 11) + (eRm M').locals ≤ (eRm M).locals) (hst : st0 = as.reverse ++ vr c0 :: st) (hw : (st.map eCat).sum ≤ 8) (K : ∀ σ' z, P σ' z → Ok sh M pc' ls (vl z :: st) σ' Q) : Ok sh M pc ls st0 σ Q :=
  og_callV i hd hn hl hM hs hc hci hr hst hw (fun σ' v h => by obtain ⟨z, rfl, h⟩ := h; exact K σ' z h)
theorem ok_callVR (i : Nat) {x c0 ci : Nat} {M' : eM} {as : List eV} {ts : List Nat} {P : eS → Option Nat → Prop} (hd : nth (eTab M) i = some (pc, .invokevirtual x, pc')) (hn : pc + 3 = pc') (hl : eLkV (eOwn M) x (eNm M') as.length) (hM : MtR sh M' (vr c0 :: as) σ P) (hs : nth sh c0 = some (0, ci, ts)) (hc : (eCl.getD ci ("", fun _ => ("", "", "", false), 0)).1 = eOwn M') (hci : ci < eCl.length) (hr : (eRm M').frames + 1 ≤ (eRm M).frames ∧ 8 + (eNL M' + 11) + (eRm M').locals ≤ (eRm M).locals) (hst : st0 = as.reverse ++ vr c0 :: st) (hw : (st.map eCat).sum ≤ 8) (K : ∀ σ' z, P σ' z → Ok sh M pc' ls (.inr (.inr z) :: st) σ' Q) : Ok sh M pc ls st0 σ Q :=
  og_callV i hd hn hl hM hs hc hci hr hst hw (fun σ' v h => by obtain ⟨z, rfl, h⟩ := h; exact K σ' z h)
theorem ok_callVV (i : Nat) {x c0 ci : Nat} {M' : eM} {as : List eV} {ts : List Nat} {P : eS → Prop} (hd : nth (eTab M) i = some (pc, .invokevirtual x, pc')) (hn : pc + 3 = pc') (hl : eLkV (eOwn M) x (eNm M') as.length) (hM : MtV sh M' (vr c0 :: as) σ P) (hs : nth sh c0 = some (0, ci, ts)) (hc : (eCl.getD ci ("", fun _ => ("", "", "", false), 0)).1 = eOwn M') (hci : ci < eCl.length) (hr : (eRm M').frames + 1 ≤ (eRm M).frames ∧ 8 + (eNL M' + 11) + (eRm M').locals ≤ (eRm M).locals) (hst : st0 = as.reverse ++ vr c0 :: st) (hw : (st.map eCat).sum ≤ 8) (K : ∀ σ', P σ' → Ok sh M pc' ls st σ' Q) : Ok sh M pc ls st0 σ Q :=
  og_callV i hd hn hl hM hs hc hci hr hst hw (fun σ' v h => by obtain ⟨rfl, h⟩ := h; exact K σ' h)
theorem ok_callSI (i : Nat) {x : Nat} {M' : eM} {as : List eV} {P : eS → Int → Prop} (hd : nth (eTab M) i = some (pc, .invokestatic x, pc')) (hn : pc + 3 = pc') (hl : eLkS (eOwn M) x (eNm M') as.length) (hM : MtI sh M' (as) σ P)  (hr : (eRm M').frames + 1 ≤ (eRm M).frames ∧ 8 + (eNL M' + 11) + (eRm M').locals ≤ (eRm M).locals) (hst : st0 = as.reverse ++ st) (hw : (st.map eCat).sum ≤ 8) (K : ∀ σ' z, P σ' z → Ok sh M pc' ls (vi z :: st) σ' Q) : Ok sh M pc ls st0 σ Q :=
  og_callS i hd hn hl hM hr hst hw (fun σ' v h => by obtain ⟨z, rfl, h⟩ := h; exact K σ' z h)
theorem ok_callSL (i : Nat) {x : Nat} {M' : eM} {as : List eV} {P : eS → Int → Prop} (hd : nth (eTab M) i = some (pc, .invokestatic x, pc')) (hn : pc + 3 = pc') (hl : eLkS (eOwn M) x (eNm M') as.length) (hM : MtL sh M' (as) σ P)  (hr : (eRm M').frames + 1 ≤ (eRm M).frames ∧ 8 + (eNL M' + 11) + (eRm M').locals ≤ (eRm M).locals) (hst : st0 = as.reverse ++ st) (hw : (st.map eCat).sum ≤ 8) (K : ∀ σ' z, P σ' z → Ok sh M pc' ls (vl z :: st) σ' Q) : Ok sh M pc ls st0 σ Q :=
  og_callS i hd hn hl hM hr hst hw (fun σ' v h => by obtain ⟨z, rfl, h⟩ := h; exact K σ' z h)
theorem ok_callSR (i : Nat) {x : Nat} {M' : eM} {as : List eV} {P : eS → Option Nat → Prop} (hd : nth (eTab M) i = some (pc, .invokestatic x, pc')) (hn : pc + 3 = pc') (hl : eLkS (eOwn M) x (eNm M') as.length) (hM : MtR sh M' (as) σ P)  (hr : (eRm M').frames + 1 ≤ (eRm M).frames ∧ 8 + (eNL M' + 11) + (eRm M').locals ≤ (eRm M).locals) (hst : st0 = as.reverse ++ st) (hw : (st.map eCat).sum ≤ 8) (K : ∀ σ' z, P σ' z → Ok sh M pc' ls (.inr (.inr z) :: st) σ' Q) : Ok sh M pc ls st0 σ Q :=
  og_callS i hd hn hl hM hr hst hw (fun σ' v h => by obtain ⟨z, rfl, h⟩ := h; exact K σ' z h)
theorem ok_callSV (i : Nat) {x : Nat} {M' : eM} {as : List eV} {P : eS → Prop} (hd : nth (eTab M) i = some (pc, .invokestatic x, pc')) (hn : pc + 3 = pc') (hl : eLkS (eOwn M) x (eNm M') as.length) (hM : MtV sh M' (as) σ P)  (hr : (eRm M').frames + 1 ≤ (eRm M).frames ∧ 8 + (eNL M' + 11) + (eRm M').locals ≤ (eRm M).locals) (hst : st0 = as.reverse ++ st) (hw : (st.map eCat).sum ≤ 8) (K : ∀ σ', P σ' → Ok sh M pc' ls st σ' Q) : Ok sh M pc ls st0 σ Q :=
  og_callS i hd hn hl hM hr hst hw (fun σ' v h => by obtain ⟨rfl, h⟩ := h; exact K σ' h)
end E4
end
section
theorem okM_of {M : eM} (h : (eTab M).all (fun e => decide (decode (eCode M) e.1 = .ok (e.2.1, e.2.2 - e.1))) = true) (h1 : Cond.code (eNm M) (eCode M) (eNL M) (eRet M) ∈ eTbl) (h2 : plainName (eNm M).cls = true) (h3 : (eNm M).cls = eOwn M) (h4 : (eRm M).cells = 0) (h5 : (eRm M).slots = 0) : okM M :=
  ⟨fun e he => of_decide_eq_true (List.all_eq_true.mp h e he), h1, h2, h3, h4, h5⟩
end
section
def M_Ch_findFirst : eM := (RX0, yX0_findFirst, cX0_findFirst, 9, (some .boolean), { frames := 1, cells := 0, slots := 0, locals := 25 }, [(0, .aload_n 0, 1), (1, .dup, 2), (2, .getfield 22, 5), (5, .iconst 1, 6), (6, .iadd, 7), (7, .putfield 22, 10), (10, .iconst 0, 11), (11, .istore 4, 13), (13, .iconst 0, 14), (14, .istore 5, 16), (16, .iconst 0, 17), (17, .istore 6, 19), (19, .iconst 0, 20), (20, .istore 7, 22), (22, .iload 7, 24), (24, .sipush 520, 27), (27, .if_icmp .ge 116, 30), (30, .iload 5, 32), (32, .iload_n 3, 33), (33, .if_icmp .ge 110, 36), (36, .aload_n 0, 37), (37, .lload_n 1, 38), (38, .iload 5, 40), (40, .invokestatic 26, 43), (43, .iload 4, 45), (45, .iconst (-1), 46), (46, .ixor, 47), (47, .iand, 48), (48, .iload 4, 50), (50, .iload 6, 52), (52, .iload_n 3, 53), (53, .invokevirtual 32, 56), (56, .istore 8, 58), (58, .iload 8, 60), (60, .iload_n 3, 61), (61, .if_icmp .ge 30, 64), (64, .aload_n 0, 65), (65, .getfield 9, 68), (68, .iload 5, 70), (70, .iload 8, 72), (72, .iastore, 73), (73, .iload 4, 75), (75, .iconst 1, 76), (76, .iload 8, 78), (78, .ishl, 79), (79, .ior, 80), (80, .istore 4, 82), (82, .iconst 0, 83), (83, .istore 6, 85), (85, .iinc 5 1, 88), (88, .goto 49, 91), (91, .iload 5, 93), (93, .ifCond .ne 5, 96), (96, .iconst 0, 97), (97, .ireturn, 98), (98, .aload_n 0, 99), (99, .getfield 19, 102), (102, .iload 4, 104), (104, .aload_n 0, 105), (105, .getfield 22, 108), (108, .iastore, 109), (109, .iinc 5 (-1), 112), (112, .iload 4, 114), (114, .iconst 1, 115), (115, .aload_n 0, 116), (116, .getfield 9, 119), (119, .iload 5, 121), (121, .iaload, 122), (122, .ishl, 123), (123, .ixor, 124), (124, .istore 4, 126), (126, .aload_n 0, 127), (127, .getfield 9, 130), (130, .iload 5, 132), (132, .iaload, 133), (133, .iconst 1, 134), (134, .iadd, 135), (135, .istore 6, 137), (137, .iinc 7 1, 140), (140, .goto (-118), 143), (143, .iload 5, 145), (145, .iload_n 3, 146), (146, .if_icmp .ne 7, 149), (149, .iconst 1, 150), (150, .goto 4, 153), (153, .iconst 0, 154), (154, .ireturn, 155)])
theorem okM_Ch_findFirst : okM M_Ch_findFirst := okM_of (by decide +kernel) cw_X0_findFirst rfl rfl rfl rfl
def M_Ch_nextColumn : eM := (RX0, yX0_nextColumn, cX0_nextColumn, 6, (some .int), { frames := 0, cells := 0, slots := 0, locals := 0 }, [(0, .iload_n 3, 1), (1, .istore 5, 3), (3, .iload 5, 5), (5, .iload 4, 7), (7, .if_icmp .ge 39, 10), (10, .iload_n 1, 11), (11, .iload 5, 13), (13, .ishr, 14), (14, .iconst 1, 15), (15, .iand, 16), (16, .ifCond .eq 24, 19), (19, .aload_n 0, 20), (20, .getfield 19, 23), (23, .iload_n 2, 24), (24, .iconst 1, 25), (25, .iload 5, 27), (27, .ishl, 28), (28, .ior, 29), (29, .iaload, 30), (30, .aload_n 0, 31), (31, .getfield 22, 34), (34, .if_icmp .eq 6, 37), (37, .iload 5, 39), (39, .ireturn, 40), (40, .iinc 5 1, 43), (43, .goto (-40), 46), (46, .iload 4, 48), (48, .ireturn, 49)])
theorem okM_Ch_nextColumn : okM M_Ch_nextColumn := okM_of (by decide +kernel) cw_X0_nextColumn rfl rfl rfl rfl
def M_Ch_greatestLeast : eM := (RX0, yX0_greatestLeast, cX0_greatestLeast, 12, (some .long), { frames := 1, cells := 0, slots := 0, locals := 23 }, [(0, .iconst 1, 1), (1, .iload 4, 3), (3, .ishl, 4), (4, .iconst 1, 5), (5, .isub, 6), (6, .istore 5, 8), (8, .aload_n 0, 9), (9, .getfield 15, 12), (12, .iload 5, 14), (14, .ldc2_w 36, 17), (17, .lastore, 18), (18, .iload 5, 20), (20, .iconst 1, 21), (21, .isub, 22), (22, .istore 6, 24), (24, .iload 6, 26), (26, .ifCond .lt 102, 29), (29, .iload 6, 31), (31, .invokestatic 38, 34), (34, .istore 7, 36), (36, .lload_n 2, 37), (37, .iload 7, 39), (39, .invokestatic 26, 42), (42, .iload 6, 44), (44, .iconst (-1), 45), (45, .ixor, 46), (46, .iand, 47), (47, .istore 8, 49), (49, .ldc2_w 44, 52), (52, .lstore 9, 54), (54, .iconst 0, 55), (55, .istore 11, 57), (57, .iload 11, 59), (59, .iload 4, 61), (61, .if_icmp .ge 52, 64), (64, .iload 8, 66), (66, .iload 11, 68), (68, .ishr, 69), (69, .iconst 1, 70), (70, .iand, 71), (71, .ifCond .eq 36, 74), (74, .lload 9, 76), (76, .aload_n 1, 77), (77, .iload 7, 79), (79, .bipush 8, 81), (81, .imul, 82), (82, .iload 11, 84), (84, .iadd, 85), (85, .iaload, 86), (86, .i2l, 87), (87, .aload_n 0, 88), (88, .getfield 15, 91), (91, .iload 6, 93), (93, .iconst 1, 94), (94, .iload 11, 96), (96, .ishl, 97), (97, .ior, 98), (98, .laload, 99), (99, .invokestatic 46, 102), (102, .invokestatic 52, 105), (105, .lstore 9, 107), (107, .iinc 11 1, 110), (110, .goto (-53), 113), (113, .aload_n 0, 114), (114, .getfield 15, 117), (117, .iload 6, 119), (119, .lload 9, 121), (121, .lastore, 122), (122, .iinc 6 (-1), 125), (125, .goto (-101), 128), (128, .aload_n 0, 129), (129, .getfield 15, 132), (132, .iconst 0, 133), (133, .laload, 134), (134, .lreturn, 135)])
theorem okM_Ch_greatestLeast : okM M_Ch_greatestLeast := okM_of (by decide +kernel) cw_X0_greatestLeast rfl rfl rfl rfl
def M_Ch_findRichest : eM := (RX0, yX0_findRichest, cX0_findRichest, 8, (some .long), { frames := 2, cells := 0, slots := 0, locals := 54 }, [(0, .aload_n 0, 1), (1, .aload_n 1, 2), (2, .lload_n 2, 3), (3, .iload 4, 5), (5, .invokevirtual 55, 8), (8, .aload_n 0, 9), (9, .getfield 15, 12), (12, .iconst 0, 13), (13, .laload, 14), (14, .ldc2_w 44, 17), (17, .lcmp, 18), (18, .ifCond .ne 7, 21), (21, .ldc2_w 44, 24), (24, .lreturn, 25), (25, .iconst 0, 26), (26, .istore 5, 28), (28, .iconst 0, 29), (29, .istore 6, 31), (31, .iload 6, 33), (33, .iload 4, 35), (35, .if_icmp .ge 51, 38), (38, .aload_n 0, 39), (39, .aload_n 1, 40), (40, .iload 6, 42), (42, .lload_n 2, 43), (43, .iload 6, 45), (45, .invokestatic 26, 48), (48, .iload 5, 50), (50, .iconst (-1), 51), (51, .ixor, 52), (52, .iand, 53), (53, .iload 5, 55), (55, .iload 4, 57), (57, .invokevirtual 59, 60), (60, .istore 7, 62), (62, .aload_n 0, 63), (63, .getfield 9, 66), (66, .iload 6, 68), (68, .iload 7, 70), (70, .iastore, 71), (71, .iload 5, 73), (73, .iconst 1, 74), (74, .iload 7, 76), (76, .ishl, 77), (77, .ior, 78), (78, .istore 5, 80), (80, .iinc 6 1, 83), (83, .goto (-52), 86), (86, .aload_n 0, 87), (87, .getfield 15, 90), (90, .iconst 0, 91), (91, .laload, 92), (92, .lreturn, 93)])
theorem okM_Ch_findRichest : okM M_Ch_findRichest := okM_of (by decide +kernel) cw_X0_findRichest rfl rfl rfl rfl
def M_Ch_sumUp : eM := (RX0, yX0_sumUp, cX0_sumUp, 12, none, { frames := 1, cells := 0, slots := 0, locals := 23 }, [(0, .iconst 1, 1), (1, .iload 4, 3), (3, .ishl, 4), (4, .iconst 1, 5), (5, .isub, 6), (6, .istore 5, 8), (8, .aload_n 0, 9), (9, .getfield 15, 12), (12, .iload 5, 14), (14, .lconst 0, 15), (15, .lastore, 16), (16, .iload 5, 18), (18, .iconst 1, 19), (19, .isub, 20), (20, .istore 6, 22), (22, .iload 6, 24), (24, .ifCond .lt 119, 27), (27, .iload 6, 29), (29, .invokestatic 38, 32), (32, .istore 7, 34), (34, .lload_n 2, 35), (35, .iload 7, 37), (37, .invokestatic 26, 40), (40, .iload 6, 42), (42, .iconst (-1), 43), (43, .ixor, 44), (44, .iand, 45), (45, .istore 8, 47), (47, .ldc2_w 44, 50), (50, .lstore 9, 52), (52, .iconst 0, 53), (53, .istore 11, 55), (55, .iload 11, 57), (57, .iload 4, 59), (59, .if_icmp .ge 69, 62), (62, .iload 8, 64), (64, .iload 11, 66), (66, .ishr, 67), (67, .iconst 1, 68), (68, .iand, 69), (69, .ifCond .eq 53, 72), (72, .aload_n 0, 73), (73, .getfield 15, 76), (76, .iload 6, 78), (78, .iconst 1, 79), (79, .iload 11, 81), (81, .ishl, 82), (82, .ior, 83), (83, .laload, 84), (84, .ldc2_w 44, 87), (87, .lcmp, 88), (88, .ifCond .eq 34, 91), (91, .lload 9, 93), (93, .aload_n 1, 94), (94, .iload 7, 96), (96, .bipush 8, 98), (98, .imul, 99), (99, .iload 11, 101), (101, .iadd, 102), (102, .iaload, 103), (103, .i2l, 104), (104, .aload_n 0, 105), (105, .getfield 15, 108), (108, .iload 6, 110), (110, .iconst 1, 111), (111, .iload 11, 113), (113, .ishl, 114), (114, .ior, 115), (115, .laload, 116), (116, .ladd, 117), (117, .invokestatic 52, 120), (120, .lstore 9, 122), (122, .iinc 11 1, 125), (125, .goto (-70), 128), (128, .aload_n 0, 129), (129, .getfield 15, 132), (132, .iload 6, 134), (134, .lload 9, 136), (136, .lastore, 137), (137, .iinc 6 (-1), 140), (140, .goto (-118), 143), (143, .return_, 144)])
theorem okM_Ch_sumUp : okM M_Ch_sumUp := okM_of (by decide +kernel) cw_X0_sumUp rfl rfl rfl rfl
def M_Ch_richestColumn : eM := (RX0, yX0_richestColumn, cX0_richestColumn, 9, (some .int), { frames := 0, cells := 0, slots := 0, locals := 0 }, [(0, .iconst 0, 1), (1, .istore 6, 3), (3, .iload 6, 5), (5, .iload 5, 7), (7, .if_icmp .ge 68, 10), (10, .iload_n 3, 11), (11, .iload 6, 13), (13, .ishr, 14), (14, .iconst 1, 15), (15, .iand, 16), (16, .ifCond .eq 53, 19), (19, .aload_n 0, 20), (20, .getfield 15, 23), (23, .iload 4, 25), (25, .iconst 1, 26), (26, .iload 6, 28), (28, .ishl, 29), (29, .ior, 30), (30, .laload, 31), (31, .lstore 7, 33), (33, .lload 7, 35), (35, .ldc2_w 44, 38), (38, .lcmp, 39), (39, .ifCond .eq 30, 42), (42, .aload_n 1, 43), (43, .iload_n 2, 44), (44, .bipush 8, 46), (46, .imul, 47), (47, .iload 6, 49), (49, .iadd, 50), (50, .iaload, 51), (51, .i2l, 52), (52, .lload 7, 54), (54, .ladd, 55), (55, .aload_n 0, 56), (56, .getfield 15, 59), (59, .iload 4, 61), (61, .laload, 62), (62, .lcmp, 63), (63, .ifCond .ne 6, 66), (66, .iload 6, 68), (68, .ireturn, 69), (69, .iinc 6 1, 72), (72, .goto (-69), 75), (75, .iconst 0, 76), (76, .ireturn, 77)])
theorem okM_Ch_richestColumn : okM M_Ch_richestColumn := okM_of (by decide +kernel) cw_X0_richestColumn rfl rfl rfl rfl
def M_Ch_countAll : eM := (RX0, yX0_countAll, cX0_countAll, 10, (some .long), { frames := 1, cells := 0, slots := 0, locals := 22 }, [(0, .iconst 1, 1), (1, .iload_n 3, 2), (2, .ishl, 3), (3, .iconst 1, 4), (4, .isub, 5), (5, .istore 4, 7), (7, .aload_n 0, 8), (8, .getfield 15, 11), (11, .iload 4, 13), (13, .lconst 1, 14), (14, .lastore, 15), (15, .iload 4, 17), (17, .iconst 1, 18), (18, .isub, 19), (19, .istore 5, 21), (21, .iload 5, 23), (23, .ifCond .lt 79, 26), (26, .lload_n 1, 27), (27, .iload 5, 29), (29, .invokestatic 38, 32), (32, .invokestatic 26, 35), (35, .iload 5, 37), (37, .iconst (-1), 38), (38, .ixor, 39), (39, .iand, 40), (40, .istore 6, 42), (42, .lconst 0, 43), (43, .lstore 7, 45), (45, .iconst 0, 46), (46, .istore 9, 48), (48, .iload 9, 50), (50, .iload_n 3, 51), (51, .if_icmp .ge 36, 54), (54, .iload 6, 56), (56, .iload 9, 58), (58, .ishr, 59), (59, .iconst 1, 60), (60, .iand, 61), (61, .ifCond .eq 20, 64), (64, .lload 7, 66), (66, .aload_n 0, 67), (67, .getfield 15, 70), (70, .iload 5, 72), (72, .iconst 1, 73), (73, .iload 9, 75), (75, .ishl, 76), (76, .ior, 77), (77, .laload, 78), (78, .ladd, 79), (79, .lstore 7, 81), (81, .iinc 9 1, 84), (84, .goto (-36), 87), (87, .aload_n 0, 88), (88, .getfield 15, 91), (91, .iload 5, 93), (93, .lload 7, 95), (95, .lastore, 96), (96, .iinc 5 (-1), 99), (99, .goto (-78), 102), (102, .aload_n 0, 103), (103, .getfield 15, 106), (106, .iconst 0, 107), (107, .laload, 108), (108, .lreturn, 109)])
theorem okM_Ch_countAll : okM M_Ch_countAll := okM_of (by decide +kernel) cw_X0_countAll rfl rfl rfl rfl
def M_Ch_multiplyAll : eM := (RX0, yX0_multiplyAll, cX0_multiplyAll, 4, (some .long), { frames := 2, cells := 0, slots := 0, locals := 50 }, [(0, .aload_n 0, 1), (1, .getfield 15, 4), (4, .iconst 0, 5), (5, .lconst 1, 6), (6, .lastore, 7), (7, .iconst 1, 8), (8, .istore_n 3, 9), (9, .iload_n 3, 10), (10, .iconst 1, 11), (11, .iload_n 2, 12), (12, .ishl, 13), (13, .if_icmp .ge 39, 16), (16, .aload_n 0, 17), (17, .getfield 15, 20), (20, .iload_n 3, 21), (21, .aload_n 0, 22), (22, .aload_n 1, 23), (23, .iload_n 3, 24), (24, .iload_n 2, 25), (25, .invokevirtual 63, 28), (28, .lastore, 29), (29, .aload_n 0, 30), (30, .getfield 15, 33), (33, .iload_n 3, 34), (34, .laload, 35), (35, .ldc2_w 67, 38), (38, .lcmp, 39), (39, .ifCond .ne 7, 42), (42, .ldc2_w 67, 45), (45, .lreturn, 46), (46, .iinc 3 1, 49), (49, .goto (-40), 52), (52, .aload_n 0, 53), (53, .getfield 15, 56), (56, .iconst 1, 57), (57, .iload_n 2, 58), (58, .ishl, 59), (59, .iconst 1, 60), (60, .isub, 61), (61, .laload, 62), (62, .lreturn, 63)])
theorem okM_Ch_multiplyAll : okM M_Ch_multiplyAll := okM_of (by decide +kernel) cw_X0_multiplyAll rfl rfl rfl rfl
def M_Ch_multiplySet : eM := (RX0, yX0_multiplySet, cX0_multiplySet, 11, (some .long), { frames := 1, cells := 0, slots := 0, locals := 20 }, [(0, .iload_n 2, 1), (1, .invokestatic 38, 4), (4, .iconst 1, 5), (5, .isub, 6), (6, .istore 4, 8), (8, .lconst 0, 9), (9, .lstore 5, 11), (11, .iconst 0, 12), (12, .istore 7, 14), (14, .iload 7, 16), (16, .iload_n 3, 17), (17, .if_icmp .ge 79, 20), (20, .aload_n 1, 21), (21, .iload 4, 23), (23, .bipush 8, 25), (25, .imul, 26), (26, .iload 7, 28), (28, .iadd, 29), (29, .iaload, 30), (30, .istore 8, 32), (32, .iload_n 2, 33), (33, .iload 7, 35), (35, .ishr, 36), (36, .iconst 1, 37), (37, .iand, 38), (38, .ifCond .eq 52, 41), (41, .iload 8, 43), (43, .ifCond .le 47, 46), (46, .aload_n 0, 47), (47, .getfield 15, 50), (50, .iload_n 2, 51), (51, .iconst 1, 52), (52, .iload 7, 54), (54, .ishl, 55), (55, .ixor, 56), (56, .laload, 57), (57, .lstore 9, 59), (59, .lload 9, 61), (61, .ldc2_w 36, 64), (64, .lload 5, 66), (66, .lsub, 67), (67, .iload 8, 69), (69, .i2l, 70), (70, .ldiv, 71), (71, .lcmp, 72), (72, .ifCond .le 7, 75), (75, .ldc2_w 67, 78), (78, .lreturn, 79), (79, .lload 5, 81), (81, .iload 8, 83), (83, .i2l, 84), (84, .lload 9, 86), (86, .lmul, 87), (87, .ladd, 88), (88, .lstore 5, 90), (90, .iinc 7 1, 93), (93, .goto (-79), 96), (96, .lload 5, 98), (98, .lreturn, 99)])
theorem okM_Ch_multiplySet : okM M_Ch_multiplySet := okM_of (by decide +kernel) cw_X0_multiplySet rfl rfl rfl rfl
def M_Jo_of : eM := (RX1, yX1_of, cX1_of, 8, (some .long), { frames := 0, cells := 0, slots := 0, locals := 0 }, [(0, .lconst 0, 1), (1, .lstore_n 3, 2), (2, .iconst 0, 3), (3, .istore 5, 5), (5, .iload 5, 7), (7, .iload_n 1, 8), (8, .if_icmp .ge 49, 11), (11, .iconst 0, 12), (12, .istore 6, 14), (14, .iload 6, 16), (16, .iload_n 1, 17), (17, .if_icmp .ge 34, 20), (20, .iload 5, 22), (22, .bipush 8, 24), (24, .imul, 25), (25, .iload 6, 27), (27, .iadd, 28), (28, .istore 7, 30), (30, .aload_n 0, 31), (31, .iload 7, 33), (33, .iaload, 34), (34, .iload_n 2, 35), (35, .if_icmp .lt 10, 38), (38, .lload_n 3, 39), (39, .lconst 1, 40), (40, .iload 7, 42), (42, .lshl, 43), (43, .lor, 44), (44, .lstore_n 3, 45), (45, .iinc 6 1, 48), (48, .goto (-34), 51), (51, .iinc 5 1, 54), (54, .goto (-49), 57), (57, .lload_n 3, 58), (58, .lreturn, 59)])
theorem okM_Jo_of : okM M_Jo_of := okM_of (by decide +kernel) cw_X1_of rfl rfl rfl rfl
def M_Jo_rowOf : eM := (RX1, yX1_rowOf, cX1_rowOf, 3, (some .int), { frames := 0, cells := 0, slots := 0, locals := 0 }, [(0, .lload_n 0, 1), (1, .iload_n 2, 2), (2, .bipush 8, 4), (4, .imul, 5), (5, .lushr, 6), (6, .ldc2_w 11, 9), (9, .land, 10), (10, .l2i, 11), (11, .ireturn, 12)])
theorem okM_Jo_rowOf : okM M_Jo_rowOf := okM_of (by decide +kernel) cw_X1_rowOf rfl rfl rfl rfl
def M_Jo_through : eM := (RX1, yX1_through, cX1_through, 6, (some .long), { frames := 0, cells := 0, slots := 0, locals := 0 }, [(0, .ldc2_w 11, 3), (3, .iload_n 2, 4), (4, .bipush 8, 6), (6, .imul, 7), (7, .lshl, 8), (8, .ldc2_w 13, 11), (11, .iload_n 3, 12), (12, .lshl, 13), (13, .lor, 14), (14, .lstore 4, 16), (16, .lload_n 0, 17), (17, .lload 4, 19), (19, .ldc2_w 15, 22), (22, .lxor, 23), (23, .land, 24), (24, .lconst 1, 25), (25, .iload_n 2, 26), (26, .bipush 8, 28), (28, .imul, 29), (29, .iload_n 3, 30), (30, .iadd, 31), (31, .lshl, 32), (32, .lor, 33), (33, .lreturn, 34)])
theorem okM_Jo_through : okM M_Jo_through := okM_of (by decide +kernel) cw_X1_through rfl rfl rfl rfl
def M_Jo_columnsOf : eM := (RX1, yX1_columnsOf, cX1_columnsOf, 6, (some .int), { frames := 1, cells := 0, slots := 0, locals := 22 }, [(0, .iconst 0, 1), (1, .istore 4, 3), (3, .iconst 0, 4), (4, .istore 5, 6), (6, .iload 5, 8), (8, .iload_n 3, 9), (9, .if_icmp .ge 29, 12), (12, .iload_n 2, 13), (13, .iload 5, 15), (15, .ishr, 16), (16, .iconst 1, 17), (17, .iand, 18), (18, .ifCond .eq 14, 21), (21, .iload 4, 23), (23, .lload_n 0, 24), (24, .iload 5, 26), (26, .invokestatic 17, 29), (29, .ior, 30), (30, .istore 4, 32), (32, .iinc 5 1, 35), (35, .goto (-29), 38), (38, .iload 4, 40), (40, .ireturn, 41)])
theorem okM_Jo_columnsOf : okM M_Jo_columnsOf := okM_of (by decide +kernel) cw_X1_columnsOf rfl rfl rfl rfl
def M_Jo_rowsOf : eM := (RX1, yX1_rowsOf, cX1_rowsOf, 6, (some .int), { frames := 1, cells := 0, slots := 0, locals := 22 }, [(0, .iconst 0, 1), (1, .istore 4, 3), (3, .iconst 0, 4), (4, .istore 5, 6), (6, .iload 5, 8), (8, .iload_n 3, 9), (9, .if_icmp .ge 29, 12), (12, .lload_n 0, 13), (13, .iload 5, 15), (15, .invokestatic 17, 18), (18, .iload_n 2, 19), (19, .iand, 20), (20, .ifCond .eq 12, 23), (23, .iload 4, 25), (25, .iconst 1, 26), (26, .iload 5, 28), (28, .ishl, 29), (29, .ior, 30), (30, .istore 4, 32), (32, .iinc 5 1, 35), (35, .goto (-29), 38), (38, .iload 4, 40), (40, .ireturn, 41)])
theorem okM_Jo_rowsOf : okM M_Jo_rowsOf := okM_of (by decide +kernel) cw_X1_rowsOf rfl rfl rfl rfl
def M_Jo_countGroups : eM := (RX1, yX1_countGroups, cX1_countGroups, 6, (some .int), { frames := 3, cells := 0, slots := 0, locals := 72 }, [(0, .iconst 0, 1), (1, .istore_n 3, 2), (2, .iconst 0, 3), (3, .istore 4, 5), (5, .iconst 0, 6), (6, .istore 5, 8), (8, .iload 5, 10), (10, .iload_n 2, 11), (11, .if_icmp .ge 34, 14), (14, .iload 4, 16), (16, .iload 5, 18), (18, .ishr, 19), (19, .iconst 1, 20), (20, .iand, 21), (21, .ifCond .ne 18, 24), (24, .iload 4, 26), (26, .lload_n 0, 27), (27, .iload 5, 29), (29, .iload_n 2, 30), (30, .invokestatic 21, 33), (33, .ior, 34), (34, .istore 4, 36), (36, .iinc 3 1, 39), (39, .iinc 5 1, 42), (42, .goto (-34), 45), (45, .iload_n 2, 46), (46, .lload_n 0, 47), (47, .iload 4, 49), (49, .iload_n 2, 50), (50, .invokestatic 25, 53), (53, .invokestatic 28, 56), (56, .isub, 57), (57, .istore 5, 59), (59, .iload_n 3, 60), (60, .iload 5, 62), (62, .iadd, 63), (63, .ireturn, 64)])
theorem okM_Jo_countGroups : okM M_Jo_countGroups := okM_of (by decide +kernel) cw_X1_countGroups rfl rfl rfl rfl
def M_Jo_groupOf : eM := (RX1, yX1_groupOf, cX1_groupOf, 6, (some .int), { frames := 2, cells := 0, slots := 0, locals := 47 }, [(0, .iconst 1, 1), (1, .iload_n 2, 2), (2, .ishl, 3), (3, .istore 4, 5), (5, .iconst 0, 6), (6, .istore 5, 8), (8, .iload 5, 10), (10, .iload_n 3, 11), (11, .if_icmp .ge 26, 14), (14, .iload 4, 16), (16, .lload_n 0, 17), (17, .lload_n 0, 18), (18, .iload 4, 20), (20, .iload_n 3, 21), (21, .invokestatic 25, 24), (24, .iload_n 3, 25), (25, .invokestatic 34, 28), (28, .ior, 29), (29, .istore 4, 31), (31, .iinc 5 1, 34), (34, .goto (-26), 37), (37, .iload 4, 39), (39, .ireturn, 40)])
theorem okM_Jo_groupOf : okM M_Jo_groupOf := okM_of (by decide +kernel) cw_X1_groupOf rfl rfl rfl rfl
def M_Jo_rowsMostLacking : eM := (RX1, yX1_rowsMostLacking, cX1_rowsMostLacking, 7, (some .int), { frames := 2, cells := 0, slots := 0, locals := 47 }, [(0, .iconst 0, 1), (1, .istore_n 3, 2), (2, .iconst 0, 3), (3, .istore 4, 5), (5, .iconst 1, 6), (6, .istore 5, 8), (8, .iload 5, 10), (10, .iconst 1, 11), (11, .iload_n 2, 12), (12, .ishl, 13), (13, .if_icmp .ge 41, 16), (16, .iload 5, 18), (18, .invokestatic 28, 21), (21, .lload_n 0, 22), (22, .iload 5, 24), (24, .iload_n 2, 25), (25, .invokestatic 25, 28), (28, .invokestatic 28, 31), (31, .isub, 32), (32, .istore 6, 34), (34, .iload 6, 36), (36, .iload 4, 38), (38, .if_icmp .le 10, 41), (41, .iload 6, 43), (43, .istore 4, 45), (45, .iload 5, 47), (47, .istore_n 3, 48), (48, .iinc 5 1, 51), (51, .goto (-43), 54), (54, .iload_n 3, 55), (55, .ireturn, 56)])
theorem okM_Jo_rowsMostLacking : okM M_Jo_rowsMostLacking := okM_of (by decide +kernel) cw_X1_rowsMostLacking rfl rfl rfl rfl
def M_Jo_kinOf : eM := (RX1, yX1_kinOf, cX1_kinOf, 7, (some .int), { frames := 3, cells := 0, slots := 0, locals := 72 }, [(0, .lload_n 0, 1), (1, .iload_n 2, 2), (2, .iload_n 3, 3), (3, .invokestatic 37, 6), (6, .istore 4, 8), (8, .iconst 0, 9), (9, .istore 5, 11), (11, .iconst 0, 12), (12, .istore 6, 14), (14, .iload 6, 16), (16, .iload_n 3, 17), (17, .if_icmp .ge 42, 20), (20, .iload 4, 22), (22, .iload 6, 24), (24, .ishr, 25), (25, .iconst 1, 26), (26, .iand, 27), (27, .ifCond .eq 26, 30), (30, .lload_n 0, 31), (31, .iload 6, 33), (33, .iload_n 3, 34), (34, .invokestatic 37, 37), (37, .iload_n 2, 38), (38, .ishr, 39), (39, .iconst 1, 40), (40, .iand, 41), (41, .ifCond .eq 12, 44), (44, .iload 5, 46), (46, .iconst 1, 47), (47, .iload 6, 49), (49, .ishl, 50), (50, .ior, 51), (51, .istore 5, 53), (53, .iinc 6 1, 56), (56, .goto (-42), 59), (59, .iload 5, 61), (61, .ireturn, 62)])
theorem okM_Jo_kinOf : okM M_Jo_kinOf := okM_of (by decide +kernel) cw_X1_kinOf rfl rfl rfl rfl
def M_Jo_reachedFrom : eM := (RX1, yX1_reachedFrom, cX1_reachedFrom, 6, (some .int), { frames := 2, cells := 0, slots := 0, locals := 47 }, [(0, .iconst 1, 1), (1, .iload_n 2, 2), (2, .ishl, 3), (3, .istore 4, 5), (5, .iconst 0, 6), (6, .istore 5, 8), (8, .iload 5, 10), (10, .iload_n 3, 11), (11, .if_icmp .ge 21, 14), (14, .iload 4, 16), (16, .lload_n 0, 17), (17, .iload 4, 19), (19, .iload_n 3, 20), (20, .invokestatic 25, 23), (23, .ior, 24), (24, .istore 4, 26), (26, .iinc 5 1, 29), (29, .goto (-21), 32), (32, .iload 4, 34), (34, .ireturn, 35)])
theorem okM_Jo_reachedFrom : okM M_Jo_reachedFrom := okM_of (by decide +kernel) cw_X1_reachedFrom rfl rfl rfl rfl
def M_Jo_leastFullPower : eM := (RX1, yX1_leastFullPower, cX1_leastFullPower, 8, (some .int), { frames := 3, cells := 0, slots := 0, locals := 74 }, [(0, .lload_n 0, 1), (1, .lstore 5, 3), (3, .iconst 1, 4), (4, .istore 7, 6), (6, .iload 7, 8), (8, .bipush 64, 10), (10, .if_icmp .gt 29, 13), (13, .lload 5, 15), (15, .lload_n 2, 16), (16, .lcmp, 17), (17, .ifCond .ne 6, 20), (20, .iload 7, 22), (22, .ireturn, 23), (23, .lload 5, 25), (25, .lload_n 0, 26), (26, .iload 4, 28), (28, .invokestatic 40, 31), (31, .lstore 5, 33), (33, .iinc 7 1, 36), (36, .goto (-30), 39), (39, .iconst (-1), 40), (40, .ireturn, 41)])
theorem okM_Jo_leastFullPower : okM M_Jo_leastFullPower := okM_of (by decide +kernel) cw_X1_leastFullPower rfl rfl rfl rfl
def M_Jo_product : eM := (RX1, yX1_product, cX1_product, 8, (some .long), { frames := 2, cells := 0, slots := 0, locals := 47 }, [(0, .lconst 0, 1), (1, .lstore 5, 3), (3, .iconst 0, 4), (4, .istore 7, 6), (6, .iload 7, 8), (8, .iload 4, 10), (10, .if_icmp .ge 33, 13), (13, .lload 5, 15), (15, .lload_n 2, 16), (16, .lload_n 0, 17), (17, .iload 7, 19), (19, .invokestatic 17, 22), (22, .iload 4, 24), (24, .invokestatic 25, 27), (27, .i2l, 28), (28, .iload 7, 30), (30, .bipush 8, 32), (32, .imul, 33), (33, .lshl, 34), (34, .lor, 35), (35, .lstore 5, 37), (37, .iinc 7 1, 40), (40, .goto (-34), 43), (43, .lload 5, 45), (45, .lreturn, 46)])
theorem okM_Jo_product : okM M_Jo_product := okM_of (by decide +kernel) cw_X1_product rfl rfl rfl rfl
def M_Mk_makeMixture : eM := (RX2, yX2_makeMixture, cX2_makeMixture, 25, (some .boolean), { frames := 4, cells := 0, slots := 0, locals := 97 }, [(0, .iload_n 3, 1), (1, .i2l, 2), (2, .aload_n 1, 3), (3, .getfield 15, 6), (6, .i2l, 7), (7, .lmul, 8), (8, .lstore 8, 10), (10, .iload 6, 12), (12, .i2l, 13), (13, .aload 4, 15), (15, .getfield 15, 18), (18, .i2l, 19), (19, .lmul, 20), (20, .lstore 10, 22), (22, .lload 8, 24), (24, .lload 10, 26), (26, .ldc2_w 21, 29), (29, .invokestatic 23, 32), (32, .lstore 12, 34), (34, .lload 12, 36), (36, .ldc2_w 29, 39), (39, .lcmp, 40), (40, .ifCond .ne 5, 43), (43, .iconst 0, 44), (44, .ireturn, 45), (45, .lload 12, 47), (47, .lload 8, 49), (49, .ldiv, 50), (50, .lstore 14, 52), (52, .lload 12, 54), (54, .lload 10, 56), (56, .ldiv, 57), (57, .lstore 16, 59), (59, .iconst 0, 60), (60, .istore 18, 62), (62, .iload 18, 64), (64, .aload_n 1, 65), (65, .getfield 31, 68), (68, .if_icmp .ge 119, 71), (71, .iconst 0, 72), (72, .istore 19, 74), (74, .iload 19, 76), (76, .aload_n 1, 77), (77, .getfield 31, 80), (80, .if_icmp .ge 101, 83), (83, .iload 18, 85), (85, .bipush 8, 87), (87, .imul, 88), (88, .iload 19, 90), (90, .iadd, 91), (91, .istore 20, 93), (93, .iload_n 2, 94), (94, .i2l, 95), (95, .aload_n 1, 96), (96, .getfield 34, 99), (99, .iload 20, 101), (101, .iaload, 102), (102, .i2l, 103), (103, .lmul, 104), (104, .lload 14, 106), (106, .invokestatic 38, 109), (109, .lstore 21, 111), (111, .iload 5, 113), (113, .i2l, 114), (114, .aload 4, 116), (116, .getfield 34, 119), (119, .iload 20, 121), (121, .iaload, 122), (122, .i2l, 123), (123, .lmul, 124), (124, .lload 16, 126), (126, .invokestatic 38, 129), (129, .lstore 23, 131), (131, .lload 21, 133), (133, .ldc2_w 29, 136), (136, .lcmp, 137), (137, .ifCond .eq 24, 140), (140, .lload 23, 142), (142, .ldc2_w 29, 145), (145, .lcmp, 146), (146, .ifCond .eq 15, 149), (149, .lload 21, 151), (151, .lload 23, 153), (153, .ladd, 154), (154, .ldc2_w 42, 157), (157, .lcmp, 158), (158, .ifCond .le 5, 161), (161, .iconst 0, 162), (162, .ireturn, 163), (163, .aload_n 0, 164), (164, .getfield 9, 167), (167, .iload 20, 169), (169, .lload 21, 171), (171, .lload 23, 173), (173, .ladd, 174), (174, .lastore, 175), (175, .iinc 19 1, 178), (178, .goto (-104), 181), (181, .iinc 18 1, 184), (184, .goto (-122), 187), (187, .aload_n 0, 188), (188, .lload 12, 190), (190, .aload_n 1, 191), (191, .getfield 31, 194), (194, .aload 7, 196), (196, .invokevirtual 44, 199), (199, .ireturn, 200)])
theorem okM_Mk_makeMixture : okM M_Mk_makeMixture := okM_of (by decide +kernel) cw_X2_makeMixture rfl rfl rfl rfl
def M_Mk_multiplied : eM := (RX2, yX2_multiplied, cX2_multiplied, 4, (some .long), { frames := 0, cells := 0, slots := 0, locals := 0 }, [(0, .lload_n 0, 1), (1, .lconst 0, 2), (2, .lcmp, 3), (3, .ifCond .ne 5, 6), (6, .lconst 0, 7), (7, .lreturn, 8), (8, .lload_n 2, 9), (9, .ldc2_w 42, 12), (12, .lload_n 0, 13), (13, .ldiv, 14), (14, .lcmp, 15), (15, .ifCond .le 9, 18), (18, .ldc2_w 29, 21), (21, .goto 6, 24), (24, .lload_n 0, 25), (25, .lload_n 2, 26), (26, .lmul, 27), (27, .lreturn, 28)])
theorem okM_Mk_multiplied : okM M_Mk_multiplied := okM_of (by decide +kernel) cw_X2_multiplied rfl rfl rfl rfl
def M_Mk_makeProduct : eM := (RX2, yX2_makeProduct, cX2_makeProduct, 9, (some .boolean), { frames := 4, cells := 0, slots := 0, locals := 97 }, [(0, .iconst 0, 1), (1, .istore 4, 3), (3, .iload 4, 5), (5, .aload_n 1, 6), (6, .getfield 31, 9), (9, .if_icmp .ge 97, 12), (12, .iconst 0, 13), (13, .istore 5, 15), (15, .iload 5, 17), (17, .aload_n 1, 18), (18, .getfield 31, 21), (21, .if_icmp .ge 79, 24), (24, .lconst 0, 25), (25, .lstore 6, 27), (27, .iconst 0, 28), (28, .istore 8, 30), (30, .iload 8, 32), (32, .aload_n 1, 33), (33, .getfield 31, 36), (36, .if_icmp .ge 43, 39), (39, .lload 6, 41), (41, .aload_n 1, 42), (42, .getfield 34, 45), (45, .iload 4, 47), (47, .bipush 8, 49), (49, .imul, 50), (50, .iload 8, 52), (52, .iadd, 53), (53, .iaload, 54), (54, .i2l, 55), (55, .aload_n 2, 56), (56, .getfield 34, 59), (59, .iload 8, 61), (61, .bipush 8, 63), (63, .imul, 64), (64, .iload 5, 66), (66, .iadd, 67), (67, .iaload, 68), (68, .i2l, 69), (69, .lmul, 70), (70, .ladd, 71), (71, .lstore 6, 73), (73, .iinc 8 1, 76), (76, .goto (-46), 79), (79, .aload_n 0, 80), (80, .getfield 9, 83), (83, .iload 4, 85), (85, .bipush 8, 87), (87, .imul, 88), (88, .iload 5, 90), (90, .iadd, 91), (91, .lload 6, 93), (93, .lastore, 94), (94, .iinc 5 1, 97), (97, .goto (-82), 100), (100, .iinc 4 1, 103), (103, .goto (-100), 106), (106, .aload_n 0, 107), (107, .aload_n 1, 108), (108, .getfield 15, 111), (111, .i2l, 112), (112, .aload_n 2, 113), (113, .getfield 15, 116), (116, .i2l, 117), (117, .lmul, 118), (118, .aload_n 1, 119), (119, .getfield 31, 122), (122, .aload_n 3, 123), (123, .invokevirtual 44, 126), (126, .ireturn, 127)])
theorem okM_Mk_makeProduct : okM M_Mk_makeProduct := okM_of (by decide +kernel) cw_X2_makeProduct rfl rfl rfl rfl
def M_Mk_makeTurned : eM := (RX2, yX2_makeTurned, cX2_makeTurned, 10, (some .boolean), { frames := 4, cells := 0, slots := 0, locals := 97 }, [(0, .aload_n 1, 1), (1, .getfield 31, 4), (4, .iconst 1, 5), (5, .isub, 6), (6, .istore 5, 8), (8, .iconst 0, 9), (9, .istore 6, 11), (11, .iload 6, 13), (13, .aload_n 1, 14), (14, .getfield 31, 17), (17, .if_icmp .ge 134, 20), (20, .iconst 0, 21), (21, .istore 7, 23), (23, .iload 7, 25), (25, .aload_n 1, 26), (26, .getfield 31, 29), (29, .if_icmp .ge 116, 32), (32, .iload_n 2, 33), (33, .iconst 1, 34), (34, .if_icmp .ne 8, 37), (37, .iload 7, 39), (39, .goto 31, 42), (42, .iload 6, 44), (44, .iload_n 2, 45), (45, .iconst 2, 46), (46, .if_icmp .ne 7, 49), (49, .iconst 1, 50), (50, .goto 4, 53), (53, .iconst 0, 54), (54, .iload_n 2, 55), (55, .iconst 4, 56), (56, .if_icmp .ne 7, 59), (59, .iconst 1, 60), (60, .goto 4, 63), (63, .iconst 0, 64), (64, .iload_n 3, 65), (65, .iload 5, 67), (67, .invokestatic 48, 70), (70, .istore 8, 72), (72, .iload_n 2, 73), (73, .iconst 1, 74), (74, .if_icmp .ne 8, 77), (77, .iload 6, 79), (79, .goto 31, 82), (82, .iload 7, 84), (84, .iload_n 2, 85), (85, .iconst 3, 86), (86, .if_icmp .ne 7, 89), (89, .iconst 1, 90), (90, .goto 4, 93), (93, .iconst 0, 94), (94, .iload_n 2, 95), (95, .iconst 5, 96), (96, .if_icmp .ne 7, 99), (99, .iconst 1, 100), (100, .goto 4, 103), (103, .iconst 0, 104), (104, .iload_n 3, 105), (105, .iload 5, 107), (107, .invokestatic 48, 110), (110, .istore 9, 112), (112, .aload_n 0, 113), (113, .getfield 9, 116), (116, .iload 6, 118), (118, .bipush 8, 120), (120, .imul, 121), (121, .iload 7, 123), (123, .iadd, 124), (124, .aload_n 1, 125), (125, .getfield 34, 128), (128, .iload 8, 130), (130, .bipush 8, 132), (132, .imul, 133), (133, .iload 9, 135), (135, .iadd, 136), (136, .iaload, 137), (137, .i2l, 138), (138, .lastore, 139), (139, .iinc 7 1, 142), (142, .goto (-119), 145), (145, .iinc 6 1, 148), (148, .goto (-137), 151), (151, .aload_n 0, 152), (152, .aload_n 1, 153), (153, .getfield 15, 156), (156, .i2l, 157), (157, .aload_n 1, 158), (158, .getfield 31, 161), (161, .aload 4, 163), (163, .invokevirtual 44, 166), (166, .ireturn, 167)])
theorem okM_Mk_makeTurned : okM M_Mk_makeTurned := okM_of (by decide +kernel) cw_X2_makeTurned rfl rfl rfl rfl
def M_Mk_turnedFrom : eM := (RX2, yX2_turnedFrom, cX2_turnedFrom, 5, (some .int), { frames := 0, cells := 0, slots := 0, locals := 0 }, [(0, .iload_n 1, 1), (1, .ifCond .eq 8, 4), (4, .iload 4, 6), (6, .iload_n 0, 7), (7, .isub, 8), (8, .ireturn, 9), (9, .iload_n 2, 10), (10, .ifCond .eq 8, 13), (13, .iload_n 0, 14), (14, .iload_n 3, 15), (15, .if_icmp .ge 5, 18), (18, .iload_n 0, 19), (19, .ireturn, 20), (20, .iload_n 0, 21), (21, .iload 4, 23), (23, .if_icmp .ge 9, 26), (26, .iload_n 0, 27), (27, .iconst 1, 28), (28, .iadd, 29), (29, .goto 4, 32), (32, .iload_n 3, 33), (33, .ireturn, 34)])
theorem okM_Mk_turnedFrom : okM M_Mk_turnedFrom := okM_of (by decide +kernel) cw_X2_turnedFrom rfl rfl rfl rfl
def M_Mk_bring : eM := (RX2, yX2_bring, cX2_bring, 10, (some .boolean), { frames := 3, cells := 0, slots := 0, locals := 68 }, [(0, .aload_n 0, 1), (1, .lload_n 1, 2), (2, .iload_n 3, 3), (3, .invokevirtual 52, 6), (6, .lstore 5, 8), (8, .lload 5, 10), (10, .lconst 1, 11), (11, .lcmp, 12), (12, .ifCond .lt 24, 15), (15, .lload_n 1, 16), (16, .lload 5, 18), (18, .ldiv, 19), (19, .ldc2_w 56, 22), (22, .lcmp, 23), (23, .ifCond .gt 13, 26), (26, .aload_n 0, 27), (27, .lload 5, 29), (29, .iload_n 3, 30), (30, .invokevirtual 58, 33), (33, .ifCond .ne 5, 36), (36, .iconst 0, 37), (37, .ireturn, 38), (38, .iconst 0, 39), (39, .istore 7, 41), (41, .iload 7, 43), (43, .iload_n 3, 44), (44, .if_icmp .ge 53, 47), (47, .iconst 0, 48), (48, .istore 8, 50), (50, .iload 8, 52), (52, .iload_n 3, 53), (53, .if_icmp .ge 38, 56), (56, .iload 7, 58), (58, .bipush 8, 60), (60, .imul, 61), (61, .iload 8, 63), (63, .iadd, 64), (64, .istore 9, 66), (66, .aload 4, 68), (68, .getfield 34, 71), (71, .iload 9, 73), (73, .aload_n 0, 74), (74, .getfield 9, 77), (77, .iload 9, 79), (79, .laload, 80), (80, .lload 5, 82), (82, .ldiv, 83), (83, .l2i, 84), (84, .iastore, 85), (85, .iinc 8 1, 88), (88, .goto (-38), 91), (91, .iinc 7 1, 94), (94, .goto (-53), 97), (97, .aload 4, 99), (99, .iload_n 3, 100), (100, .lload_n 1, 101), (101, .lload 5, 103), (103, .ldiv, 104), (104, .l2i, 105), (105, .invokevirtual 62, 108), (108, .iconst 1, 109), (109, .ireturn, 110)])
theorem okM_Mk_bring : okM M_Mk_bring := okM_of (by decide +kernel) cw_X2_bring rfl rfl rfl rfl
def M_Mk_sharedDivisor : eM := (RX2, yX2_sharedDivisor, cX2_sharedDivisor, 8, (some .long), { frames := 1, cells := 0, slots := 0, locals := 30 }, [(0, .lload_n 1, 1), (1, .lstore 4, 3), (3, .iconst 0, 4), (4, .istore 6, 6), (6, .iload 6, 8), (8, .iload_n 3, 9), (9, .if_icmp .ge 51, 12), (12, .iconst 0, 13), (13, .istore 7, 15), (15, .iload 7, 17), (17, .iload_n 3, 18), (18, .if_icmp .ge 36, 21), (21, .lload 4, 23), (23, .lconst 1, 24), (24, .lcmp, 25), (25, .ifCond .le 29, 28), (28, .lload 4, 30), (30, .aload_n 0, 31), (31, .getfield 9, 34), (34, .iload 6, 36), (36, .bipush 8, 38), (38, .imul, 39), (39, .iload 7, 41), (41, .iadd, 42), (42, .laload, 43), (43, .invokestatic 66, 46), (46, .lstore 4, 48), (48, .iinc 7 1, 51), (51, .goto (-36), 54), (54, .iinc 6 1, 57), (57, .goto (-51), 60), (60, .lload 4, 62), (62, .lreturn, 63)])
theorem okM_Mk_sharedDivisor : okM M_Mk_sharedDivisor := okM_of (by decide +kernel) cw_X2_sharedDivisor rfl rfl rfl rfl
def M_Mk_areCells : eM := (RX2, yX2_areCells, cX2_areCells, 6, (some .boolean), { frames := 0, cells := 0, slots := 0, locals := 0 }, [(0, .iconst 0, 1), (1, .istore 4, 3), (3, .iload 4, 5), (5, .iload_n 3, 6), (6, .if_icmp .ge 48, 9), (9, .iconst 0, 10), (10, .istore 5, 12), (12, .iload 5, 14), (14, .iload_n 3, 15), (15, .if_icmp .ge 33, 18), (18, .aload_n 0, 19), (19, .getfield 9, 22), (22, .iload 4, 24), (24, .bipush 8, 26), (26, .imul, 27), (27, .iload 5, 29), (29, .iadd, 30), (30, .laload, 31), (31, .lload_n 1, 32), (32, .ldiv, 33), (33, .ldc2_w 69, 36), (36, .lcmp, 37), (37, .ifCond .le 5, 40), (40, .iconst 0, 41), (41, .ireturn, 42), (42, .iinc 5 1, 45), (45, .goto (-33), 48), (48, .iinc 4 1, 51), (51, .goto (-48), 54), (54, .iconst 1, 55), (55, .ireturn, 56)])
theorem okM_Mk_areCells : okM M_Mk_areCells := okM_of (by decide +kernel) cw_X2_areCells rfl rfl rfl rfl
def M_Mi_start : eM := (RX3, yX3_start, cX3_start, 5, none, { frames := 0, cells := 0, slots := 0, locals := 0 }, [(0, .aload_n 0, 1), (1, .iload_n 1, 2), (2, .putfield 18, 5), (5, .aload_n 0, 6), (6, .iload_n 2, 7), (7, .putfield 22, 10), (10, .aload_n 0, 11), (11, .iload_n 3, 12), (12, .putfield 25, 15), (15, .aload_n 0, 16), (16, .iload 4, 18), (18, .putfield 31, 21), (21, .aload_n 0, 22), (22, .iconst 0, 23), (23, .putfield 28, 26), (26, .return_, 27)])
theorem okM_Mi_start : okM M_Mi_start := okM_of (by decide +kernel) cw_X3_start rfl rfl rfl rfl
def M_Mi_add : eM := (RX3, yX3_add, cX3_add, 3, none, { frames := 1, cells := 0, slots := 0, locals := 32 }, [(0, .iload_n 1, 1), (1, .iconst 1, 2), (2, .if_icmp .lt 12, 5), (5, .aload_n 0, 6), (6, .getfield 28, 9), (9, .bipush 64, 11), (11, .if_icmp .lt 4, 14), (14, .return_, 15), (15, .aload_n 0, 16), (16, .getfield 9, 19), (19, .aload_n 0, 20), (20, .getfield 28, 23), (23, .iload_n 1, 24), (24, .iastore, 25), (25, .aload_n 2, 26), (26, .iconst 0, 27), (27, .aload_n 0, 28), (28, .getfield 15, 31), (31, .aload_n 0, 32), (32, .getfield 28, 35), (35, .bipush 8, 37), (37, .imul, 38), (38, .bipush 8, 40), (40, .invokestatic 34, 43), (43, .aload_n 0, 44), (44, .dup, 45), (45, .getfield 28, 48), (48, .iconst 1, 49), (49, .iadd, 50), (50, .putfield 28, 53), (53, .return_, 54)])
theorem okM_Mi_add : okM M_Mi_add := okM_of (by decide +kernel) cw_X3_add rfl rfl rfl rfl
def M_Mi_hasPart : eM := (RX3, yX3_hasPart, cX3_hasPart, 2, (some .boolean), { frames := 0, cells := 0, slots := 0, locals := 0 }, [(0, .iload_n 1, 1), (1, .ifCond .lt 15, 4), (4, .iload_n 1, 5), (5, .aload_n 0, 6), (6, .getfield 28, 9), (9, .if_icmp .ge 7, 12), (12, .iconst 1, 13), (13, .goto 4, 16), (16, .iconst 0, 17), (17, .ireturn, 18)])
theorem okM_Mi_hasPart : okM M_Mi_hasPart := okM_of (by decide +kernel) cw_X3_hasPart rfl rfl rfl rfl
def M_Mi_hasRow : eM := (RX3, yX3_hasRow, cX3_hasRow, 2, (some .boolean), { frames := 0, cells := 0, slots := 0, locals := 0 }, [(0, .iload_n 1, 1), (1, .ifCond .lt 15, 4), (4, .iload_n 1, 5), (5, .aload_n 0, 6), (6, .getfield 25, 9), (9, .if_icmp .ge 7, 12), (12, .iconst 1, 13), (13, .goto 4, 16), (16, .iconst 0, 17), (17, .ireturn, 18)])
theorem okM_Mi_hasRow : okM M_Mi_hasRow := okM_of (by decide +kernel) cw_X3_hasRow rfl rfl rfl rfl
def M_Mi_hasJob : eM := (RX3, yX3_hasJob, cX3_hasJob, 2, (some .boolean), { frames := 0, cells := 0, slots := 0, locals := 0 }, [(0, .aload_n 0, 1), (1, .getfield 18, 4), (4, .iconst 2, 5), (5, .if_icmp .ne 19, 8), (8, .iload_n 1, 9), (9, .ifCond .lt 15, 12), (12, .iload_n 1, 13), (13, .aload_n 0, 14), (14, .getfield 22, 17), (17, .if_icmp .ge 7, 20), (20, .iconst 1, 21), (21, .goto 4, 24), (24, .iconst 0, 25), (25, .ireturn, 26)])
theorem okM_Mi_hasJob : okM M_Mi_hasJob := okM_of (by decide +kernel) cw_X3_hasJob rfl rfl rfl rfl
def M_Mi_columnOf : eM := (RX3, yX3_columnOf, cX3_columnOf, 3, (some .int), { frames := 0, cells := 0, slots := 0, locals := 0 }, [(0, .aload_n 0, 1), (1, .getfield 15, 4), (4, .iload_n 1, 5), (5, .bipush 8, 7), (7, .imul, 8), (8, .iload_n 2, 9), (9, .iadd, 10), (10, .iaload, 11), (11, .ireturn, 12)])
theorem okM_Mi_columnOf : okM M_Mi_columnOf := okM_of (by decide +kernel) cw_X3_columnOf rfl rfl rfl rfl
def M_Mi_inLeastTerms : eM := (RX3, yX3_inLeastTerms, cX3_inLeastTerms, 4, (some .int), { frames := 1, cells := 0, slots := 0, locals := 30 }, [(0, .aload_n 0, 1), (1, .getfield 31, 4), (4, .i2l, 5), (5, .iload_n 1, 6), (6, .i2l, 7), (7, .invokestatic 40, 10), (10, .l2i, 11), (11, .istore_n 3, 12), (12, .iload_n 3, 13), (13, .iconst 1, 14), (14, .if_icmp .ge 5, 17), (17, .iconst (-1), 18), (18, .ireturn, 19), (19, .iload_n 2, 20), (20, .ifCond .eq 9, 23), (23, .iload_n 1, 24), (24, .iload_n 3, 25), (25, .idiv, 26), (26, .goto 9, 29), (29, .aload_n 0, 30), (30, .getfield 31, 33), (33, .iload_n 3, 34), (34, .idiv, 35), (35, .ireturn, 36)])
theorem okM_Mi_inLeastTerms : okM M_Mi_inLeastTerms := okM_of (by decide +kernel) cw_X3_inLeastTerms rfl rfl rfl rfl
def M_Mi_partAt : eM := (RX3, yX3_partAt, cX3_partAt, 4, (some .int), { frames := 0, cells := 0, slots := 0, locals := 0 }, [(0, .iload_n 1, 1), (1, .ifCond .ge 5, 4), (4, .iconst (-1), 5), (5, .ireturn, 6), (6, .iload_n 1, 7), (7, .istore_n 2, 8), (8, .iconst 0, 9), (9, .istore_n 3, 10), (10, .iload_n 3, 11), (11, .aload_n 0, 12), (12, .getfield 28, 15), (15, .if_icmp .ge 30, 18), (18, .iload_n 2, 19), (19, .aload_n 0, 20), (20, .getfield 9, 23), (23, .iload_n 3, 24), (24, .iaload, 25), (25, .if_icmp .ge 5, 28), (28, .iload_n 3, 29), (29, .ireturn, 30), (30, .iload_n 2, 31), (31, .aload_n 0, 32), (32, .getfield 9, 35), (35, .iload_n 3, 36), (36, .iaload, 37), (37, .isub, 38), (38, .istore_n 2, 39), (39, .iinc 3 1, 42), (42, .goto (-32), 45), (45, .iconst (-1), 46), (46, .ireturn, 47)])
theorem okM_Mi_partAt : okM M_Mi_partAt := okM_of (by decide +kernel) cw_X3_partAt rfl rfl rfl rfl
def M_Mi_weightOfBoth : eM := (RX3, yX3_weightOfBoth, cX3_weightOfBoth, 7, (some .int), { frames := 1, cells := 0, slots := 0, locals := 22 }, [(0, .iconst 0, 1), (1, .istore 5, 3), (3, .iconst 0, 4), (4, .istore 6, 6), (6, .iload 6, 8), (8, .aload_n 0, 9), (9, .getfield 28, 12), (12, .if_icmp .ge 44, 15), (15, .aload_n 0, 16), (16, .iload 6, 18), (18, .iload_n 1, 19), (19, .invokevirtual 46, 22), (22, .iload_n 2, 23), (23, .if_icmp .ne 27, 26), (26, .aload_n 0, 27), (27, .iload 6, 29), (29, .iload_n 3, 30), (30, .invokevirtual 46, 33), (33, .iload 4, 35), (35, .if_icmp .ne 15, 38), (38, .iload 5, 40), (40, .aload_n 0, 41), (41, .getfield 9, 44), (44, .iload 6, 46), (46, .iaload, 47), (47, .iadd, 48), (48, .istore 5, 50), (50, .iinc 6 1, 53), (53, .goto (-47), 56), (56, .iload 5, 58), (58, .ireturn, 59)])
theorem okM_Mi_weightOfBoth : okM M_Mi_weightOfBoth := okM_of (by decide +kernel) cw_X3_weightOfBoth rfl rfl rfl rfl
def M_Mi_weightOf : eM := (RX3, yX3_weightOf, cX3_weightOf, 3, (some .int), { frames := 2, cells := 0, slots := 0, locals := 48 }, [(0, .aload_n 0, 1), (1, .iload_n 1, 2), (2, .iload_n 2, 3), (3, .iload_n 1, 4), (4, .iload_n 2, 5), (5, .invokevirtual 50, 8), (8, .ireturn, 9)])
theorem okM_Mi_weightOf : okM M_Mi_weightOf := okM_of (by decide +kernel) cw_X3_weightOf rfl rfl rfl rfl
def M_Mi_commonestColumn : eM := (RX3, yX3_commonestColumn, cX3_commonestColumn, 4, (some .int), { frames := 3, cells := 0, slots := 0, locals := 70 }, [(0, .iconst 0, 1), (1, .istore_n 2, 2), (2, .iconst 1, 3), (3, .istore_n 3, 4), (4, .iload_n 3, 5), (5, .aload_n 0, 6), (6, .getfield 25, 9), (9, .if_icmp .ge 26, 12), (12, .aload_n 0, 13), (13, .iload_n 1, 14), (14, .iload_n 3, 15), (15, .invokevirtual 54, 18), (18, .aload_n 0, 19), (19, .iload_n 1, 20), (20, .iload_n 2, 21), (21, .invokevirtual 54, 24), (24, .if_icmp .le 5, 27), (27, .iload_n 3, 28), (28, .istore_n 2, 29), (29, .iinc 3 1, 32), (32, .goto (-28), 35), (35, .iload_n 2, 36), (36, .ireturn, 37)])
theorem okM_Mi_commonestColumn : okM M_Mi_commonestColumn := okM_of (by decide +kernel) cw_X3_commonestColumn rfl rfl rfl rfl
def M_Mi_countColumns : eM := (RX3, yX3_countColumns, cX3_countColumns, 4, (some .int), { frames := 1, cells := 0, slots := 0, locals := 22 }, [(0, .iconst 0, 1), (1, .istore_n 2, 2), (2, .iconst 0, 3), (3, .istore_n 3, 4), (4, .iload_n 3, 5), (5, .aload_n 0, 6), (6, .getfield 28, 9), (9, .if_icmp .ge 20, 12), (12, .iload_n 2, 13), (13, .iconst 1, 14), (14, .aload_n 0, 15), (15, .iload_n 3, 16), (16, .iload_n 1, 17), (17, .invokevirtual 46, 20), (20, .ishl, 21), (21, .ior, 22), (22, .istore_n 2, 23), (23, .iinc 3 1, 26), (26, .goto (-22), 29), (29, .iload_n 2, 30), (30, .invokestatic 57, 33), (33, .ireturn, 34)])
theorem okM_Mi_countColumns : okM M_Mi_countColumns := okM_of (by decide +kernel) cw_X3_countColumns rfl rfl rfl rfl
def M_Mi_machineOf : eM := (RX3, yX3_machineOf, cX3_machineOf, 4, (some .int), { frames := 1, cells := 0, slots := 0, locals := 22 }, [(0, .aload_n 0, 1), (1, .iload_n 1, 2), (2, .iload_n 2, 3), (3, .invokevirtual 46, 6), (6, .istore_n 3, 7), (7, .iload_n 3, 8), (8, .aload_n 0, 9), (9, .getfield 22, 12), (12, .if_icmp .ge 7, 15), (15, .iload_n 3, 16), (16, .goto 4, 19), (19, .iconst (-1), 20), (20, .ireturn, 21)])
theorem okM_Mi_machineOf : okM M_Mi_machineOf := okM_of (by decide +kernel) cw_X3_machineOf rfl rfl rfl rfl
def M_Mi_lastHour : eM := (RX3, yX3_lastHour, cX3_lastHour, 5, (some .int), { frames := 2, cells := 0, slots := 0, locals := 45 }, [(0, .iconst (-1), 1), (1, .istore_n 2, 2), (2, .iconst 0, 3), (3, .istore_n 3, 4), (4, .iconst 0, 5), (5, .istore 4, 7), (7, .iload 4, 9), (9, .aload_n 0, 10), (10, .getfield 28, 13), (13, .if_icmp .ge 34, 16), (16, .iload_n 3, 17), (17, .aload_n 0, 18), (18, .getfield 9, 21), (21, .iload 4, 23), (23, .iaload, 24), (24, .iadd, 25), (25, .istore_n 3, 26), (26, .aload_n 0, 27), (27, .iload 4, 29), (29, .iload_n 1, 30), (30, .invokevirtual 63, 33), (33, .iconst (-1), 34), (34, .if_icmp .eq 7, 37), (37, .iload_n 3, 38), (38, .iconst 1, 39), (39, .isub, 40), (40, .istore_n 2, 41), (41, .iinc 4 1, 44), (44, .goto (-37), 47), (47, .iload_n 2, 48), (48, .ireturn, 49)])
theorem okM_Mi_lastHour : okM M_Mi_lastHour := okM_of (by decide +kernel) cw_X3_lastHour rfl rfl rfl rfl
def M_Mi_countPieces : eM := (RX3, yX3_countPieces, cX3_countPieces, 4, (some .int), { frames := 2, cells := 0, slots := 0, locals := 45 }, [(0, .iconst 0, 1), (1, .istore_n 2, 2), (2, .iconst 0, 3), (3, .istore_n 3, 4), (4, .iload_n 3, 5), (5, .aload_n 0, 6), (6, .getfield 28, 9), (9, .if_icmp .ge 22, 12), (12, .aload_n 0, 13), (13, .iload_n 3, 14), (14, .iload_n 1, 15), (15, .invokevirtual 63, 18), (18, .iconst (-1), 19), (19, .if_icmp .eq 6, 22), (22, .iinc 2 1, 25), (25, .iinc 3 1, 28), (28, .goto (-24), 31), (31, .iload_n 2, 32), (32, .ireturn, 33)])
theorem okM_Mi_countPieces : okM M_Mi_countPieces := okM_of (by decide +kernel) cw_X3_countPieces rfl rfl rfl rfl
def M_Mi_countMoves : eM := (RX3, yX3_countMoves, cX3_countMoves, 6, (some .int), { frames := 2, cells := 0, slots := 0, locals := 45 }, [(0, .iconst 0, 1), (1, .istore_n 2, 2), (2, .iconst (-1), 3), (3, .istore_n 3, 4), (4, .iconst 0, 5), (5, .istore 4, 7), (7, .iload 4, 9), (9, .aload_n 0, 10), (10, .getfield 28, 13), (13, .if_icmp .ge 41, 16), (16, .aload_n 0, 17), (17, .iload 4, 19), (19, .iload_n 1, 20), (20, .invokevirtual 63, 23), (23, .istore 5, 25), (25, .iload 5, 27), (27, .iconst (-1), 28), (28, .if_icmp .eq 20, 31), (31, .iload_n 3, 32), (32, .iconst (-1), 33), (33, .if_icmp .eq 12, 36), (36, .iload_n 3, 37), (37, .iload 5, 39), (39, .if_icmp .eq 6, 42), (42, .iinc 2 1, 45), (45, .iload 5, 47), (47, .istore_n 3, 48), (48, .iinc 4 1, 51), (51, .goto (-44), 54), (54, .iload_n 2, 55), (55, .ireturn, 56)])
theorem okM_Mi_countMoves : okM M_Mi_countMoves := okM_of (by decide +kernel) cw_X3_countMoves rfl rfl rfl rfl
def M_Nu_greatestDivisor : eM := (RX4, yX4_greatestDivisor, cX4_greatestDivisor, 11, (some .long), { frames := 0, cells := 0, slots := 0, locals := 0 }, [(0, .lload_n 0, 1), (1, .lstore 4, 3), (3, .lload_n 2, 4), (4, .lstore 6, 6), (6, .iconst 0, 7), (7, .istore 8, 9), (9, .iload 8, 11), (11, .sipush 200, 14), (14, .if_icmp .ge 31, 17), (17, .lload 6, 19), (19, .lconst 0, 20), (20, .lcmp, 21), (21, .ifCond .eq 24, 24), (24, .lload 4, 26), (26, .lload 6, 28), (28, .lrem, 29), (29, .lstore 9, 31), (31, .lload 6, 33), (33, .lstore 4, 35), (35, .lload 9, 37), (37, .lstore 6, 39), (39, .iinc 8 1, 42), (42, .goto (-33), 45), (45, .lload 4, 47), (47, .lreturn, 48)])
theorem okM_Nu_greatestDivisor : okM M_Nu_greatestDivisor := okM_of (by decide +kernel) cw_X4_greatestDivisor rfl rfl rfl rfl
def M_Nu_leastMultiple : eM := (RX4, yX4_leastMultiple, cX4_leastMultiple, 8, (some .long), { frames := 1, cells := 0, slots := 0, locals := 30 }, [(0, .lload_n 0, 1), (1, .lconst 1, 2), (2, .lcmp, 3), (3, .ifCond .lt 9, 6), (6, .lload_n 2, 7), (7, .lconst 1, 8), (8, .lcmp, 9), (9, .ifCond .ge 7, 12), (12, .ldc2_w 9, 15), (15, .lreturn, 16), (16, .lload_n 0, 17), (17, .lload_n 0, 18), (18, .lload_n 2, 19), (19, .invokestatic 11, 22), (22, .ldiv, 23), (23, .lstore 6, 25), (25, .lload 6, 27), (27, .lload 4, 29), (29, .lload_n 2, 30), (30, .ldiv, 31), (31, .lcmp, 32), (32, .ifCond .le 9, 35), (35, .ldc2_w 9, 38), (38, .goto 7, 41), (41, .lload 6, 43), (43, .lload_n 2, 44), (44, .lmul, 45), (45, .lreturn, 46)])
theorem okM_Nu_leastMultiple : okM M_Nu_leastMultiple := okM_of (by decide +kernel) cw_X4_leastMultiple rfl rfl rfl rfl
def M_Pe_startTable : eM := (RX5, yX5_startTable, cX5_startTable, 2, none, { frames := 1, cells := 0, slots := 0, locals := 32 }, [(0, .aload_n 1, 1), (1, .getfield 32, 4), (4, .iconst 0, 5), (5, .aload_n 0, 6), (6, .getfield 9, 9), (9, .iconst 0, 10), (10, .bipush 64, 12), (12, .invokestatic 35, 15), (15, .aload_n 0, 16), (16, .aload_n 1, 17), (17, .getfield 41, 20), (20, .putfield 15, 23), (23, .aload_n 0, 24), (24, .aload_n 1, 25), (25, .getfield 42, 28), (28, .putfield 19, 31), (31, .aload_n 0, 32), (32, .iconst 0, 33), (33, .putfield 22, 36), (36, .return_, 37)])
theorem okM_Pe_startTable : okM M_Pe_startTable := okM_of (by decide +kernel) cw_X5_startTable rfl rfl rfl rfl
def M_Pe_startShop : eM := (RX5, yX5_startShop, cX5_startShop, 7, none, { frames := 2, cells := 0, slots := 0, locals := 45 }, [(0, .aload_n 1, 1), (1, .getfield 41, 4), (4, .istore_n 2, 5), (5, .aload_n 1, 6), (6, .invokevirtual 45, 9), (9, .istore_n 3, 10), (10, .aload_n 0, 11), (11, .getfield 9, 14), (14, .iconst 0, 15), (15, .invokestatic 49, 18), (18, .iconst 0, 19), (19, .istore 4, 21), (21, .iload 4, 23), (23, .iload_n 2, 24), (24, .if_icmp .ge 119, 27), (27, .iconst 0, 28), (28, .istore 5, 30), (30, .iload 5, 32), (32, .iload_n 2, 33), (33, .if_icmp .ge 58, 36), (36, .aload_n 1, 37), (37, .getfield 32, 40), (40, .iload 4, 42), (42, .bipush 8, 44), (44, .imul, 45), (45, .iload 5, 47), (47, .iadd, 48), (48, .iaload, 49), (49, .istore 6, 51), (51, .aload_n 0, 52), (52, .getfield 9, 55), (55, .iload 4, 57), (57, .bipush 8, 59), (59, .imul, 60), (60, .iload 5, 62), (62, .iadd, 63), (63, .iload 6, 65), (65, .iastore, 66), (66, .aload_n 0, 67), (67, .getfield 9, 70), (70, .iload_n 2, 71), (71, .iload 5, 73), (73, .iadd, 74), (74, .bipush 8, 76), (76, .imul, 77), (77, .iload_n 2, 78), (78, .iadd, 79), (79, .iload 4, 81), (81, .iadd, 82), (82, .iload 6, 84), (84, .iastore, 85), (85, .iinc 5 1, 88), (88, .goto (-58), 91), (91, .aload_n 0, 92), (92, .getfield 9, 95), (95, .iload 4, 97), (97, .bipush 8, 99), (99, .imul, 100), (100, .iload_n 2, 101), (101, .iadd, 102), (102, .iload 4, 104), (104, .iadd, 105), (105, .iload_n 3, 106), (106, .aload_n 1, 107), (107, .iload 4, 109), (109, .invokevirtual 55, 112), (112, .isub, 113), (113, .iastore, 114), (114, .aload_n 0, 115), (115, .getfield 9, 118), (118, .iload_n 2, 119), (119, .iload 4, 121), (121, .iadd, 122), (122, .bipush 8, 124), (124, .imul, 125), (125, .iload 4, 127), (127, .iadd, 128), (128, .iload_n 3, 129), (129, .aload_n 1, 130), (130, .iload 4, 132), (132, .invokevirtual 59, 135), (135, .isub, 136), (136, .iastore, 137), (137, .iinc 4 1, 140), (140, .goto (-119), 143), (143, .aload_n 0, 144), (144, .iconst 2, 145), (145, .iload_n 2, 146), (146, .imul, 147), (147, .putfield 15, 150), (150, .aload_n 0, 151), (151, .iload_n 3, 152), (152, .putfield 19, 155), (155, .aload_n 0, 156), (156, .iconst 0, 157), (157, .putfield 22, 160), (160, .return_, 161)])
theorem okM_Pe_startShop : okM M_Pe_startShop := okM_of (by decide +kernel) cw_X5_startShop rfl rfl rfl rfl
def M_Pe_startLike : eM := (RX5, yX5_startLike, cX5_startLike, 2, none, { frames := 1, cells := 0, slots := 0, locals := 32 }, [(0, .aload_n 1, 1), (1, .getfield 9, 4), (4, .iconst 0, 5), (5, .aload_n 0, 6), (6, .getfield 9, 9), (9, .iconst 0, 10), (10, .bipush 64, 12), (12, .invokestatic 35, 15), (15, .aload_n 0, 16), (16, .aload_n 1, 17), (17, .getfield 15, 20), (20, .putfield 15, 23), (23, .aload_n 0, 24), (24, .aload_n 1, 25), (25, .getfield 19, 28), (28, .putfield 19, 31), (31, .aload_n 0, 32), (32, .aload_n 1, 33), (33, .getfield 22, 36), (36, .putfield 22, 39), (39, .return_, 40)])
theorem okM_Pe_startLike : okM M_Pe_startLike := okM_of (by decide +kernel) cw_X5_startLike rfl rfl rfl rfl
def M_Pe_takePart : eM := (RX5, yX5_takePart, cX5_takePart, 3, none, { frames := 4, cells := 0, slots := 0, locals := 106 }, [(0, .aload_n 0, 1), (1, .iconst 0, 2), (2, .putfield 25, 5), (5, .aload_n 0, 6), (6, .getfield 19, 9), (9, .ifCond .le 11, 12), (12, .aload_n 0, 13), (13, .iload_n 1, 14), (14, .invokevirtual 62, 17), (17, .ifCond .ne 9, 20), (20, .aload_n 0, 21), (21, .iconst 0, 22), (22, .putfield 19, 25), (25, .return_, 26), (26, .aload_n 0, 27), (27, .aload_n 0, 28), (28, .getfield 19, 31), (31, .putfield 25, 34), (34, .iconst 0, 35), (35, .istore_n 2, 36), (36, .iload_n 2, 37), (37, .aload_n 0, 38), (38, .getfield 15, 41), (41, .if_icmp .ge 39, 44), (44, .aload_n 0, 45), (45, .aload_n 0, 46), (46, .getfield 25, 49), (49, .aload_n 0, 50), (50, .getfield 9, 53), (53, .iload_n 2, 54), (54, .bipush 8, 56), (56, .imul, 57), (57, .aload_n 0, 58), (58, .getfield 28, 61), (61, .getfield 66, 64), (64, .iload_n 2, 65), (65, .iaload, 66), (66, .iadd, 67), (67, .iaload, 68), (68, .invokestatic 71, 71), (71, .putfield 25, 74), (74, .iinc 2 1, 77), (77, .goto (-41), 80), (80, .iconst 0, 81), (81, .istore_n 2, 82), (82, .iload_n 2, 83), (83, .aload_n 0, 84), (84, .getfield 15, 87), (87, .if_icmp .ge 35, 90), (90, .aload_n 0, 91), (91, .getfield 9, 94), (94, .iload_n 2, 95), (95, .bipush 8, 97), (97, .imul, 98), (98, .aload_n 0, 99), (99, .getfield 28, 102), (102, .getfield 66, 105), (105, .iload_n 2, 106), (106, .iaload, 107), (107, .iadd, 108), (108, .dup2, 109), (109, .iaload, 110), (110, .aload_n 0, 111), (111, .getfield 25, 114), (114, .isub, 115), (115, .iastore, 116), (116, .iinc 2 1, 119), (119, .goto (-37), 122), (122, .aload_n 0, 123), (123, .dup, 124), (124, .getfield 19, 127), (127, .aload_n 0, 128), (128, .getfield 25, 131), (131, .isub, 132), (132, .putfield 19, 135), (135, .aload_n 0, 136), (136, .dup, 137), (137, .getfield 22, 140), (140, .iconst 1, 141), (141, .iadd, 142), (142, .putfield 22, 145), (145, .return_, 146)])
theorem okM_Pe_takePart : okM M_Pe_takePart := okM_of (by decide +kernel) cw_X5_takePart rfl rfl rfl rfl
def M_Pe_choose : eM := (RX5, yX5_choose, cX5_choose, 6, (some .boolean), { frames := 3, cells := 0, slots := 0, locals := 81 }, [(0, .aload_n 0, 1), (1, .getfield 9, 4), (4, .aload_n 0, 5), (5, .getfield 15, 8), (8, .iconst 1, 9), (9, .invokestatic 77, 12), (12, .lstore_n 2, 13), (13, .iload_n 1, 14), (14, .tableswitch 144 1 3 #[26, 83, 115], 40), (40, .aload_n 0, 41), (41, .getfield 28, 44), (44, .aload_n 0, 45), (45, .getfield 9, 48), (48, .lload_n 2, 49), (49, .aload_n 0, 50), (50, .getfield 15, 53), (53, .invokevirtual 83, 56), (56, .l2i, 57), (57, .istore 4, 59), (59, .iload 4, 61), (61, .ifCond .le 34, 64), (64, .aload_n 0, 65), (65, .getfield 28, 68), (68, .aload_n 0, 69), (69, .getfield 9, 72), (72, .aload_n 0, 73), (73, .getfield 15, 76), (76, .iload 4, 78), (78, .invokestatic 77, 81), (81, .aload_n 0, 82), (82, .getfield 15, 85), (85, .invokevirtual 87, 88), (88, .ifCond .eq 7, 91), (91, .iconst 1, 92), (92, .goto 4, 95), (95, .iconst 0, 96), (96, .ireturn, 97), (97, .aload_n 0, 98), (98, .invokevirtual 91, 101), (101, .istore 5, 103), (103, .aload_n 0, 104), (104, .getfield 28, 107), (107, .lload_n 2, 108), (108, .iload 5, 110), (110, .bipush 8, 112), (112, .idiv, 113), (113, .iload 5, 115), (115, .bipush 8, 117), (117, .irem, 118), (118, .invokestatic 94, 121), (121, .aload_n 0, 122), (122, .getfield 15, 125), (125, .invokevirtual 87, 128), (128, .ireturn, 129), (129, .aload_n 0, 130), (130, .getfield 28, 133), (133, .aload_n 0, 134), (134, .getfield 9, 137), (137, .lload_n 2, 138), (138, .aload_n 0, 139), (139, .getfield 15, 142), (142, .invokevirtual 98, 145), (145, .ldc2_w 101, 148), (148, .lcmp, 149), (149, .ifCond .eq 7, 152), (152, .iconst 1, 153), (153, .goto 4, 156), (156, .iconst 0, 157), (157, .ireturn, 158), (158, .aload_n 0, 159), (159, .getfield 28, 162), (162, .lload_n 2, 163), (163, .aload_n 0, 164), (164, .getfield 15, 167), (167, .invokevirtual 87, 170), (170, .ireturn, 171)])
theorem okM_Pe_choose : okM M_Pe_choose := okM_of (by decide +kernel) cw_X5_choose rfl rfl rfl rfl
def M_Pe_leastPlace : eM := (RX5, yX5_leastPlace, cX5_leastPlace, 6, (some .int), { frames := 0, cells := 0, slots := 0, locals := 0 }, [(0, .iconst 0, 1), (1, .istore_n 1, 2), (2, .aload_n 0, 3), (3, .getfield 19, 6), (6, .iconst 1, 7), (7, .iadd, 8), (8, .istore_n 2, 9), (9, .iconst 0, 10), (10, .istore_n 3, 11), (11, .iload_n 3, 12), (12, .aload_n 0, 13), (13, .getfield 15, 16), (16, .if_icmp .ge 63, 19), (19, .iconst 0, 20), (20, .istore 4, 22), (22, .iload 4, 24), (24, .aload_n 0, 25), (25, .getfield 15, 28), (28, .if_icmp .ge 45, 31), (31, .aload_n 0, 32), (32, .getfield 9, 35), (35, .iload_n 3, 36), (36, .bipush 8, 38), (38, .imul, 39), (39, .iload 4, 41), (41, .iadd, 42), (42, .iaload, 43), (43, .istore 5, 45), (45, .iload 5, 47), (47, .ifCond .le 20, 50), (50, .iload 5, 52), (52, .iload_n 2, 53), (53, .if_icmp .ge 14, 56), (56, .iload 5, 58), (58, .istore_n 2, 59), (59, .iload_n 3, 60), (60, .bipush 8, 62), (62, .imul, 63), (63, .iload 4, 65), (65, .iadd, 66), (66, .istore_n 1, 67), (67, .iinc 4 1, 70), (70, .goto (-48), 73), (73, .iinc 3 1, 76), (76, .goto (-65), 79), (79, .iload_n 1, 80), (80, .ireturn, 81)])
theorem okM_Pe_leastPlace : okM M_Pe_leastPlace := okM_of (by decide +kernel) cw_X5_leastPlace rfl rfl rfl rfl
def M_Pe_choiceNumber : eM := (RX5, yX5_choiceNumber, cX5_choiceNumber, 3, (some .int), { frames := 0, cells := 0, slots := 0, locals := 0 }, [(0, .iconst 0, 1), (1, .istore_n 1, 2), (2, .iconst 0, 3), (3, .istore_n 2, 4), (4, .iload_n 2, 5), (5, .aload_n 0, 6), (6, .getfield 15, 9), (9, .if_icmp .ge 24, 12), (12, .iload_n 1, 13), (13, .bipush 8, 15), (15, .imul, 16), (16, .aload_n 0, 17), (17, .getfield 28, 20), (20, .getfield 66, 23), (23, .iload_n 2, 24), (24, .iaload, 25), (25, .iadd, 26), (26, .istore_n 1, 27), (27, .iinc 2 1, 30), (30, .goto (-26), 33), (33, .iload_n 1, 34), (34, .ireturn, 35)])
theorem okM_Pe_choiceNumber : okM M_Pe_choiceNumber := okM_of (by decide +kernel) cw_X5_choiceNumber rfl rfl rfl rfl
def M_Ro_round : eM := (RX6, yX6_round, cX6_round, 2, none, { frames := 4, cells := 0, slots := 0, locals := 95 }, [(0, .aload_n 0, 1), (1, .aload_n 1, 2), (2, .invokevirtual 27, 5), (5, .aload_n 0, 6), (6, .aload_n 1, 7), (7, .getfield 31, 10), (10, .invokevirtual 37, 13), (13, .aload_n 1, 14), (14, .aload_n 0, 15), (15, .aload_n 1, 16), (16, .getfield 31, 19), (19, .invokevirtual 41, 22), (22, .putfield 45, 25), (25, .aload_n 1, 26), (26, .iconst 1, 27), (27, .putfield 49, 30), (30, .return_, 31)])
theorem okM_Ro_round : okM M_Ro_round := okM_of (by decide +kernel) cw_X6_round rfl rfl rfl rfl
def M_Ro_lay : eM := (RX6, yX6_lay, cX6_lay, 8, none, { frames := 1, cells := 0, slots := 0, locals := 25 }, [(0, .aload_n 0, 1), (1, .getfield 11, 4), (4, .iconst 0, 5), (5, .invokestatic 53, 8), (8, .aload_n 0, 9), (9, .getfield 15, 12), (12, .iconst 0, 13), (13, .invokestatic 53, 16), (16, .aload_n 0, 17), (17, .getfield 18, 20), (20, .iconst 0, 21), (21, .invokestatic 53, 24), (24, .iconst 0, 25), (25, .istore_n 2, 26), (26, .iconst 0, 27), (27, .istore_n 3, 28), (28, .iload_n 3, 29), (29, .aload_n 1, 30), (30, .getfield 31, 33), (33, .if_icmp .ge 134, 36), (36, .iconst 0, 37), (37, .istore 4, 39), (39, .iconst 0, 40), (40, .istore 5, 42), (42, .iconst 0, 43), (43, .istore 6, 45), (45, .iload 6, 47), (47, .aload_n 1, 48), (48, .getfield 31, 51), (51, .if_icmp .ge 75, 54), (54, .aload_n 1, 55), (55, .getfield 59, 58), (58, .iload_n 3, 59), (59, .bipush 8, 61), (61, .imul, 62), (62, .iload 6, 64), (64, .iadd, 65), (65, .iaload, 66), (66, .aload_n 1, 67), (67, .getfield 62, 70), (70, .irem, 71), (71, .istore 7, 73), (73, .aload_n 0, 74), (74, .iconst 1, 75), (75, .iload_n 3, 76), (76, .iadd, 77), (77, .bipush 9, 79), (79, .iload 6, 81), (81, .iadd, 82), (82, .iload 7, 84), (84, .aload_n 1, 85), (85, .getfield 62, 88), (88, .invokevirtual 65, 91), (91, .iload 4, 93), (93, .iload 7, 95), (95, .iadd, 96), (96, .istore 4, 98), (98, .iload 5, 100), (100, .aload_n 1, 101), (101, .getfield 59, 104), (104, .iload 6, 106), (106, .bipush 8, 108), (108, .imul, 109), (109, .iload_n 3, 110), (110, .iadd, 111), (111, .iaload, 112), (112, .aload_n 1, 113), (113, .getfield 62, 116), (116, .irem, 117), (117, .iadd, 118), (118, .istore 5, 120), (120, .iinc 6 1, 123), (123, .goto (-78), 126), (126, .aload_n 0, 127), (127, .iconst 0, 128), (128, .iconst 1, 129), (129, .iload_n 3, 130), (130, .iadd, 131), (131, .iload 4, 133), (133, .aload_n 1, 134), (134, .getfield 62, 137), (137, .invokevirtual 65, 140), (140, .aload_n 0, 141), (141, .bipush 9, 143), (143, .iload_n 3, 144), (144, .iadd, 145), (145, .bipush 17, 147), (147, .iload 5, 149), (149, .aload_n 1, 150), (150, .getfield 62, 153), (153, .invokevirtual 65, 156), (156, .iload_n 2, 157), (157, .iload 4, 159), (159, .iadd, 160), (160, .istore_n 2, 161), (161, .iinc 3 1, 164), (164, .goto (-136), 167), (167, .aload_n 0, 168), (168, .bipush 17, 170), (170, .iconst 0, 171), (171, .iload_n 2, 172), (172, .aload_n 1, 173), (173, .getfield 62, 176), (176, .invokevirtual 65, 179), (179, .return_, 180)])
theorem okM_Ro_lay : okM M_Ro_lay := okM_of (by decide +kernel) cw_X6_lay rfl rfl rfl rfl
def M_Ro_setBounds : eM := (RX6, yX6_setBounds, cX6_setBounds, 6, none, { frames := 0, cells := 0, slots := 0, locals := 0 }, [(0, .iload_n 1, 1), (1, .bipush 18, 3), (3, .imul, 4), (4, .iload_n 2, 5), (5, .iadd, 6), (6, .istore 5, 8), (8, .aload_n 0, 9), (9, .getfield 15, 12), (12, .iload 5, 14), (14, .iload_n 3, 15), (15, .iload 4, 17), (17, .idiv, 18), (18, .iastore, 19), (19, .aload_n 0, 20), (20, .getfield 18, 23), (23, .iload 5, 25), (25, .iload_n 3, 26), (26, .iload 4, 28), (28, .irem, 29), (29, .ifCond .ne 13, 32), (32, .aload_n 0, 33), (33, .getfield 15, 36), (36, .iload 5, 38), (38, .iaload, 39), (39, .goto 12, 42), (42, .aload_n 0, 43), (43, .getfield 15, 46), (46, .iload 5, 48), (48, .iaload, 49), (49, .iconst 1, 50), (50, .iadd, 51), (51, .iastore, 52), (52, .return_, 53)])
theorem okM_Ro_setBounds : okM M_Ro_setBounds := okM_of (by decide +kernel) cw_X6_setBounds rfl rfl rfl rfl
def M_Ro_meetLows : eM := (RX6, yX6_meetLows, cX6_meetLows, 3, none, { frames := 3, cells := 0, slots := 0, locals := 73 }, [(0, .iconst 0, 1), (1, .istore_n 2, 2), (2, .iload_n 2, 3), (3, .iload_n 1, 4), (4, .if_icmp .ge 17, 7), (7, .aload_n 0, 8), (8, .iconst 0, 9), (9, .iconst 1, 10), (10, .iload_n 2, 11), (11, .iadd, 12), (12, .invokevirtual 69, 15), (15, .iinc 2 1, 18), (18, .goto (-16), 21), (21, .iconst 0, 22), (22, .istore_n 2, 23), (23, .iload_n 2, 24), (24, .iload_n 1, 25), (25, .if_icmp .ge 19, 28), (28, .aload_n 0, 29), (29, .bipush 9, 31), (31, .iload_n 2, 32), (32, .iadd, 33), (33, .bipush 17, 35), (35, .invokevirtual 69, 38), (38, .iinc 2 1, 41), (41, .goto (-18), 44), (44, .aload_n 0, 45), (45, .bipush 17, 47), (47, .iconst 0, 48), (48, .invokevirtual 69, 51), (51, .return_, 52)])
theorem okM_Ro_meetLows : okM M_Ro_meetLows := okM_of (by decide +kernel) cw_X6_meetLows rfl rfl rfl rfl
def M_Ro_meetLow : eM := (RX6, yX6_meetLow, cX6_meetLow, 5, none, { frames := 2, cells := 0, slots := 0, locals := 49 }, [(0, .iload_n 1, 1), (1, .bipush 18, 3), (3, .imul, 4), (4, .iload_n 2, 5), (5, .iadd, 6), (6, .istore_n 3, 7), (7, .iconst 0, 8), (8, .istore 4, 10), (10, .iload 4, 12), (12, .bipush 64, 14), (14, .if_icmp .ge 49, 17), (17, .aload_n 0, 18), (18, .getfield 11, 21), (21, .iload_n 3, 22), (22, .iaload, 23), (23, .aload_n 0, 24), (24, .getfield 15, 27), (27, .iload_n 3, 28), (28, .iaload, 29), (29, .if_icmp .ge 34, 32), (32, .aload_n 0, 33), (33, .iload_n 2, 34), (34, .iload_n 1, 35), (35, .invokevirtual 73, 38), (38, .ifCond .eq 19, 41), (41, .aload_n 0, 42), (42, .iload_n 2, 43), (43, .iload_n 1, 44), (44, .invokevirtual 77, 47), (47, .aload_n 0, 48), (48, .getfield 11, 51), (51, .iload_n 3, 52), (52, .dup2, 53), (53, .iaload, 54), (54, .iconst 1, 55), (55, .iadd, 56), (56, .iastore, 57), (57, .iinc 4 1, 60), (60, .goto (-50), 63), (63, .return_, 64)])
theorem okM_Ro_meetLow : okM M_Ro_meetLow := okM_of (by decide +kernel) cw_X6_meetLow rfl rfl rfl rfl
def M_Ro_lessen : eM := (RX6, yX6_lessen, cX6_lessen, 7, (some .long), { frames := 2, cells := 0, slots := 0, locals := 49 }, [(0, .lconst 0, 1), (1, .lstore_n 2, 2), (2, .iconst 0, 3), (3, .istore 4, 5), (5, .iload 4, 7), (7, .iload_n 1, 8), (8, .if_icmp .ge 140, 11), (11, .iconst 0, 12), (12, .istore 5, 14), (14, .iload 5, 16), (16, .iload_n 1, 17), (17, .if_icmp .ge 125, 20), (20, .iconst 1, 21), (21, .iload 4, 23), (23, .iadd, 24), (24, .bipush 18, 26), (26, .imul, 27), (27, .bipush 9, 29), (29, .iadd, 30), (30, .iload 5, 32), (32, .iadd, 33), (33, .istore 6, 35), (35, .aload_n 0, 36), (36, .getfield 11, 39), (39, .iload 6, 41), (41, .iaload, 42), (42, .ifCond .le 43, 45), (45, .aload_n 0, 46), (46, .iconst 1, 47), (47, .iload 4, 49), (49, .iadd, 50), (50, .bipush 9, 52), (52, .iload 5, 54), (54, .iadd, 55), (55, .invokevirtual 73, 58), (58, .ifCond .eq 27, 61), (61, .aload_n 0, 62), (62, .iconst 1, 63), (63, .iload 4, 65), (65, .iadd, 66), (66, .bipush 9, 68), (68, .iload 5, 70), (70, .iadd, 71), (71, .invokevirtual 77, 74), (74, .aload_n 0, 75), (75, .getfield 11, 78), (78, .iload 6, 80), (80, .dup2, 81), (81, .iaload, 82), (82, .iconst 1, 83), (83, .isub, 84), (84, .iastore, 85), (85, .aload_n 0, 86), (86, .getfield 15, 89), (89, .iload 6, 91), (91, .aload_n 0, 92), (92, .getfield 11, 95), (95, .iload 6, 97), (97, .iaload, 98), (98, .iastore, 99), (99, .aload_n 0, 100), (100, .getfield 18, 103), (103, .iload 6, 105), (105, .aload_n 0, 106), (106, .getfield 11, 109), (109, .iload 6, 111), (111, .iaload, 112), (112, .iastore, 113), (113, .aload_n 0, 114), (114, .getfield 11, 117), (117, .iload 6, 119), (119, .iaload, 120), (120, .ifCond .le 16, 123), (123, .lload_n 2, 124), (124, .lconst 1, 125), (125, .iload 4, 127), (127, .bipush 8, 129), (129, .imul, 130), (130, .iload 5, 132), (132, .iadd, 133), (133, .lshl, 134), (134, .lor, 135), (135, .lstore_n 2, 136), (136, .iinc 5 1, 139), (139, .goto (-125), 142), (142, .iinc 4 1, 145), (145, .goto (-140), 148), (148, .lload_n 2, 149), (149, .lreturn, 150)])
theorem okM_Ro_lessen : okM M_Ro_lessen := okM_of (by decide +kernel) cw_X6_lessen rfl rfl rfl rfl
def M_Ro_findWay : eM := (RX6, yX6_findWay, cX6_findWay, 6, (some .boolean), { frames := 1, cells := 0, slots := 0, locals := 24 }, [(0, .aload_n 0, 1), (1, .getfield 21, 4), (4, .iconst (-1), 5), (5, .invokestatic 53, 8), (8, .aload_n 0, 9), (9, .getfield 21, 12), (12, .iload_n 1, 13), (13, .iload_n 1, 14), (14, .iastore, 15), (15, .aload_n 0, 16), (16, .getfield 24, 19), (19, .iconst 0, 20), (20, .iload_n 1, 21), (21, .iastore, 22), (22, .iconst 1, 23), (23, .istore_n 3, 24), (24, .iconst 0, 25), (25, .istore 4, 27), (27, .iload 4, 29), (29, .iload_n 3, 30), (30, .if_icmp .ge 98, 33), (33, .iload 4, 35), (35, .bipush 18, 37), (37, .if_icmp .ge 91, 40), (40, .iconst 0, 41), (41, .istore 5, 43), (43, .iload 5, 45), (45, .bipush 18, 47), (47, .if_icmp .ge 75, 50), (50, .iload_n 3, 51), (51, .bipush 18, 53), (53, .if_icmp .ge 69, 56), (56, .aload_n 0, 57), (57, .getfield 21, 60), (60, .iload 5, 62), (62, .iaload, 63), (63, .iconst (-1), 64), (64, .if_icmp .ne 52, 67), (67, .aload_n 0, 68), (68, .aload_n 0, 69), (69, .getfield 24, 72), (72, .iload 4, 74), (74, .iaload, 75), (75, .iload 5, 77), (77, .invokevirtual 80, 80), (80, .ifCond .eq 36, 83), (83, .aload_n 0, 84), (84, .getfield 21, 87), (87, .iload 5, 89), (89, .aload_n 0, 90), (90, .getfield 24, 93), (93, .iload 4, 95), (95, .iaload, 96), (96, .iastore, 97), (97, .iload 5, 99), (99, .iload_n 2, 100), (100, .if_icmp .ne 5, 103), (103, .iconst 1, 104), (104, .ireturn, 105), (105, .aload_n 0, 106), (106, .getfield 24, 109), (109, .iload_n 3, 110), (110, .iload 5, 112), (112, .iastore, 113), (113, .iinc 3 1, 116), (116, .iinc 5 1, 119), (119, .goto (-76), 122), (122, .iinc 4 1, 125), (125, .goto (-98), 128), (128, .iconst 0, 129), (129, .ireturn, 130)])
theorem okM_Ro_findWay : okM M_Ro_findWay := okM_of (by decide +kernel) cw_X6_findWay rfl rfl rfl rfl
def M_Ro_isOpen : eM := (RX6, yX6_isOpen, cX6_isOpen, 5, (some .boolean), { frames := 0, cells := 0, slots := 0, locals := 0 }, [(0, .iload_n 1, 1), (1, .bipush 18, 3), (3, .imul, 4), (4, .iload_n 2, 5), (5, .iadd, 6), (6, .istore_n 3, 7), (7, .iload_n 2, 8), (8, .bipush 18, 10), (10, .imul, 11), (11, .iload_n 1, 12), (12, .iadd, 13), (13, .istore 4, 15), (15, .aload_n 0, 16), (16, .getfield 11, 19), (19, .iload_n 3, 20), (20, .iaload, 21), (21, .aload_n 0, 22), (22, .getfield 18, 25), (25, .iload_n 3, 26), (26, .iaload, 27), (27, .if_icmp .lt 20, 30), (30, .aload_n 0, 31), (31, .getfield 11, 34), (34, .iload 4, 36), (36, .iaload, 37), (37, .aload_n 0, 38), (38, .getfield 15, 41), (41, .iload 4, 43), (43, .iaload, 44), (44, .if_icmp .le 7, 47), (47, .iconst 1, 48), (48, .goto 4, 51), (51, .iconst 0, 52), (52, .ireturn, 53)])
theorem okM_Ro_isOpen : okM M_Ro_isOpen := okM_of (by decide +kernel) cw_X6_isOpen rfl rfl rfl rfl
def M_Ro_flowAlong : eM := (RX6, yX6_flowAlong, cX6_flowAlong, 6, none, { frames := 0, cells := 0, slots := 0, locals := 0 }, [(0, .iload_n 2, 1), (1, .istore_n 3, 2), (2, .iconst 0, 3), (3, .istore 4, 5), (5, .iload 4, 7), (7, .bipush 18, 9), (9, .if_icmp .ge 85, 12), (12, .iload_n 3, 13), (13, .iload_n 1, 14), (14, .if_icmp .eq 80, 17), (17, .aload_n 0, 18), (18, .getfield 21, 21), (21, .iload_n 3, 22), (22, .iaload, 23), (23, .bipush 18, 25), (25, .imul, 26), (26, .iload_n 3, 27), (27, .iadd, 28), (28, .istore 5, 30), (30, .aload_n 0, 31), (31, .getfield 11, 34), (34, .iload 5, 36), (36, .iaload, 37), (37, .aload_n 0, 38), (38, .getfield 18, 41), (41, .iload 5, 43), (43, .iaload, 44), (44, .if_icmp .ge 17, 47), (47, .aload_n 0, 48), (48, .getfield 11, 51), (51, .iload 5, 53), (53, .dup2, 54), (54, .iaload, 55), (55, .iconst 1, 56), (56, .iadd, 57), (57, .iastore, 58), (58, .goto 23, 61), (61, .aload_n 0, 62), (62, .getfield 11, 65), (65, .iload_n 3, 66), (66, .bipush 18, 68), (68, .imul, 69), (69, .aload_n 0, 70), (70, .getfield 21, 73), (73, .iload_n 3, 74), (74, .iaload, 75), (75, .iadd, 76), (76, .dup2, 77), (77, .iaload, 78), (78, .iconst 1, 79), (79, .isub, 80), (80, .iastore, 81), (81, .aload_n 0, 82), (82, .getfield 21, 85), (85, .iload_n 3, 86), (86, .iaload, 87), (87, .istore_n 3, 88), (88, .iinc 4 1, 91), (91, .goto (-86), 94), (94, .return_, 95)])
theorem okM_Ro_flowAlong : okM M_Ro_flowAlong := okM_of (by decide +kernel) cw_X6_flowAlong rfl rfl rfl rfl
def M_Se_seek : eM := (RX7, yX7_seek, cX7_seek, 5, none, { frames := 6, cells := 0, slots := 0, locals := 154 }, [(0, .aload_n 1, 1), (1, .bipush 65, 3), (3, .putfield 34, 6), (6, .aload_n 0, 7), (7, .getfield 13, 10), (10, .iconst 0, 11), (11, .aaload, 12), (12, .aload_n 1, 13), (13, .invokevirtual 40, 16), (16, .iconst 0, 17), (17, .istore_n 2, 18), (18, .iload_n 2, 19), (19, .iconst 4, 20), (20, .if_icmp .ge 86, 23), (23, .aload_n 0, 24), (24, .iconst 0, 25), (25, .iload_n 2, 26), (26, .invokevirtual 44, 29), (29, .ifCond .ne 6, 32), (32, .goto 68, 35), (35, .iconst 0, 36), (36, .istore_n 3, 37), (37, .iload_n 3, 38), (38, .iconst 4, 39), (39, .if_icmp .ge 61, 42), (42, .aload_n 0, 43), (43, .iconst 1, 44), (44, .iload_n 3, 45), (45, .invokevirtual 44, 48), (48, .ifCond .ne 6, 51), (51, .goto 43, 54), (54, .iconst 0, 55), (55, .istore 4, 57), (57, .iload 4, 59), (59, .iconst 4, 60), (60, .if_icmp .ge 34, 63), (63, .aload_n 0, 64), (64, .iconst 2, 65), (65, .iload 4, 67), (67, .invokevirtual 44, 70), (70, .ifCond .eq 18, 73), (73, .aload_n 0, 74), (74, .aload_n 1, 75), (75, .iload_n 2, 76), (76, .iconst 4, 77), (77, .imul, 78), (78, .iload_n 3, 79), (79, .iadd, 80), (80, .iconst 4, 81), (81, .imul, 82), (82, .iload 4, 84), (84, .iadd, 85), (85, .invokevirtual 48, 88), (88, .iinc 4 1, 91), (91, .goto (-34), 94), (94, .iinc 3 1, 97), (97, .goto (-60), 100), (100, .iinc 2 1, 103), (103, .goto (-85), 106), (106, .aload_n 1, 107), (107, .iconst 1, 108), (108, .putfield 52, 111), (111, .return_, 112)])
theorem okM_Se_seek : okM M_Se_seek := okM_of (by decide +kernel) cw_X7_seek rfl rfl rfl rfl
def M_Se_isNewStep : eM := (RX7, yX7_isNewStep, cX7_isNewStep, 7, (some .boolean), { frames := 5, cells := 0, slots := 0, locals := 128 }, [(0, .aload_n 0, 1), (1, .getfield 13, 4), (4, .iload_n 1, 5), (5, .iconst 1, 6), (6, .iadd, 7), (7, .aaload, 8), (8, .astore_n 3, 9), (9, .aload_n 3, 10), (10, .aload_n 0, 11), (11, .getfield 13, 14), (14, .iload_n 1, 15), (15, .aaload, 16), (16, .invokevirtual 56, 19), (19, .iconst (-1), 20), (20, .istore 4, 22), (22, .aload_n 3, 23), (23, .getfield 60, 26), (26, .ifCond .le 14, 29), (29, .aload_n 3, 30), (30, .iload_n 2, 31), (31, .invokevirtual 63, 34), (34, .aload_n 3, 35), (35, .invokevirtual 67, 38), (38, .istore 4, 40), (40, .iload_n 1, 41), (41, .iconst 4, 42), (42, .imul, 43), (43, .istore 5, 45), (45, .aload_n 0, 46), (46, .getfield 17, 49), (49, .iload 5, 51), (51, .iload_n 2, 52), (52, .iadd, 53), (53, .iload 4, 55), (55, .iastore, 56), (56, .iconst 0, 57), (57, .istore 6, 59), (59, .iload 6, 61), (61, .iload_n 2, 62), (62, .if_icmp .ge 26, 65), (65, .aload_n 0, 66), (66, .getfield 17, 69), (69, .iload 5, 71), (71, .iload 6, 73), (73, .iadd, 74), (74, .iaload, 75), (75, .iload 4, 77), (77, .if_icmp .ne 5, 80), (80, .iconst 0, 81), (81, .ireturn, 82), (82, .iinc 6 1, 85), (85, .goto (-26), 88), (88, .iconst 1, 89), (89, .ireturn, 90)])
theorem okM_Se_isNewStep : okM M_Se_isNewStep := okM_of (by decide +kernel) cw_X7_isNewStep rfl rfl rfl rfl
def M_Se_finish : eM := (RX7, yX7_finish, cX7_finish, 6, none, { frames := 5, cells := 0, slots := 0, locals := 128 }, [(0, .aload_n 0, 1), (1, .getfield 13, 4), (4, .iconst 4, 5), (5, .aaload, 6), (6, .astore_n 3, 7), (7, .iconst 0, 8), (8, .istore 4, 10), (10, .iload 4, 12), (12, .iconst 4, 13), (13, .if_icmp .ge 95, 16), (16, .aload_n 3, 17), (17, .aload_n 0, 18), (18, .getfield 13, 21), (21, .iconst 3, 22), (22, .aaload, 23), (23, .invokevirtual 56, 26), (26, .iconst 0, 27), (27, .istore 5, 29), (29, .iload 5, 31), (31, .bipush 64, 33), (33, .if_icmp .ge 33, 36), (36, .aload_n 3, 37), (37, .getfield 60, 40), (40, .ifCond .le 26, 43), (43, .aload_n 3, 44), (44, .getfield 71, 47), (47, .aload_n 1, 48), (48, .getfield 34, 51), (51, .if_icmp .ge 15, 54), (54, .aload_n 3, 55), (55, .iload 4, 57), (57, .invokevirtual 63, 60), (60, .iinc 5 1, 63), (63, .goto (-34), 66), (66, .aload_n 3, 67), (67, .getfield 60, 70), (70, .ifCond .ne 32, 73), (73, .aload_n 3, 74), (74, .getfield 71, 77), (77, .aload_n 1, 78), (78, .getfield 34, 81), (81, .if_icmp .ge 21, 84), (84, .aload_n 1, 85), (85, .aload_n 3, 86), (86, .getfield 71, 89), (89, .putfield 34, 92), (92, .aload_n 1, 93), (93, .iload_n 2, 94), (94, .iconst 4, 95), (95, .imul, 96), (96, .iload 4, 98), (98, .iadd, 99), (99, .putfield 74, 102), (102, .iinc 4 1, 105), (105, .goto (-95), 108), (108, .return_, 109)])
theorem okM_Se_finish : okM M_Se_finish := okM_of (by decide +kernel) cw_X7_finish rfl rfl rfl rfl
def M_Se_countFewest : eM := (RX7, yX7_countFewest, cX7_countFewest, 5, (some .int), { frames := 5, cells := 0, slots := 0, locals := 128 }, [(0, .aload_n 0, 1), (1, .getfield 21, 4), (4, .iconst 0, 5), (5, .invokestatic 77, 8), (8, .aload_n 0, 9), (9, .getfield 24, 12), (12, .iconst 0, 13), (13, .invokestatic 77, 16), (16, .aload_n 0, 17), (17, .getfield 13, 20), (20, .iconst 0, 21), (21, .aaload, 22), (22, .astore_n 2, 23), (23, .aload_n 2, 24), (24, .aload_n 1, 25), (25, .invokevirtual 40, 28), (28, .iconst 0, 29), (29, .istore_n 3, 30), (30, .iload_n 3, 31), (31, .bipush 64, 33), (33, .if_icmp .ge 29, 36), (36, .aload_n 2, 37), (37, .getfield 60, 40), (40, .ifCond .le 22, 43), (43, .aload_n 2, 44), (44, .iconst 0, 45), (45, .invokevirtual 63, 48), (48, .aload_n 0, 49), (49, .aload_n 2, 50), (50, .getfield 83, 53), (53, .invokevirtual 86, 56), (56, .iinc 3 1, 59), (59, .goto (-29), 62), (62, .aload_n 1, 63), (63, .getfield 89, 66), (66, .iconst 3, 67), (67, .if_icmp .ge 8, 70), (70, .aload_n 2, 71), (71, .getfield 71, 74), (74, .ireturn, 75), (75, .aload_n 0, 76), (76, .getfield 21, 79), (79, .invokestatic 92, 82), (82, .istore_n 3, 83), (83, .aload_n 0, 84), (84, .getfield 24, 87), (87, .invokestatic 92, 90), (90, .istore 4, 92), (92, .aload_n 0, 93), (93, .getfield 21, 96), (96, .iload_n 3, 97), (97, .invokestatic 96, 100), (100, .aload_n 0, 101), (101, .getfield 24, 104), (104, .iload_n 3, 105), (105, .ineg, 106), (106, .invokestatic 96, 109), (109, .iadd, 110), (110, .aload_n 0, 111), (111, .getfield 21, 114), (114, .iload 4, 116), (116, .ineg, 117), (117, .invokestatic 96, 120), (120, .aload_n 0, 121), (121, .getfield 24, 124), (124, .iload 4, 126), (126, .invokestatic 96, 129), (129, .iadd, 130), (130, .invokestatic 100, 133), (133, .ireturn, 134)])
theorem okM_Se_countFewest : okM M_Se_countFewest := okM_of (by decide +kernel) cw_X7_countFewest rfl rfl rfl rfl
def M_Se_addWeight : eM := (RX7, yX7_addWeight, cX7_addWeight, 3, none, { frames := 0, cells := 0, slots := 0, locals := 0 }, [(0, .aload_n 0, 1), (1, .getfield 27, 4), (4, .getfield 106, 7), (7, .iconst 0, 8), (8, .iaload, 9), (9, .istore_n 2, 10), (10, .iload_n 2, 11), (11, .iconst 3, 12), (12, .if_icmp .ge 43, 15), (15, .aload_n 0, 16), (16, .getfield 27, 19), (19, .getfield 106, 22), (22, .iconst 1, 23), (23, .iaload, 24), (24, .iload_n 2, 25), (25, .iconst 1, 26), (26, .iadd, 27), (27, .iconst 3, 28), (28, .irem, 29), (29, .if_icmp .ne 16, 32), (32, .aload_n 0, 33), (33, .getfield 21, 36), (36, .iload_n 2, 37), (37, .dup2, 38), (38, .iaload, 39), (39, .iload_n 1, 40), (40, .iadd, 41), (41, .iastore, 42), (42, .goto 13, 45), (45, .aload_n 0, 46), (46, .getfield 24, 49), (49, .iload_n 2, 50), (50, .dup2, 51), (51, .iaload, 52), (52, .iload_n 1, 53), (53, .iadd, 54), (54, .iastore, 55), (55, .return_, 56)])
theorem okM_Se_addWeight : okM M_Se_addWeight := okM_of (by decide +kernel) cw_X7_addWeight rfl rfl rfl rfl
def M_Se_leastOf : eM := (RX7, yX7_leastOf, cX7_leastOf, 6, (some .int), { frames := 1, cells := 0, slots := 0, locals := 21 }, [(0, .aload_n 0, 1), (1, .iconst 0, 2), (2, .iaload, 3), (3, .istore_n 1, 4), (4, .aload_n 0, 5), (5, .astore_n 2, 6), (6, .aload_n 2, 7), (7, .arraylength, 8), (8, .istore_n 3, 9), (9, .iconst 0, 10), (10, .istore 4, 12), (12, .iload 4, 14), (14, .iload_n 3, 15), (15, .if_icmp .ge 22, 18), (18, .aload_n 2, 19), (19, .iload 4, 21), (21, .iaload, 22), (22, .istore 5, 24), (24, .iload_n 1, 25), (25, .iload 5, 27), (27, .invokestatic 100, 30), (30, .istore_n 1, 31), (31, .iinc 4 1, 34), (34, .goto (-22), 37), (37, .iload_n 1, 38), (38, .ireturn, 39)])
theorem okM_Se_leastOf : okM M_Se_leastOf := okM_of (by decide +kernel) cw_X7_leastOf rfl rfl rfl rfl
def M_Se_countAbove : eM := (RX7, yX7_countAbove, cX7_countAbove, 7, (some .int), { frames := 0, cells := 0, slots := 0, locals := 0 }, [(0, .iconst 0, 1), (1, .istore_n 2, 2), (2, .aload_n 0, 3), (3, .astore_n 3, 4), (4, .aload_n 3, 5), (5, .arraylength, 6), (6, .istore 4, 8), (8, .iconst 0, 9), (9, .istore 5, 11), (11, .iload 5, 13), (13, .iload 4, 15), (15, .if_icmp .ge 24, 18), (18, .aload_n 3, 19), (19, .iload 5, 21), (21, .iaload, 22), (22, .istore 6, 24), (24, .iload 6, 26), (26, .iload_n 1, 27), (27, .if_icmp .le 6, 30), (30, .iinc 2 1, 33), (33, .iinc 5 1, 36), (36, .goto (-25), 39), (39, .iload_n 2, 40), (40, .ireturn, 41)])
theorem okM_Se_countAbove : okM M_Se_countAbove := okM_of (by decide +kernel) cw_X7_countAbove rfl rfl rfl rfl
def M_Sh_write : eM := (RX8, yX8_write, cX8_write, 4, none, { frames := 2, cells := 0, slots := 0, locals := 44 }, [(0, .aload_n 0, 1), (1, .iconst 0, 2), (2, .putfield 15, 5), (5, .iconst 0, 6), (6, .istore_n 2, 7), (7, .iload_n 2, 8), (8, .aload_n 1, 9), (9, .getfield 19, 12), (12, .if_icmp .ge 60, 15), (15, .aload_n 0, 16), (16, .aload_n 1, 17), (17, .getfield 24, 20), (20, .iload_n 2, 21), (21, .iaload, 22), (22, .invokevirtual 27, 25), (25, .aload_n 0, 26), (26, .bipush 58, 28), (28, .invokevirtual 31, 31), (31, .iconst 0, 32), (32, .istore_n 3, 33), (33, .iload_n 3, 34), (34, .aload_n 1, 35), (35, .getfield 34, 38), (38, .if_icmp .ge 22, 41), (41, .aload_n 0, 42), (42, .bipush 48, 44), (44, .aload_n 1, 45), (45, .iload_n 2, 46), (46, .iload_n 3, 47), (47, .invokevirtual 37, 50), (50, .iadd, 51), (51, .invokevirtual 31, 54), (54, .iinc 3 1, 57), (57, .goto (-24), 60), (60, .aload_n 0, 61), (61, .bipush 59, 63), (63, .invokevirtual 31, 66), (66, .iinc 2 1, 69), (69, .goto (-62), 72), (72, .return_, 73)])
theorem okM_Sh_write : okM M_Sh_write := okM_of (by decide +kernel) cw_X8_write rfl rfl rfl rfl
def M_Sh_putNumber : eM := (RX8, yX8_putNumber, cX8_putNumber, 4, none, { frames := 1, cells := 0, slots := 0, locals := 21 }, [(0, .iconst 1, 1), (1, .istore_n 2, 2), (2, .iconst 0, 3), (3, .istore_n 3, 4), (4, .iload_n 3, 5), (5, .bipush 9, 7), (7, .if_icmp .ge 22, 10), (10, .iload_n 1, 11), (11, .iload_n 2, 12), (12, .idiv, 13), (13, .bipush 9, 15), (15, .if_icmp .le 14, 18), (18, .iload_n 2, 19), (19, .bipush 10, 21), (21, .imul, 22), (22, .istore_n 2, 23), (23, .iinc 3 1, 26), (26, .goto (-22), 29), (29, .iconst 0, 30), (30, .istore_n 3, 31), (31, .iload_n 3, 32), (32, .bipush 10, 34), (34, .if_icmp .ge 31, 37), (37, .iload_n 2, 38), (38, .ifCond .le 27, 41), (41, .aload_n 0, 42), (42, .bipush 48, 44), (44, .iload_n 1, 45), (45, .iload_n 2, 46), (46, .idiv, 47), (47, .bipush 10, 49), (49, .irem, 50), (50, .iadd, 51), (51, .invokevirtual 31, 54), (54, .iload_n 2, 55), (55, .bipush 10, 57), (57, .idiv, 58), (58, .istore_n 2, 59), (59, .iinc 3 1, 62), (62, .goto (-31), 65), (65, .return_, 66)])
theorem okM_Sh_putNumber : okM M_Sh_putNumber := okM_of (by decide +kernel) cw_X8_putNumber rfl rfl rfl rfl
def M_Sh_put : eM := (RX8, yX8_put, cX8_put, 2, none, { frames := 0, cells := 0, slots := 0, locals := 0 }, [(0, .aload_n 0, 1), (1, .getfield 15, 4), (4, .sipush 1216, 7), (7, .if_icmp .ge 23, 10), (10, .aload_n 0, 11), (11, .getfield 11, 14), (14, .aload_n 0, 15), (15, .getfield 15, 18), (18, .iload_n 1, 19), (19, .iastore, 20), (20, .aload_n 0, 21), (21, .dup, 22), (22, .getfield 15, 25), (25, .iconst 1, 26), (26, .iadd, 27), (27, .putfield 15, 30), (30, .return_, 31)])
theorem okM_Sh_put : okM M_Sh_put := okM_of (by decide +kernel) cw_X8_put rfl rfl rfl rfl
def M_Ta_settle : eM := (RX9, yX9_settle, cX9_settle, 4, none, { frames := 2, cells := 0, slots := 0, locals := 45 }, [(0, .aload_n 0, 1), (1, .iload_n 1, 2), (2, .putfield 15, 5), (5, .aload_n 0, 6), (6, .iconst 1, 7), (7, .iload_n 2, 8), (8, .invokestatic 42, 11), (11, .putfield 19, 14), (14, .aload_n 0, 15), (15, .iconst 0, 16), (16, .putfield 25, 19), (19, .aload_n 0, 20), (20, .iconst 0, 21), (21, .putfield 33, 24), (24, .aload_n 0, 25), (25, .getfield 15, 28), (28, .ifCond .le 23, 31), (31, .aload_n 0, 32), (32, .invokevirtual 48, 35), (35, .iconst (-1), 36), (36, .if_icmp .ne 15, 39), (39, .aload_n 0, 40), (40, .iconst 0, 41), (41, .invokevirtual 52, 44), (44, .ifCond .le 7, 47), (47, .iconst 1, 48), (48, .goto 4, 51), (51, .iconst 0, 52), (52, .istore_n 3, 53), (53, .aload_n 0, 54), (54, .iload_n 3, 55), (55, .ifCond .eq 11, 58), (58, .aload_n 0, 59), (59, .iconst 0, 60), (60, .invokevirtual 52, 63), (63, .goto 4, 66), (66, .iconst (-1), 67), (67, .putfield 22, 70), (70, .return_, 71)])
theorem okM_Ta_settle : okM M_Ta_settle := okM_of (by decide +kernel) cw_X9_settle rfl rfl rfl rfl
def M_Ta_has : eM := (RX9, yX9_has, cX9_has, 2, (some .boolean), { frames := 0, cells := 0, slots := 0, locals := 0 }, [(0, .iload_n 1, 1), (1, .ifCond .lt 15, 4), (4, .iload_n 1, 5), (5, .aload_n 0, 6), (6, .getfield 15, 9), (9, .if_icmp .ge 7, 12), (12, .iconst 1, 13), (13, .goto 4, 16), (16, .iconst 0, 17), (17, .ireturn, 18)])
theorem okM_Ta_has : okM M_Ta_has := okM_of (by decide +kernel) cw_X9_has rfl rfl rfl rfl
def M_Ta_joinedBy : eM := (RX9, yX9_joinedBy, cX9_joinedBy, 2, (some .long), { frames := 1, cells := 0, slots := 0, locals := 27 }, [(0, .aload_n 0, 1), (1, .getfield 9, 4), (4, .aload_n 0, 5), (5, .getfield 15, 8), (8, .iload_n 1, 9), (9, .invokestatic 56, 12), (12, .lreturn, 13)])
theorem okM_Ta_joinedBy : okM M_Ta_joinedBy := okM_of (by decide +kernel) cw_X9_joinedBy rfl rfl rfl rfl
def M_Ta_sumOfRow : eM := (RX9, yX9_sumOfRow, cX9_sumOfRow, 4, (some .int), { frames := 0, cells := 0, slots := 0, locals := 0 }, [(0, .iconst 0, 1), (1, .istore_n 2, 2), (2, .iconst 0, 3), (3, .istore_n 3, 4), (4, .iload_n 3, 5), (5, .aload_n 0, 6), (6, .getfield 15, 9), (9, .if_icmp .ge 23, 12), (12, .iload_n 2, 13), (13, .aload_n 0, 14), (14, .getfield 9, 17), (17, .iload_n 1, 18), (18, .bipush 8, 20), (20, .imul, 21), (21, .iload_n 3, 22), (22, .iadd, 23), (23, .iaload, 24), (24, .iadd, 25), (25, .istore_n 2, 26), (26, .iinc 3 1, 29), (29, .goto (-25), 32), (32, .iload_n 2, 33), (33, .ireturn, 34)])
theorem okM_Ta_sumOfRow : okM M_Ta_sumOfRow := okM_of (by decide +kernel) cw_X9_sumOfRow rfl rfl rfl rfl
def M_Ta_sumOfColumn : eM := (RX9, yX9_sumOfColumn, cX9_sumOfColumn, 4, (some .int), { frames := 0, cells := 0, slots := 0, locals := 0 }, [(0, .iconst 0, 1), (1, .istore_n 2, 2), (2, .iconst 0, 3), (3, .istore_n 3, 4), (4, .iload_n 3, 5), (5, .aload_n 0, 6), (6, .getfield 15, 9), (9, .if_icmp .ge 23, 12), (12, .iload_n 2, 13), (13, .aload_n 0, 14), (14, .getfield 9, 17), (17, .iload_n 3, 18), (18, .bipush 8, 20), (20, .imul, 21), (21, .iload_n 1, 22), (22, .iadd, 23), (23, .iaload, 24), (24, .iadd, 25), (25, .istore_n 2, 26), (26, .iinc 3 1, 29), (29, .goto (-25), 32), (32, .iload_n 2, 33), (33, .ireturn, 34)])
theorem okM_Ta_sumOfColumn : okM M_Ta_sumOfColumn := okM_of (by decide +kernel) cw_X9_sumOfColumn rfl rfl rfl rfl
def M_Ta_greatestSum : eM := (RX9, yX9_greatestSum, cX9_greatestSum, 3, (some .int), { frames := 1, cells := 0, slots := 0, locals := 23 }, [(0, .iconst 0, 1), (1, .istore_n 1, 2), (2, .iconst 0, 3), (3, .istore_n 2, 4), (4, .iload_n 2, 5), (5, .aload_n 0, 6), (6, .getfield 15, 9), (9, .if_icmp .ge 27, 12), (12, .iload_n 1, 13), (13, .aload_n 0, 14), (14, .iload_n 2, 15), (15, .invokevirtual 52, 18), (18, .aload_n 0, 19), (19, .iload_n 2, 20), (20, .invokevirtual 62, 23), (23, .invokestatic 42, 26), (26, .invokestatic 42, 29), (29, .istore_n 1, 30), (30, .iinc 2 1, 33), (33, .goto (-29), 36), (36, .iload_n 1, 37), (37, .ireturn, 38)])
theorem okM_Ta_greatestSum : okM M_Ta_greatestSum := okM_of (by decide +kernel) cw_X9_greatestSum rfl rfl rfl rfl
def M_Ta_firstUneven : eM := (RX9, yX9_firstUneven, cX9_firstUneven, 3, (some .int), { frames := 1, cells := 0, slots := 0, locals := 23 }, [(0, .aload_n 0, 1), (1, .iconst 0, 2), (2, .invokevirtual 52, 5), (5, .istore_n 1, 6), (6, .iconst 1, 7), (7, .istore_n 2, 8), (8, .iload_n 2, 9), (9, .aload_n 0, 10), (10, .getfield 15, 13), (13, .if_icmp .ge 20, 16), (16, .aload_n 0, 17), (17, .iload_n 2, 18), (18, .invokevirtual 52, 21), (21, .iload_n 1, 22), (22, .if_icmp .eq 5, 25), (25, .iload_n 2, 26), (26, .ireturn, 27), (27, .iinc 2 1, 30), (30, .goto (-22), 33), (33, .iconst 0, 34), (34, .istore_n 2, 35), (35, .iload_n 2, 36), (36, .aload_n 0, 37), (37, .getfield 15, 40), (40, .if_icmp .ge 23, 43), (43, .aload_n 0, 44), (44, .iload_n 2, 45), (45, .invokevirtual 62, 48), (48, .iload_n 1, 49), (49, .if_icmp .eq 8, 52), (52, .bipush 8, 54), (54, .iload_n 2, 55), (55, .iadd, 56), (56, .ireturn, 57), (57, .iinc 2 1, 60), (60, .goto (-25), 63), (63, .iconst (-1), 64), (64, .ireturn, 65)])
theorem okM_Ta_firstUneven : okM M_Ta_firstUneven := okM_of (by decide +kernel) cw_X9_firstUneven rfl rfl rfl rfl
def M_Ta_countAbove0 : eM := (RX9, yX9_countAbove0, cX9_countAbove0, 1, (some .int), { frames := 2, cells := 0, slots := 0, locals := 48 }, [(0, .aload_n 0, 1), (1, .iconst 1, 2), (2, .invokevirtual 65, 5), (5, .invokestatic 69, 8), (8, .ireturn, 9)])
theorem okM_Ta_countAbove0 : okM M_Ta_countAbove0 := okM_of (by decide +kernel) cw_X9_countAbove0 rfl rfl rfl rfl
def M_Ta_greatestCell : eM := (RX9, yX9_greatestCell, cX9_greatestCell, 4, (some .int), { frames := 1, cells := 0, slots := 0, locals := 21 }, [(0, .iconst 0, 1), (1, .istore_n 1, 2), (2, .iconst 0, 3), (3, .istore_n 2, 4), (4, .iload_n 2, 5), (5, .aload_n 0, 6), (6, .getfield 15, 9), (9, .if_icmp .ge 41, 12), (12, .iconst 0, 13), (13, .istore_n 3, 14), (14, .iload_n 3, 15), (15, .aload_n 0, 16), (16, .getfield 15, 19), (19, .if_icmp .ge 25, 22), (22, .iload_n 1, 23), (23, .aload_n 0, 24), (24, .getfield 9, 27), (27, .iload_n 2, 28), (28, .bipush 8, 30), (30, .imul, 31), (31, .iload_n 3, 32), (32, .iadd, 33), (33, .iaload, 34), (34, .invokestatic 42, 37), (37, .istore_n 1, 38), (38, .iinc 3 1, 41), (41, .goto (-27), 44), (44, .iinc 2 1, 47), (47, .goto (-43), 50), (50, .iload_n 1, 51), (51, .ireturn, 52)])
theorem okM_Ta_greatestCell : okM M_Ta_greatestCell := okM_of (by decide +kernel) cw_X9_greatestCell rfl rfl rfl rfl
def M_Tp_hasRoom : eM := (RX10, yX10_hasRoom, cX10_hasRoom, 1, (some .boolean), { frames := 0, cells := 0, slots := 0, locals := 0 }, [(0, .aload_n 0, 1), (1, .getfield 21, 4), (4, .bipush 20, 6), (6, .iadd, 7), (7, .sipush 600, 10), (10, .if_icmp .gt 7, 13), (13, .iconst 1, 14), (14, .goto 4, 17), (17, .iconst 0, 18), (18, .ireturn, 19)])
theorem okM_Tp_hasRoom : okM M_Tp_hasRoom := okM_of (by decide +kernel) cw_X10_hasRoom rfl rfl rfl rfl
def M_Tp_putNumber : eM := (RX10, yX10_putNumber, cX10_putNumber, 3, none, { frames := 0, cells := 0, slots := 0, locals := 0 }, [(0, .bipush 24, 2), (2, .istore_n 2, 3), (3, .iload_n 2, 4), (4, .ifCond .lt 45, 7), (7, .aload_n 0, 8), (8, .getfield 21, 11), (11, .sipush 600, 14), (14, .if_icmp .ge 35, 17), (17, .aload_n 0, 18), (18, .getfield 11, 21), (21, .aload_n 0, 22), (22, .getfield 21, 25), (25, .iload_n 1, 26), (26, .iload_n 2, 27), (27, .iushr, 28), (28, .sipush 255, 31), (31, .iand, 32), (32, .iastore, 33), (33, .aload_n 0, 34), (34, .dup, 35), (35, .getfield 21, 38), (38, .iconst 1, 39), (39, .iadd, 40), (40, .putfield 21, 43), (43, .iinc 2 (-8), 46), (46, .goto (-43), 49), (49, .return_, 50)])
theorem okM_Tp_putNumber : okM M_Tp_putNumber := okM_of (by decide +kernel) cw_X10_putNumber rfl rfl rfl rfl
def M_Tp_drop : eM := (RX10, yX10_drop, cX10_drop, 1, none, { frames := 0, cells := 0, slots := 0, locals := 0 }, [(0, .aload_n 0, 1), (1, .iconst 0, 2), (2, .putfield 21, 5), (5, .aload_n 0, 6), (6, .iconst 0, 7), (7, .putfield 25, 10), (10, .aload_n 0, 11), (11, .iconst (-1), 12), (12, .putfield 28, 15), (15, .return_, 16)])
theorem okM_Tp_drop : okM M_Tp_drop := okM_of (by decide +kernel) cw_X10_drop rfl rfl rfl rfl
def M_Tp_readInto : eM := (RX10, yX10_readInto, cX10_readInto, 3, (some .int), { frames := 5, cells := 0, slots := 0, locals := 106 }, [(0, .aload_n 0, 1), (1, .iconst 0, 2), (2, .putfield 25, 5), (5, .aload_n 0, 6), (6, .iconst (-1), 7), (7, .putfield 28, 10), (10, .aload_n 0, 11), (11, .iconst 0, 12), (12, .putfield 31, 15), (15, .aload_n 0, 16), (16, .iconst 0, 17), (17, .putfield 34, 20), (20, .aload_n 0, 21), (21, .iconst 0, 22), (22, .putfield 37, 25), (25, .aload_n 0, 26), (26, .iconst 0, 27), (27, .putfield 40, 30), (30, .iconst 0, 31), (31, .istore_n 2, 32), (32, .iload_n 2, 33), (33, .sipush 600, 36), (36, .if_icmp .ge 31, 39), (39, .aload_n 0, 40), (40, .getfield 31, 43), (43, .aload_n 0, 44), (44, .getfield 21, 47), (47, .if_icmp .ge 20, 50), (50, .aload_n 0, 51), (51, .getfield 25, 54), (54, .ifCond .ne 13, 57), (57, .aload_n 0, 58), (58, .invokevirtual 43, 61), (61, .iinc 2 1, 64), (64, .goto (-32), 67), (67, .aload_n 0, 68), (68, .invokevirtual 46, 71), (71, .aload_n 0, 72), (72, .aload_n 1, 73), (73, .invokevirtual 49, 76), (76, .aload_n 0, 77), (77, .iconst 0, 78), (78, .putfield 21, 81), (81, .aload_n 0, 82), (82, .getfield 25, 85), (85, .ifCond .ne 10, 88), (88, .aload_n 1, 89), (89, .getfield 53, 92), (92, .goto 4, 95), (95, .iconst (-1), 96), (96, .ireturn, 97)])
theorem okM_Tp_readInto : okM M_Tp_readInto := okM_of (by decide +kernel) cw_X10_readInto rfl rfl rfl rfl
def M_Tp_readPiece : eM := (RX10, yX10_readPiece, cX10_readPiece, 1, none, { frames := 4, cells := 0, slots := 0, locals := 86 }, [(0, .aload_n 0, 1), (1, .aload_n 0, 2), (2, .getfield 31, 5), (5, .invokevirtual 58, 8), (8, .ifCond .eq 16, 11), (11, .aload_n 0, 12), (12, .dup, 13), (13, .getfield 31, 16), (16, .iconst 1, 17), (17, .iadd, 18), (18, .putfield 31, 21), (21, .goto 50, 24), (24, .aload_n 0, 25), (25, .aload_n 0, 26), (26, .getfield 31, 29), (29, .bipush 59, 31), (31, .invokevirtual 62, 34), (34, .ifCond .eq 10, 37), (37, .aload_n 0, 38), (38, .invokevirtual 66, 41), (41, .goto 30, 44), (44, .aload_n 0, 45), (45, .aload_n 0, 46), (46, .getfield 31, 49), (49, .invokevirtual 69, 52), (52, .ifCond .eq 10, 55), (55, .aload_n 0, 56), (56, .invokevirtual 72, 59), (59, .goto 12, 62), (62, .aload_n 0, 63), (63, .iconst 1, 64), (64, .aload_n 0, 65), (65, .getfield 31, 68), (68, .invokevirtual 75, 71), (71, .return_, 72)])
theorem okM_Tp_readPiece : okM M_Tp_readPiece := okM_of (by decide +kernel) cw_X10_readPiece rfl rfl rfl rfl
def M_Tp_closeRow : eM := (RX10, yX10_closeRow, cX10_closeRow, 1, none, { frames := 1, cells := 0, slots := 0, locals := 22 }, [(0, .aload_n 0, 1), (1, .getfield 34, 4), (4, .bipush 8, 6), (6, .if_icmp .ne 15, 9), (9, .aload_n 0, 10), (10, .iconst 3, 11), (11, .aload_n 0, 12), (12, .getfield 31, 15), (15, .invokevirtual 75, 18), (18, .goto 73, 21), (21, .aload_n 0, 22), (22, .getfield 34, 25), (25, .ifCond .le 26, 28), (28, .aload_n 0, 29), (29, .getfield 37, 32), (32, .aload_n 0, 33), (33, .getfield 40, 36), (36, .if_icmp .eq 15, 39), (39, .aload_n 0, 40), (40, .iconst 4, 41), (41, .aload_n 0, 42), (42, .getfield 31, 45), (45, .invokevirtual 75, 48), (48, .goto 43, 51), (51, .aload_n 0, 52), (52, .getfield 34, 55), (55, .ifCond .ne 11, 58), (58, .aload_n 0, 59), (59, .aload_n 0, 60), (60, .getfield 37, 63), (63, .putfield 40, 66), (66, .aload_n 0, 67), (67, .dup, 68), (68, .getfield 34, 71), (71, .iconst 1, 72), (72, .iadd, 73), (73, .putfield 34, 76), (76, .aload_n 0, 77), (77, .iconst 0, 78), (78, .putfield 37, 81), (81, .aload_n 0, 82), (82, .dup, 83), (83, .getfield 31, 86), (86, .iconst 1, 87), (87, .iadd, 88), (88, .putfield 31, 91), (91, .return_, 92)])
theorem okM_Tp_closeRow : okM M_Tp_closeRow := okM_of (by decide +kernel) cw_X10_closeRow rfl rfl rfl rfl
def M_Tp_readFraction : eM := (RX10, yX10_readFraction, cX10_readFraction, 2, none, { frames := 3, cells := 0, slots := 0, locals := 65 }, [(0, .aload_n 0, 1), (1, .invokevirtual 79, 4), (4, .bipush 6, 6), (6, .if_icmp .le 15, 9), (9, .aload_n 0, 10), (10, .iconst 1, 11), (11, .aload_n 0, 12), (12, .getfield 31, 15), (15, .invokevirtual 75, 18), (18, .goto 77, 21), (21, .aload_n 0, 22), (22, .getfield 34, 25), (25, .bipush 8, 27), (27, .if_icmp .eq 12, 30), (30, .aload_n 0, 31), (31, .getfield 37, 34), (34, .bipush 8, 36), (36, .if_icmp .ne 15, 39), (39, .aload_n 0, 40), (40, .iconst 3, 41), (41, .aload_n 0, 42), (42, .getfield 31, 45), (45, .invokevirtual 75, 48), (48, .goto 47, 51), (51, .aload_n 0, 52), (52, .getfield 34, 55), (55, .ifCond .le 26, 58), (58, .aload_n 0, 59), (59, .getfield 37, 62), (62, .aload_n 0, 63), (63, .getfield 40, 66), (66, .if_icmp .ne 15, 69), (69, .aload_n 0, 70), (70, .iconst 4, 71), (71, .aload_n 0, 72), (72, .getfield 31, 75), (75, .invokevirtual 75, 78), (78, .goto 17, 81), (81, .aload_n 0, 82), (82, .invokevirtual 83, 85), (85, .istore_n 1, 86), (86, .aload_n 0, 87), (87, .iload_n 1, 88), (88, .aload_n 0, 89), (89, .invokevirtual 86, 92), (92, .invokevirtual 89, 95), (95, .return_, 96)])
theorem okM_Tp_readFraction : okM M_Tp_readFraction := okM_of (by decide +kernel) cw_X10_readFraction rfl rfl rfl rfl
def M_Tp_readDivisor : eM := (RX10, yX10_readDivisor, cX10_readDivisor, 3, (some .int), { frames := 2, cells := 0, slots := 0, locals := 43 }, [(0, .aload_n 0, 1), (1, .invokevirtual 92, 4), (4, .aload_n 0, 5), (5, .aload_n 0, 6), (6, .getfield 31, 9), (9, .bipush 47, 11), (11, .invokevirtual 62, 14), (14, .ifCond .ne 5, 17), (17, .iconst 1, 18), (18, .ireturn, 19), (19, .aload_n 0, 20), (20, .dup, 21), (21, .getfield 31, 24), (24, .iconst 1, 25), (25, .iadd, 26), (26, .putfield 31, 29), (29, .aload_n 0, 30), (30, .invokevirtual 92, 33), (33, .aload_n 0, 34), (34, .aload_n 0, 35), (35, .getfield 31, 38), (38, .invokevirtual 69, 41), (41, .ifCond .eq 12, 44), (44, .aload_n 0, 45), (45, .invokevirtual 79, 48), (48, .bipush 6, 50), (50, .if_icmp .le 14, 53), (53, .aload_n 0, 54), (54, .iconst 1, 55), (55, .aload_n 0, 56), (56, .getfield 31, 59), (59, .invokevirtual 75, 62), (62, .iconst 1, 63), (63, .ireturn, 64), (64, .aload_n 0, 65), (65, .getfield 31, 68), (68, .istore_n 1, 69), (69, .aload_n 0, 70), (70, .invokevirtual 83, 73), (73, .istore_n 2, 74), (74, .iload_n 2, 75), (75, .ifCond .ne 11, 78), (78, .aload_n 0, 79), (79, .iconst 2, 80), (80, .iload_n 1, 81), (81, .invokevirtual 75, 84), (84, .iconst 1, 85), (85, .ireturn, 86), (86, .iload_n 2, 87), (87, .ireturn, 88)])
theorem okM_Tp_readDivisor : okM M_Tp_readDivisor := okM_of (by decide +kernel) cw_X10_readDivisor rfl rfl rfl rfl
def M_Tp_keepFraction : eM := (RX10, yX10_keepFraction, cX10_keepFraction, 5, none, { frames := 1, cells := 0, slots := 0, locals := 30 }, [(0, .iload_n 2, 1), (1, .i2l, 2), (2, .iload_n 1, 3), (3, .i2l, 4), (4, .invokestatic 95, 7), (7, .l2i, 8), (8, .istore_n 3, 9), (9, .aload_n 0, 10), (10, .getfield 34, 13), (13, .bipush 8, 15), (15, .imul, 16), (16, .aload_n 0, 17), (17, .getfield 37, 20), (20, .iadd, 21), (21, .istore 4, 23), (23, .aload_n 0, 24), (24, .getfield 15, 27), (27, .iload 4, 29), (29, .iload_n 1, 30), (30, .iload_n 3, 31), (31, .idiv, 32), (32, .iastore, 33), (33, .aload_n 0, 34), (34, .getfield 18, 37), (37, .iload 4, 39), (39, .iload_n 2, 40), (40, .iload_n 3, 41), (41, .idiv, 42), (42, .iastore, 43), (43, .aload_n 0, 44), (44, .dup, 45), (45, .getfield 37, 48), (48, .iconst 1, 49), (49, .iadd, 50), (50, .putfield 37, 53), (53, .return_, 54)])
theorem okM_Tp_keepFraction : okM M_Tp_keepFraction := okM_of (by decide +kernel) cw_X10_keepFraction rfl rfl rfl rfl
def M_Tp_countDigits : eM := (RX10, yX10_countDigits, cX10_countDigits, 3, (some .int), { frames := 1, cells := 0, slots := 0, locals := 21 }, [(0, .iconst 0, 1), (1, .istore_n 1, 2), (2, .aload_n 0, 3), (3, .getfield 31, 6), (6, .istore_n 2, 7), (7, .iload_n 2, 8), (8, .aload_n 0, 9), (9, .getfield 21, 12), (12, .if_icmp .ge 20, 15), (15, .aload_n 0, 16), (16, .iload_n 2, 17), (17, .invokevirtual 69, 20), (20, .ifCond .eq 12, 23), (23, .iinc 1 1, 26), (26, .iinc 2 1, 29), (29, .goto (-22), 32), (32, .iload_n 1, 33), (33, .ireturn, 34)])
theorem okM_Tp_countDigits : okM M_Tp_countDigits := okM_of (by decide +kernel) cw_X10_countDigits rfl rfl rfl rfl
def M_Tp_readNumber : eM := (RX10, yX10_readNumber, cX10_readNumber, 3, (some .int), { frames := 1, cells := 0, slots := 0, locals := 21 }, [(0, .iconst 0, 1), (1, .istore_n 1, 2), (2, .iconst 0, 3), (3, .istore_n 2, 4), (4, .iload_n 2, 5), (5, .bipush 6, 7), (7, .if_icmp .ge 48, 10), (10, .aload_n 0, 11), (11, .aload_n 0, 12), (12, .getfield 31, 15), (15, .invokevirtual 69, 18), (18, .ifCond .eq 37, 21), (21, .iload_n 1, 22), (22, .bipush 10, 24), (24, .imul, 25), (25, .aload_n 0, 26), (26, .getfield 11, 29), (29, .aload_n 0, 30), (30, .getfield 31, 33), (33, .iaload, 34), (34, .iadd, 35), (35, .bipush 48, 37), (37, .isub, 38), (38, .istore_n 1, 39), (39, .aload_n 0, 40), (40, .dup, 41), (41, .getfield 31, 44), (44, .iconst 1, 45), (45, .iadd, 46), (46, .putfield 31, 49), (49, .iinc 2 1, 52), (52, .goto (-48), 55), (55, .iload_n 1, 56), (56, .ireturn, 57)])
theorem okM_Tp_readNumber : okM M_Tp_readNumber := okM_of (by decide +kernel) cw_X10_readNumber rfl rfl rfl rfl
def M_Tp_skipBlanks : eM := (RX10, yX10_skipBlanks, cX10_skipBlanks, 2, none, { frames := 1, cells := 0, slots := 0, locals := 21 }, [(0, .iconst 0, 1), (1, .istore_n 1, 2), (2, .iload_n 1, 3), (3, .sipush 600, 6), (6, .if_icmp .ge 30, 9), (9, .aload_n 0, 10), (10, .aload_n 0, 11), (11, .getfield 31, 14), (14, .invokevirtual 58, 17), (17, .ifCond .eq 19, 20), (20, .aload_n 0, 21), (21, .dup, 22), (22, .getfield 31, 25), (25, .iconst 1, 26), (26, .iadd, 27), (27, .putfield 31, 30), (30, .iinc 1 1, 33), (33, .goto (-31), 36), (36, .return_, 37)])
theorem okM_Tp_skipBlanks : okM M_Tp_skipBlanks := okM_of (by decide +kernel) cw_X10_skipBlanks rfl rfl rfl rfl
def M_Tp_isSign : eM := (RX10, yX10_isSign, cX10_isSign, 3, (some .boolean), { frames := 0, cells := 0, slots := 0, locals := 0 }, [(0, .iload_n 1, 1), (1, .aload_n 0, 2), (2, .getfield 21, 5), (5, .if_icmp .ge 17, 8), (8, .aload_n 0, 9), (9, .getfield 11, 12), (12, .iload_n 1, 13), (13, .iaload, 14), (14, .iload_n 2, 15), (15, .if_icmp .ne 7, 18), (18, .iconst 1, 19), (19, .goto 4, 22), (22, .iconst 0, 23), (23, .ireturn, 24)])
theorem okM_Tp_isSign : okM M_Tp_isSign := okM_of (by decide +kernel) cw_X10_isSign rfl rfl rfl rfl
def M_Tp_isBlank : eM := (RX10, yX10_isBlank, cX10_isBlank, 2, (some .boolean), { frames := 0, cells := 0, slots := 0, locals := 0 }, [(0, .iload_n 1, 1), (1, .aload_n 0, 2), (2, .getfield 21, 5), (5, .if_icmp .ge 29, 8), (8, .aload_n 0, 9), (9, .getfield 11, 12), (12, .iload_n 1, 13), (13, .iaload, 14), (14, .bipush 32, 16), (16, .if_icmp .eq 14, 19), (19, .aload_n 0, 20), (20, .getfield 11, 23), (23, .iload_n 1, 24), (24, .iaload, 25), (25, .bipush 10, 27), (27, .if_icmp .ne 7, 30), (30, .iconst 1, 31), (31, .goto 4, 34), (34, .iconst 0, 35), (35, .ireturn, 36)])
theorem okM_Tp_isBlank : okM M_Tp_isBlank := okM_of (by decide +kernel) cw_X10_isBlank rfl rfl rfl rfl
def M_Tp_isDigit : eM := (RX10, yX10_isDigit, cX10_isDigit, 2, (some .boolean), { frames := 0, cells := 0, slots := 0, locals := 0 }, [(0, .iload_n 1, 1), (1, .aload_n 0, 2), (2, .getfield 21, 5), (5, .if_icmp .ge 29, 8), (8, .aload_n 0, 9), (9, .getfield 11, 12), (12, .iload_n 1, 13), (13, .iaload, 14), (14, .bipush 48, 16), (16, .if_icmp .lt 18, 19), (19, .aload_n 0, 20), (20, .getfield 11, 23), (23, .iload_n 1, 24), (24, .iaload, 25), (25, .bipush 57, 27), (27, .if_icmp .gt 7, 30), (30, .iconst 1, 31), (31, .goto 4, 34), (34, .iconst 0, 35), (35, .ireturn, 36)])
theorem okM_Tp_isDigit : okM M_Tp_isDigit := okM_of (by decide +kernel) cw_X10_isDigit rfl rfl rfl rfl
def M_Tp_fail : eM := (RX10, yX10_fail, cX10_fail, 3, none, { frames := 0, cells := 0, slots := 0, locals := 0 }, [(0, .aload_n 0, 1), (1, .iload_n 1, 2), (2, .putfield 25, 5), (5, .aload_n 0, 6), (6, .iload_n 2, 7), (7, .putfield 28, 10), (10, .return_, 11)])
theorem okM_Tp_fail : okM M_Tp_fail := okM_of (by decide +kernel) cw_X10_fail rfl rfl rfl rfl
def M_Tp_checkEnd : eM := (RX10, yX10_checkEnd, cX10_checkEnd, 1, none, { frames := 1, cells := 0, slots := 0, locals := 22 }, [(0, .aload_n 0, 1), (1, .getfield 25, 4), (4, .ifCond .ne 19, 7), (7, .aload_n 0, 8), (8, .getfield 37, 11), (11, .ifCond .le 12, 14), (14, .aload_n 0, 15), (15, .iconst 1, 16), (16, .aload_n 0, 17), (17, .getfield 21, 20), (20, .invokevirtual 75, 23), (23, .aload_n 0, 24), (24, .getfield 25, 27), (27, .ifCond .ne 23, 30), (30, .aload_n 0, 31), (31, .getfield 34, 34), (34, .aload_n 0, 35), (35, .getfield 40, 38), (38, .if_icmp .eq 12, 41), (41, .aload_n 0, 42), (42, .iconst 5, 43), (43, .aload_n 0, 44), (44, .getfield 21, 47), (47, .invokevirtual 75, 50), (50, .return_, 51)])
theorem okM_Tp_checkEnd : okM M_Tp_checkEnd := okM_of (by decide +kernel) cw_X10_checkEnd rfl rfl rfl rfl
def M_Tp_fill : eM := (RX10, yX10_fill, cX10_fill, 6, none, { frames := 3, cells := 0, slots := 0, locals := 81 }, [(0, .aload_n 0, 1), (1, .getfield 25, 4), (4, .ifCond .eq 4, 7), (7, .return_, 8), (8, .aload_n 0, 9), (9, .invokevirtual 101, 12), (12, .istore_n 2, 13), (13, .iload_n 2, 14), (14, .iconst (-1), 15), (15, .if_icmp .eq 11, 18), (18, .aload_n 0, 19), (19, .iload_n 2, 20), (20, .invokevirtual 104, 23), (23, .ifCond .ne 14, 26), (26, .aload_n 0, 27), (27, .bipush 6, 29), (29, .aload_n 0, 30), (30, .getfield 21, 33), (33, .invokevirtual 75, 36), (36, .return_, 37), (37, .iconst 0, 38), (38, .istore_n 3, 39), (39, .iload_n 3, 40), (40, .aload_n 0, 41), (41, .getfield 34, 44), (44, .if_icmp .ge 60, 47), (47, .iconst 0, 48), (48, .istore 4, 50), (50, .iload 4, 52), (52, .aload_n 0, 53), (53, .getfield 34, 56), (56, .if_icmp .ge 42, 59), (59, .iload_n 3, 60), (60, .bipush 8, 62), (62, .imul, 63), (63, .iload 4, 65), (65, .iadd, 66), (66, .istore 5, 68), (68, .aload_n 1, 69), (69, .getfield 107, 72), (72, .iload 5, 74), (74, .aload_n 0, 75), (75, .getfield 15, 78), (78, .iload 5, 80), (80, .iaload, 81), (81, .iload_n 2, 82), (82, .aload_n 0, 83), (83, .getfield 18, 86), (86, .iload 5, 88), (88, .iaload, 89), (89, .idiv, 90), (90, .imul, 91), (91, .iastore, 92), (92, .iinc 4 1, 95), (95, .goto (-45), 98), (98, .iinc 3 1, 101), (101, .goto (-62), 104), (104, .aload_n 1, 105), (105, .aload_n 0, 106), (106, .getfield 34, 109), (109, .iload_n 2, 110), (110, .invokevirtual 110, 113), (113, .return_, 114)])
theorem okM_Tp_fill : okM M_Tp_fill := okM_of (by decide +kernel) cw_X10_fill rfl rfl rfl rfl
def M_Tp_commonBelow : eM := (RX10, yX10_commonBelow, cX10_commonBelow, 5, (some .int), { frames := 2, cells := 0, slots := 0, locals := 57 }, [(0, .lconst 1, 1), (1, .lstore_n 1, 2), (2, .iconst 0, 3), (3, .istore_n 3, 4), (4, .iload_n 3, 5), (5, .aload_n 0, 6), (6, .getfield 34, 9), (9, .if_icmp .ge 48, 12), (12, .iconst 0, 13), (13, .istore 4, 15), (15, .iload 4, 17), (17, .aload_n 0, 18), (18, .getfield 34, 21), (21, .if_icmp .ge 30, 24), (24, .lload_n 1, 25), (25, .aload_n 0, 26), (26, .getfield 18, 29), (29, .iload_n 3, 30), (30, .bipush 8, 32), (32, .imul, 33), (33, .iload 4, 35), (35, .iadd, 36), (36, .iaload, 37), (37, .i2l, 38), (38, .ldc2_w 113, 41), (41, .invokestatic 115, 44), (44, .lstore_n 1, 45), (45, .iinc 4 1, 48), (48, .goto (-33), 51), (51, .iinc 3 1, 54), (54, .goto (-50), 57), (57, .lload_n 1, 58), (58, .l2i, 59), (59, .ireturn, 60)])
theorem okM_Tp_commonBelow : okM M_Tp_commonBelow := okM_of (by decide +kernel) cw_X10_commonBelow rfl rfl rfl rfl
def M_Tp_areCells : eM := (RX10, yX10_areCells, cX10_areCells, 5, (some .boolean), { frames := 0, cells := 0, slots := 0, locals := 0 }, [(0, .iconst 0, 1), (1, .istore_n 2, 2), (2, .iload_n 2, 3), (3, .aload_n 0, 4), (4, .getfield 34, 7), (7, .if_icmp .ge 61, 10), (10, .iconst 0, 11), (11, .istore_n 3, 12), (12, .iload_n 3, 13), (13, .aload_n 0, 14), (14, .getfield 34, 17), (17, .if_icmp .ge 45, 20), (20, .iload_n 2, 21), (21, .bipush 8, 23), (23, .imul, 24), (24, .iload_n 3, 25), (25, .iadd, 26), (26, .istore 4, 28), (28, .aload_n 0, 29), (29, .getfield 15, 32), (32, .iload 4, 34), (34, .iaload, 35), (35, .i2l, 36), (36, .iload_n 1, 37), (37, .aload_n 0, 38), (38, .getfield 18, 41), (41, .iload 4, 43), (43, .iaload, 44), (44, .idiv, 45), (45, .i2l, 46), (46, .lmul, 47), (47, .ldc2_w 119, 50), (50, .lcmp, 51), (51, .ifCond .le 5, 54), (54, .iconst 0, 55), (55, .ireturn, 56), (56, .iinc 3 1, 59), (59, .goto (-47), 62), (62, .iinc 2 1, 65), (65, .goto (-63), 68), (68, .iconst 1, 69), (69, .ireturn, 70)])
theorem okM_Tp_areCells : okM M_Tp_areCells := okM_of (by decide +kernel) cw_X10_areCells rfl rfl rfl rfl
def M_Ev_feed : eM := (RX11, yX11_feed, cX11_feed, 6, (some .int), { frames := 1, cells := 0, slots := 0, locals := 22 }, [(0, .aload_n 0, 1), (1, .getfield 18, 4), (4, .invokevirtual 74, 7), (7, .ifCond .ne 5, 10), (10, .iconst (-1), 11), (11, .ireturn, 12), (12, .aload_n 0, 13), (13, .getfield 18, 16), (16, .iload_n 1, 17), (17, .invokevirtual 78, 20), (20, .aload_n 0, 21), (21, .getfield 18, 24), (24, .iload_n 2, 25), (25, .invokevirtual 78, 28), (28, .aload_n 0, 29), (29, .getfield 18, 32), (32, .iload_n 3, 33), (33, .invokevirtual 78, 36), (36, .aload_n 0, 37), (37, .getfield 18, 40), (40, .iload 4, 42), (42, .invokevirtual 78, 45), (45, .aload_n 0, 46), (46, .getfield 18, 49), (49, .iload 5, 51), (51, .invokevirtual 78, 54), (54, .aload_n 0, 55), (55, .getfield 18, 58), (58, .getfield 82, 61), (61, .ireturn, 62)])
theorem okM_Ev_feed : okM M_Ev_feed := okM_of (by decide +kernel) cw_X11_feed rfl rfl rfl rfl
def M_Ev_end : eM := (RX11, yX11_end, cX11_end, 2, (some .boolean), { frames := 0, cells := 0, slots := 0, locals := 0 }, [(0, .iload_n 1, 1), (1, .ifCond .lt 14, 4), (4, .iload_n 1, 5), (5, .aload_n 0, 6), (6, .getfield 18, 9), (9, .getfield 82, 12), (12, .if_icmp .le 5, 15), (15, .iconst 0, 16), (16, .ireturn, 17), (17, .aload_n 0, 18), (18, .getfield 18, 21), (21, .iload_n 1, 22), (22, .putfield 82, 25), (25, .iconst 1, 26), (26, .ireturn, 27)])
theorem okM_Ev_end : okM M_Ev_end := okM_of (by decide +kernel) cw_X11_end rfl rfl rfl rfl
def M_Ev_table : eM := (RX11, yX11_table, cX11_table, 3, (some .int), { frames := 6, cells := 0, slots := 0, locals := 128 }, [(0, .aload_n 0, 1), (1, .iload_n 1, 2), (2, .invokevirtual 86, 5), (5, .astore_n 2, 6), (6, .aload_n 2, 7), (7, .ifnonnull 13, 10), (10, .aload_n 0, 11), (11, .getfield 18, 14), (14, .invokevirtual 90, 17), (17, .bipush (-2), 19), (19, .ireturn, 20), (20, .aload_n 0, 21), (21, .getfield 18, 24), (24, .aload_n 2, 25), (25, .invokevirtual 93, 28), (28, .ireturn, 29)])
theorem okM_Ev_table : okM M_Ev_table := okM_of (by decide +kernel) cw_X11_table rfl rfl rfl rfl
def M_Ev_fault : eM := (RX11, yX11_fault, cX11_fault, 2, (some .int), { frames := 0, cells := 0, slots := 0, locals := 0 }, [(0, .iload_n 1, 1), (1, .ifCond .ne 11, 4), (4, .aload_n 0, 5), (5, .getfield 18, 8), (8, .getfield 97, 11), (11, .ireturn, 12), (12, .iload_n 1, 13), (13, .iconst 1, 14), (14, .if_icmp .ne 13, 17), (17, .aload_n 0, 18), (18, .getfield 18, 21), (21, .getfield 100, 24), (24, .goto 4, 27), (27, .iconst (-1), 28), (28, .ireturn, 29)])
theorem okM_Ev_fault : okM M_Ev_fault := okM_of (by decide +kernel) cw_X11_fault rfl rfl rfl rfl
def M_Ev_look : eM := (RX11, yX11_look, cX11_look, 4, (some .int), { frames := 4, cells := 0, slots := 0, locals := 97 }, [(0, .aload_n 0, 1), (1, .iload_n 1, 2), (2, .invokevirtual 86, 5), (5, .astore_n 3, 6), (6, .aload_n 3, 7), (7, .ifnonnull 6, 10), (10, .bipush (-2), 12), (12, .ireturn, 13), (13, .iload_n 2, 14), (14, .tableswitch 87 0 5 #[38, 43, 59, 64, 69, 74], 52), (52, .aload_n 3, 53), (53, .getfield 103, 56), (56, .ireturn, 57), (57, .aload_n 3, 58), (58, .getfield 103, 61), (61, .ifCond .ne 7, 64), (64, .iconst 0, 65), (65, .goto 7, 68), (68, .aload_n 3, 69), (69, .getfield 106, 72), (72, .ireturn, 73), (73, .aload_n 3, 74), (74, .getfield 109, 77), (77, .ireturn, 78), (78, .aload_n 3, 79), (79, .invokevirtual 112, 82), (82, .ireturn, 83), (83, .aload_n 3, 84), (84, .invokevirtual 116, 87), (87, .ireturn, 88), (88, .aload_n 3, 89), (89, .iconst 1, 90), (90, .invokevirtual 119, 93), (93, .aload_n 3, 94), (94, .getfield 103, 97), (97, .invokestatic 123, 100), (100, .ireturn, 101), (101, .bipush (-2), 103), (103, .ireturn, 104)])
theorem okM_Ev_look : okM M_Ev_look := okM_of (by decide +kernel) cw_X11_look rfl rfl rfl rfl
def M_Ev_cell : eM := (RX11, yX11_cell, cX11_cell, 5, (some .int), { frames := 1, cells := 0, slots := 0, locals := 21 }, [(0, .aload_n 0, 1), (1, .iload_n 1, 2), (2, .invokevirtual 86, 5), (5, .astore 4, 7), (7, .aload 4, 9), (9, .ifnull 21, 12), (12, .aload 4, 14), (14, .iload_n 2, 15), (15, .invokevirtual 129, 18), (18, .ifCond .eq 12, 21), (21, .aload 4, 23), (23, .iload_n 3, 24), (24, .invokevirtual 129, 27), (27, .ifCond .ne 5, 30), (30, .iconst (-1), 31), (31, .ireturn, 32), (32, .aload 4, 34), (34, .getfield 133, 37), (37, .iload_n 2, 38), (38, .bipush 8, 40), (40, .imul, 41), (41, .iload_n 3, 42), (42, .iadd, 43), (43, .iaload, 44), (44, .ireturn, 45)])
theorem okM_Ev_cell : okM M_Ev_cell := okM_of (by decide +kernel) cw_X11_cell rfl rfl rfl rfl
def M_Ev_uneven : eM := (RX11, yX11_uneven, cX11_uneven, 3, (some .int), { frames := 2, cells := 0, slots := 0, locals := 45 }, [(0, .aload_n 0, 1), (1, .iload_n 1, 2), (2, .invokevirtual 137, 5), (5, .astore_n 2, 6), (6, .aload_n 2, 7), (7, .ifnonnull 7, 10), (10, .iconst (-1), 11), (11, .goto 7, 14), (14, .aload_n 2, 15), (15, .invokevirtual 140, 18), (18, .ireturn, 19)])
theorem okM_Ev_uneven : okM M_Ev_uneven := okM_of (by decide +kernel) cw_X11_uneven rfl rfl rfl rfl
def M_Ev_mix : eM := (RX11, yX11_mix, cX11_mix, 8, (some .boolean), { frames := 5, cells := 0, slots := 0, locals := 141 }, [(0, .iload_n 2, 1), (1, .iload_n 3, 2), (2, .invokestatic 143, 5), (5, .ifCond .eq 25, 8), (8, .iload 5, 10), (10, .iload 6, 12), (12, .invokestatic 143, 15), (15, .ifCond .eq 15, 18), (18, .aload_n 0, 19), (19, .iload_n 1, 20), (20, .iload 4, 22), (22, .iload 7, 24), (24, .invokevirtual 147, 27), (27, .ifCond .ne 5, 30), (30, .iconst 0, 31), (31, .ireturn, 32), (32, .aload_n 0, 33), (33, .getfield 25, 36), (36, .aload_n 0, 37), (37, .getfield 11, 40), (40, .iload_n 1, 41), (41, .aaload, 42), (42, .iload_n 2, 43), (43, .iload_n 3, 44), (44, .aload_n 0, 45), (45, .getfield 11, 48), (48, .iload 4, 50), (50, .aaload, 51), (51, .iload 5, 53), (53, .iload 6, 55), (55, .aload_n 0, 56), (56, .getfield 11, 59), (59, .iload 7, 61), (61, .aaload, 62), (62, .invokevirtual 151, 65), (65, .ireturn, 66)])
theorem okM_Ev_mix : okM M_Ev_mix := okM_of (by decide +kernel) cw_X11_mix rfl rfl rfl rfl
def M_Ev_times : eM := (RX11, yX11_times, cX11_times, 4, (some .boolean), { frames := 5, cells := 0, slots := 0, locals := 125 }, [(0, .aload_n 0, 1), (1, .iload_n 1, 2), (2, .iload_n 2, 3), (3, .iload_n 3, 4), (4, .invokevirtual 147, 7), (7, .ifCond .eq 35, 10), (10, .aload_n 0, 11), (11, .getfield 25, 14), (14, .aload_n 0, 15), (15, .getfield 11, 18), (18, .iload_n 1, 19), (19, .aaload, 20), (20, .aload_n 0, 21), (21, .getfield 11, 24), (24, .iload_n 2, 25), (25, .aaload, 26), (26, .aload_n 0, 27), (27, .getfield 11, 30), (30, .iload_n 3, 31), (31, .aaload, 32), (32, .invokevirtual 155, 35), (35, .ifCond .eq 7, 38), (38, .iconst 1, 39), (39, .goto 4, 42), (42, .iconst 0, 43), (43, .ireturn, 44)])
theorem okM_Ev_times : okM M_Ev_times := okM_of (by decide +kernel) cw_X11_times rfl rfl rfl rfl
def M_Ev_turn : eM := (RX11, yX11_turn, cX11_turn, 7, (some .boolean), { frames := 5, cells := 0, slots := 0, locals := 126 }, [(0, .aload_n 0, 1), (1, .iload_n 1, 2), (2, .invokevirtual 137, 5), (5, .astore 5, 7), (7, .aload_n 0, 8), (8, .iload 4, 10), (10, .invokevirtual 86, 13), (13, .astore 6, 15), (15, .aload 5, 17), (17, .ifnull 31, 20), (20, .aload 6, 22), (22, .ifnull 26, 25), (25, .iload_n 2, 26), (26, .ifCond .lt 22, 29), (29, .iload_n 2, 30), (30, .iconst 5, 31), (31, .if_icmp .gt 17, 34), (34, .iload_n 2, 35), (35, .iconst 3, 36), (36, .if_icmp .le 14, 39), (39, .aload 5, 41), (41, .iload_n 3, 42), (42, .invokevirtual 129, 45), (45, .ifCond .ne 5, 48), (48, .iconst 0, 49), (49, .ireturn, 50), (50, .aload_n 0, 51), (51, .getfield 25, 54), (54, .aload 5, 56), (56, .iload_n 2, 57), (57, .iload_n 3, 58), (58, .aload 6, 60), (60, .invokevirtual 159, 63), (63, .ireturn, 64)])
theorem okM_Ev_turn : okM M_Ev_turn := okM_of (by decide +kernel) cw_X11_turn rfl rfl rfl rfl
def M_Ev_peel : eM := (RX11, yX11_peel, cX11_peel, 4, (some .int), { frames := 6, cells := 0, slots := 0, locals := 150 }, [(0, .aload_n 0, 1), (1, .iload_n 1, 2), (2, .invokevirtual 163, 5), (5, .astore_n 3, 6), (6, .aload_n 3, 7), (7, .ifnull 10, 10), (10, .iload_n 2, 11), (11, .invokestatic 166, 14), (14, .ifCond .ne 5, 17), (17, .iconst (-1), 18), (18, .ireturn, 19), (19, .aload_n 0, 20), (20, .getfield 41, 23), (23, .aload_n 3, 24), (24, .invokevirtual 169, 27), (27, .aload_n 0, 28), (28, .getfield 48, 31), (31, .iconst 1, 32), (32, .aload_n 3, 33), (33, .getfield 103, 36), (36, .aload_n 3, 37), (37, .getfield 103, 40), (40, .aload_n 3, 41), (41, .getfield 109, 44), (44, .invokevirtual 173, 47), (47, .aload_n 0, 48), (48, .iload_n 2, 49), (49, .invokevirtual 177, 52), (52, .ireturn, 53)])
theorem okM_Ev_peel : okM M_Ev_peel := okM_of (by decide +kernel) cw_X11_peel rfl rfl rfl rfl
def M_Ev_part : eM := (RX11, yX11_part, cX11_part, 3, (some .int), { frames := 1, cells := 0, slots := 0, locals := 22 }, [(0, .aload_n 0, 1), (1, .getfield 48, 4), (4, .iload_n 1, 5), (5, .invokevirtual 181, 8), (8, .ifCond .eq 26, 11), (11, .aload_n 0, 12), (12, .getfield 48, 15), (15, .iload_n 2, 16), (16, .invokevirtual 184, 19), (19, .ifCond .eq 15, 22), (22, .aload_n 0, 23), (23, .getfield 48, 26), (26, .iload_n 1, 27), (27, .iload_n 2, 28), (28, .invokevirtual 187, 31), (31, .goto 4, 34), (34, .iconst (-1), 35), (35, .ireturn, 36)])
theorem okM_Ev_part : okM M_Ev_part := okM_of (by decide +kernel) cw_X11_part rfl rfl rfl rfl
def M_Ev_weight : eM := (RX11, yX11_weight, cX11_weight, 4, (some .int), { frames := 2, cells := 0, slots := 0, locals := 53 }, [(0, .aload_n 0, 1), (1, .getfield 48, 4), (4, .iload_n 1, 5), (5, .invokevirtual 181, 8), (8, .ifCond .eq 12, 11), (11, .iload_n 2, 12), (12, .ifCond .lt 8, 15), (15, .iload_n 2, 16), (16, .iconst 2, 17), (17, .if_icmp .le 5, 20), (20, .iconst (-1), 21), (21, .ireturn, 22), (22, .aload_n 0, 23), (23, .getfield 48, 26), (26, .getfield 191, 29), (29, .iload_n 1, 30), (30, .iaload, 31), (31, .istore_n 3, 32), (32, .iload_n 2, 33), (33, .ifCond .ne 7, 36), (36, .iload_n 3, 37), (37, .goto 21, 40), (40, .aload_n 0, 41), (41, .getfield 48, 44), (44, .iload_n 3, 45), (45, .iload_n 2, 46), (46, .iconst 1, 47), (47, .if_icmp .ne 7, 50), (50, .iconst 1, 51), (51, .goto 4, 54), (54, .iconst 0, 55), (55, .invokevirtual 194, 58), (58, .ireturn, 59)])
theorem okM_Ev_weight : okM M_Ev_weight := okM_of (by decide +kernel) cw_X11_weight rfl rfl rfl rfl
def M_Ev_draw : eM := (RX11, yX11_draw, cX11_draw, 2, (some .int), { frames := 1, cells := 0, slots := 0, locals := 23 }, [(0, .aload_n 0, 1), (1, .getfield 48, 4), (4, .iload_n 1, 5), (5, .invokevirtual 198, 8), (8, .ireturn, 9)])
theorem okM_Ev_draw : okM M_Ev_draw := okM_of (by decide +kernel) cw_X11_draw rfl rfl rfl rfl
def M_Ev_joint : eM := (RX11, yX11_joint, cX11_joint, 6, (some .int), { frames := 2, cells := 0, slots := 0, locals := 53 }, [(0, .aload_n 0, 1), (1, .getfield 48, 4), (4, .iload_n 1, 5), (5, .invokevirtual 184, 8), (8, .ifCond .eq 37, 11), (11, .aload_n 0, 12), (12, .getfield 48, 15), (15, .iload_n 2, 16), (16, .invokevirtual 184, 19), (19, .ifCond .eq 26, 22), (22, .aload_n 0, 23), (23, .getfield 48, 26), (26, .iload_n 3, 27), (27, .invokevirtual 184, 30), (30, .ifCond .eq 15, 33), (33, .aload_n 0, 34), (34, .getfield 48, 37), (37, .iload 4, 39), (39, .invokevirtual 184, 42), (42, .ifCond .ne 5, 45), (45, .iconst (-1), 46), (46, .ireturn, 47), (47, .iload 5, 49), (49, .ifCond .lt 9, 52), (52, .iload 5, 54), (54, .iconst 1, 55), (55, .if_icmp .le 5, 58), (58, .iconst (-1), 59), (59, .ireturn, 60), (60, .aload_n 0, 61), (61, .getfield 48, 64), (64, .aload_n 0, 65), (65, .getfield 48, 68), (68, .iload_n 1, 69), (69, .iload_n 2, 70), (70, .iload_n 3, 71), (71, .iload 4, 73), (73, .invokevirtual 201, 76), (76, .iload 5, 78), (78, .ifCond .ne 7, 81), (81, .iconst 1, 82), (82, .goto 4, 85), (85, .iconst 0, 86), (86, .invokevirtual 194, 89), (89, .ireturn, 90)])
theorem okM_Ev_joint : okM M_Ev_joint := okM_of (by decide +kernel) cw_X11_joint rfl rfl rfl rfl
def M_Ev_bound : eM := (RX11, yX11_bound, cX11_bound, 4, (some .int), { frames := 6, cells := 0, slots := 0, locals := 152 }, [(0, .aload_n 0, 1), (1, .iload_n 1, 2), (2, .invokevirtual 163, 5), (5, .astore_n 3, 6), (6, .aload_n 3, 7), (7, .ifnonnull 5, 10), (10, .iconst (-1), 11), (11, .ireturn, 12), (12, .iload_n 2, 13), (13, .ifCond .ne 30, 16), (16, .aload_n 3, 17), (17, .invokevirtual 112, 20), (20, .iconst 2, 21), (21, .aload_n 3, 22), (22, .getfield 103, 25), (25, .imul, 26), (26, .isub, 27), (27, .aload_n 3, 28), (28, .iconst 1, 29), (29, .invokevirtual 119, 32), (32, .aload_n 3, 33), (33, .getfield 103, 36), (36, .invokestatic 123, 39), (39, .iadd, 40), (40, .iconst 1, 41), (41, .iadd, 42), (42, .ireturn, 43), (43, .iload_n 2, 44), (44, .iconst 1, 45), (45, .if_icmp .ne 22, 48), (48, .aload_n 3, 49), (49, .getfield 103, 52), (52, .iconst 3, 53), (53, .if_icmp .gt 14, 56), (56, .aload_n 0, 57), (57, .getfield 55, 60), (60, .aload_n 3, 61), (61, .invokevirtual 205, 64), (64, .goto 4, 67), (67, .iconst (-1), 68), (68, .ireturn, 69)])
theorem okM_Ev_bound : okM M_Ev_bound := okM_of (by decide +kernel) cw_X11_bound rfl rfl rfl rfl
def M_Ev_lack : eM := (RX11, yX11_lack, cX11_lack, 9, (some .int), { frames := 3, cells := 0, slots := 0, locals := 73 }, [(0, .aload_n 0, 1), (1, .iload_n 1, 2), (2, .invokevirtual 137, 5), (5, .astore 4, 7), (7, .aload 4, 9), (9, .ifnull 19, 12), (12, .iload_n 2, 13), (13, .invokestatic 208, 16), (16, .ifCond .eq 12, 19), (19, .iload_n 3, 20), (20, .ifCond .lt 8, 23), (23, .iload_n 3, 24), (24, .iconst 2, 25), (25, .if_icmp .le 5, 28), (28, .iconst (-1), 29), (29, .ireturn, 30), (30, .aload 4, 32), (32, .iload_n 2, 33), (33, .invokevirtual 119, 36), (36, .lstore 5, 38), (38, .lload 5, 40), (40, .aload 4, 42), (42, .getfield 103, 45), (45, .invokestatic 211, 48), (48, .istore 7, 50), (50, .lload 5, 52), (52, .iload 7, 54), (54, .aload 4, 56), (56, .getfield 103, 59), (59, .invokestatic 214, 62), (62, .istore 8, 64), (64, .iload_n 3, 65), (65, .ifCond .ne 15, 68), (68, .iload 7, 70), (70, .invokestatic 218, 73), (73, .iload 8, 75), (75, .invokestatic 218, 78), (78, .isub, 79), (79, .ireturn, 80), (80, .iload_n 3, 81), (81, .iconst 1, 82), (82, .if_icmp .ne 8, 85), (85, .iload 7, 87), (87, .goto 5, 90), (90, .iload 8, 92), (92, .ireturn, 93)])
theorem okM_Ev_lack : okM M_Ev_lack := okM_of (by decide +kernel) cw_X11_lack rfl rfl rfl rfl
def M_Ev_paired : eM := (RX11, yX11_paired, cX11_paired, 5, (some .int), { frames := 2, cells := 0, slots := 0, locals := 53 }, [(0, .aload_n 0, 1), (1, .iload_n 1, 2), (2, .invokevirtual 137, 5), (5, .astore 4, 7), (7, .aload 4, 9), (9, .ifnull 19, 12), (12, .iload_n 2, 13), (13, .invokestatic 208, 16), (16, .ifCond .eq 12, 19), (19, .aload 4, 21), (21, .iload_n 3, 22), (22, .invokevirtual 129, 25), (25, .ifCond .ne 5, 28), (28, .iconst (-1), 29), (29, .ireturn, 30), (30, .aload_n 0, 31), (31, .getfield 32, 34), (34, .aload 4, 36), (36, .iload_n 2, 37), (37, .invokevirtual 119, 40), (40, .aload 4, 42), (42, .getfield 103, 45), (45, .invokevirtual 223, 48), (48, .ifCond .eq 15, 51), (51, .aload_n 0, 52), (52, .getfield 32, 55), (55, .getfield 227, 58), (58, .iload_n 3, 59), (59, .iaload, 60), (60, .goto 4, 63), (63, .iconst (-1), 64), (64, .ireturn, 65)])
theorem okM_Ev_paired : okM M_Ev_paired := okM_of (by decide +kernel) cw_X11_paired rfl rfl rfl rfl
def M_Ev_ways : eM := (RX11, yX11_ways, cX11_ways, 4, (some .int), { frames := 2, cells := 0, slots := 0, locals := 51 }, [(0, .aload_n 0, 1), (1, .iload_n 1, 2), (2, .invokevirtual 137, 5), (5, .astore_n 3, 6), (6, .aload_n 3, 7), (7, .ifnull 10, 10), (10, .iload_n 2, 11), (11, .invokestatic 208, 14), (14, .ifCond .ne 5, 17), (17, .iconst (-1), 18), (18, .ireturn, 19), (19, .aload_n 0, 20), (20, .getfield 32, 23), (23, .aload_n 3, 24), (24, .iload_n 2, 25), (25, .invokevirtual 119, 28), (28, .aload_n 3, 29), (29, .getfield 103, 32), (32, .invokevirtual 230, 35), (35, .l2i, 36), (36, .ireturn, 37)])
theorem okM_Ev_ways : okM M_Ev_ways := okM_of (by decide +kernel) cw_X11_ways rfl rfl rfl rfl
def M_Ev_widest : eM := (RX11, yX11_widest, cX11_widest, 3, (some .int), { frames := 2, cells := 0, slots := 0, locals := 54 }, [(0, .aload_n 0, 1), (1, .iload_n 1, 2), (2, .invokevirtual 137, 5), (5, .astore_n 2, 6), (6, .aload_n 2, 7), (7, .ifnonnull 7, 10), (10, .iconst (-1), 11), (11, .goto 24, 14), (14, .aload_n 0, 15), (15, .getfield 32, 18), (18, .aload_n 2, 19), (19, .getfield 133, 22), (22, .aload_n 2, 23), (23, .iconst 0, 24), (24, .invokevirtual 119, 27), (27, .aload_n 2, 28), (28, .getfield 103, 31), (31, .invokevirtual 234, 34), (34, .l2i, 35), (35, .ireturn, 36)])
theorem okM_Ev_widest : okM M_Ev_widest := okM_of (by decide +kernel) cw_X11_widest rfl rfl rfl rfl
def M_Ev_best : eM := (RX11, yX11_best, cX11_best, 6, (some .long), { frames := 3, cells := 0, slots := 0, locals := 81 }, [(0, .aload_n 0, 1), (1, .iload_n 1, 2), (2, .invokevirtual 137, 5), (5, .astore_n 3, 6), (6, .aload_n 3, 7), (7, .ifnull 24, 10), (10, .iload_n 2, 11), (11, .ifCond .eq 24, 14), (14, .iload_n 2, 15), (15, .bipush 10, 17), (17, .if_icmp .lt 14, 20), (20, .aload_n 3, 21), (21, .iload_n 2, 22), (22, .bipush 10, 24), (24, .isub, 25), (25, .invokevirtual 129, 28), (28, .ifCond .ne 7, 31), (31, .ldc2_w 238, 34), (34, .lreturn, 35), (35, .aload_n 0, 36), (36, .getfield 32, 39), (39, .aload_n 3, 40), (40, .getfield 133, 43), (43, .aload_n 3, 44), (44, .iconst 0, 45), (45, .invokevirtual 119, 48), (48, .aload_n 3, 49), (49, .getfield 103, 52), (52, .invokevirtual 240, 55), (55, .lstore 4, 57), (57, .iload_n 2, 58), (58, .ifCond .ne 8, 61), (61, .lload 4, 63), (63, .goto 16, 66), (66, .aload_n 0, 67), (67, .getfield 32, 70), (70, .getfield 227, 73), (73, .iload_n 2, 74), (74, .bipush 10, 76), (76, .isub, 77), (77, .iaload, 78), (78, .i2l, 79), (79, .lreturn, 80)])
theorem okM_Ev_best : okM M_Ev_best := okM_of (by decide +kernel) cw_X11_best rfl rfl rfl rfl
def M_Ev_permanent : eM := (RX11, yX11_permanent, cX11_permanent, 3, (some .long), { frames := 3, cells := 0, slots := 0, locals := 73 }, [(0, .aload_n 0, 1), (1, .iload_n 1, 2), (2, .invokevirtual 137, 5), (5, .astore_n 2, 6), (6, .aload_n 2, 7), (7, .ifnonnull 9, 10), (10, .ldc2_w 238, 13), (13, .goto 18, 16), (16, .aload_n 0, 17), (17, .getfield 32, 20), (20, .aload_n 2, 21), (21, .getfield 133, 24), (24, .aload_n 2, 25), (25, .getfield 103, 28), (28, .invokevirtual 243, 31), (31, .lreturn, 32)])
theorem okM_Ev_permanent : okM M_Ev_permanent := okM_of (by decide +kernel) cw_X11_permanent rfl rfl rfl rfl
def M_Ev_sought : eM := (RX11, yX11_sought, cX11_sought, 4, (some .int), { frames := 7, cells := 0, slots := 0, locals := 178 }, [(0, .aload_n 0, 1), (1, .iload_n 1, 2), (2, .invokevirtual 163, 5), (5, .astore_n 3, 6), (6, .aload_n 3, 7), (7, .ifnull 20, 10), (10, .aload_n 3, 11), (11, .getfield 103, 14), (14, .iconst 4, 15), (15, .if_icmp .gt 12, 18), (18, .iload_n 2, 19), (19, .ifCond .lt 8, 22), (22, .iload_n 2, 23), (23, .iconst 4, 24), (24, .if_icmp .le 5, 27), (27, .iconst (-1), 28), (28, .ireturn, 29), (29, .aload_n 3, 30), (30, .getfield 247, 33), (33, .ifCond .ne 11, 36), (36, .aload_n 0, 37), (37, .getfield 55, 40), (40, .aload_n 3, 41), (41, .invokevirtual 251, 44), (44, .iload_n 2, 45), (45, .ifCond .ne 10, 48), (48, .aload_n 3, 49), (49, .getfield 254, 52), (52, .goto 15, 55), (55, .aload_n 3, 56), (56, .getfield 257, 59), (59, .iconst 2, 60), (60, .iconst 4, 61), (61, .iload_n 2, 62), (62, .isub, 63), (63, .imul, 64), (64, .ishr, 65), (65, .iconst 3, 66), (66, .iand, 67), (67, .ireturn, 68)])
theorem okM_Ev_sought : okM M_Ev_sought := okM_of (by decide +kernel) cw_X11_sought rfl rfl rfl rfl
def M_Ev_rounded : eM := (RX11, yX11_rounded, cX11_rounded, 6, (some .int), { frames := 5, cells := 0, slots := 0, locals := 116 }, [(0, .aload_n 0, 1), (1, .iload_n 1, 2), (2, .invokevirtual 86, 5), (5, .astore 4, 7), (7, .aload 4, 9), (9, .ifnull 21, 12), (12, .aload 4, 14), (14, .iload_n 2, 15), (15, .invokevirtual 129, 18), (18, .ifCond .eq 12, 21), (21, .aload 4, 23), (23, .iload_n 3, 24), (24, .invokevirtual 129, 27), (27, .ifCond .ne 5, 30), (30, .iconst (-1), 31), (31, .ireturn, 32), (32, .aload 4, 34), (34, .getfield 260, 37), (37, .ifCond .ne 12, 40), (40, .aload_n 0, 41), (41, .getfield 62, 44), (44, .aload 4, 46), (46, .invokevirtual 263, 49), (49, .iload_n 2, 50), (50, .bipush 8, 52), (52, .imul, 53), (53, .iload_n 3, 54), (54, .iadd, 55), (55, .istore 5, 57), (57, .aload 4, 59), (59, .getfield 133, 62), (62, .iload 5, 64), (64, .iaload, 65), (65, .aload 4, 67), (67, .getfield 106, 70), (70, .idiv, 71), (71, .aload 4, 73), (73, .getfield 266, 76), (76, .iload 5, 78), (78, .lushr, 79), (79, .lconst 1, 80), (80, .land, 81), (81, .l2i, 82), (82, .iadd, 83), (83, .ireturn, 84)])
theorem okM_Ev_rounded : okM M_Ev_rounded := okM_of (by decide +kernel) cw_X11_rounded rfl rfl rfl rfl
def M_Ev_most : eM := (RX11, yX11_most, cX11_most, 4, (some .int), { frames := 4, cells := 0, slots := 0, locals := 93 }, [(0, .aload_n 0, 1), (1, .getfield 48, 4), (4, .iload_n 1, 5), (5, .invokevirtual 184, 8), (8, .ifCond .eq 12, 11), (11, .iload_n 2, 12), (12, .ifCond .lt 8, 15), (15, .iload_n 2, 16), (16, .iconst 2, 17), (17, .if_icmp .le 5, 20), (20, .iconst (-1), 21), (21, .ireturn, 22), (22, .iload_n 2, 23), (23, .iconst 2, 24), (24, .if_icmp .ne 12, 27), (27, .aload_n 0, 28), (28, .getfield 48, 31), (31, .iload_n 1, 32), (32, .invokevirtual 270, 35), (35, .ireturn, 36), (36, .aload_n 0, 37), (37, .getfield 48, 40), (40, .iload_n 1, 41), (41, .invokevirtual 273, 44), (44, .istore_n 3, 45), (45, .iload_n 2, 46), (46, .ifCond .ne 7, 49), (49, .iload_n 3, 50), (50, .goto 12, 53), (53, .aload_n 0, 54), (54, .getfield 48, 57), (57, .iload_n 1, 58), (58, .iload_n 3, 59), (59, .invokevirtual 276, 62), (62, .ireturn, 63)])
theorem okM_Ev_most : okM M_Ev_most := okM_of (by decide +kernel) cw_X11_most rfl rfl rfl rfl
def M_Ev_mixing : eM := (RX11, yX11_mixing, cX11_mixing, 3, (some .int), { frames := 4, cells := 0, slots := 0, locals := 101 }, [(0, .aload_n 0, 1), (1, .iload_n 1, 2), (2, .invokevirtual 137, 5), (5, .astore_n 2, 6), (6, .aload_n 2, 7), (7, .ifnonnull 7, 10), (10, .iconst (-1), 11), (11, .goto 20, 14), (14, .aload_n 2, 15), (15, .iconst 1, 16), (16, .invokevirtual 119, 19), (19, .aload_n 2, 20), (20, .iconst 0, 21), (21, .invokevirtual 119, 24), (24, .aload_n 2, 25), (25, .getfield 103, 28), (28, .invokestatic 279, 31), (31, .ireturn, 32)])
theorem okM_Ev_mixing : okM M_Ev_mixing := okM_of (by decide +kernel) cw_X11_mixing rfl rfl rfl rfl
def M_Ev_kin : eM := (RX11, yX11_kin, cX11_kin, 4, (some .int), { frames := 4, cells := 0, slots := 0, locals := 98 }, [(0, .aload_n 0, 1), (1, .iload_n 1, 2), (2, .invokevirtual 86, 5), (5, .astore_n 3, 6), (6, .aload_n 3, 7), (7, .ifnull 11, 10), (10, .aload_n 3, 11), (11, .iload_n 2, 12), (12, .invokevirtual 129, 15), (15, .ifCond .ne 7, 18), (18, .iconst (-1), 19), (19, .goto 16, 22), (22, .aload_n 3, 23), (23, .iconst 1, 24), (24, .invokevirtual 119, 27), (27, .iload_n 2, 28), (28, .aload_n 3, 29), (29, .getfield 103, 32), (32, .invokestatic 283, 35), (35, .ireturn, 36)])
theorem okM_Ev_kin : okM M_Ev_kin := okM_of (by decide +kernel) cw_X11_kin rfl rfl rfl rfl
def M_Ev_show : eM := (RX11, yX11_show, cX11_show, 1, (some .int), { frames := 3, cells := 0, slots := 0, locals := 67 }, [(0, .aload_n 0, 1), (1, .getfield 69, 4), (4, .aload_n 0, 5), (5, .getfield 48, 8), (8, .invokevirtual 286, 11), (11, .aload_n 0, 12), (12, .getfield 69, 15), (15, .getfield 290, 18), (18, .ireturn, 19)])
theorem okM_Ev_show : okM M_Ev_show := okM_of (by decide +kernel) cw_X11_show rfl rfl rfl rfl
def M_Ev_out : eM := (RX11, yX11_out, cX11_out, 2, (some .int), { frames := 0, cells := 0, slots := 0, locals := 0 }, [(0, .iload_n 1, 1), (1, .ifCond .lt 14, 4), (4, .iload_n 1, 5), (5, .aload_n 0, 6), (6, .getfield 69, 9), (9, .getfield 290, 12), (12, .if_icmp .lt 7, 15), (15, .iconst (-1), 16), (16, .goto 12, 19), (19, .aload_n 0, 20), (20, .getfield 69, 23), (23, .getfield 291, 26), (26, .iload_n 1, 27), (27, .iaload, 28), (28, .ireturn, 29)])
theorem okM_Ev_out : okM M_Ev_out := okM_of (by decide +kernel) cw_X11_out rfl rfl rfl rfl
def M_Ev_shop : eM := (RX11, yX11_shop, cX11_shop, 4, (some .int), { frames := 6, cells := 0, slots := 0, locals := 150 }, [(0, .aload_n 0, 1), (1, .iload_n 1, 2), (2, .invokevirtual 137, 5), (5, .astore_n 3, 6), (6, .aload_n 3, 7), (7, .ifnull 25, 10), (10, .aload_n 3, 11), (11, .getfield 103, 14), (14, .iconst 4, 15), (15, .if_icmp .gt 17, 18), (18, .aload_n 3, 19), (19, .invokevirtual 116, 22), (22, .ifCond .eq 10, 25), (25, .iload_n 2, 26), (26, .invokestatic 166, 29), (29, .ifCond .ne 5, 32), (32, .iconst (-1), 33), (33, .ireturn, 34), (34, .aload_n 0, 35), (35, .getfield 41, 38), (38, .aload_n 3, 39), (39, .invokevirtual 294, 42), (42, .aload_n 0, 43), (43, .getfield 48, 46), (46, .iconst 2, 47), (47, .aload_n 3, 48), (48, .getfield 103, 51), (51, .iconst 2, 52), (52, .aload_n 3, 53), (53, .getfield 103, 56), (56, .imul, 57), (57, .aload_n 0, 58), (58, .getfield 41, 61), (61, .getfield 297, 64), (64, .invokevirtual 173, 67), (67, .aload_n 0, 68), (68, .iload_n 2, 69), (69, .invokevirtual 177, 72), (72, .ireturn, 73)])
theorem okM_Ev_shop : okM M_Ev_shop := okM_of (by decide +kernel) cw_X11_shop rfl rfl rfl rfl
def M_Ev_works : eM := (RX11, yX11_works, cX11_works, 4, (some .int), { frames := 2, cells := 0, slots := 0, locals := 45 }, [(0, .aload_n 0, 1), (1, .getfield 48, 4), (4, .iload_n 1, 5), (5, .invokevirtual 300, 8), (8, .ifCond .ne 5, 11), (11, .iconst (-1), 12), (12, .ireturn, 13), (13, .aload_n 0, 14), (14, .getfield 48, 17), (17, .iload_n 2, 18), (18, .invokevirtual 198, 21), (21, .istore_n 3, 22), (22, .iload_n 3, 23), (23, .iconst (-1), 24), (24, .if_icmp .ne 7, 27), (27, .iconst (-1), 28), (28, .goto 12, 31), (31, .aload_n 0, 32), (32, .getfield 48, 35), (35, .iload_n 3, 36), (36, .iload_n 1, 37), (37, .invokevirtual 303, 40), (40, .ireturn, 41)])
theorem okM_Ev_works : okM M_Ev_works := okM_of (by decide +kernel) cw_X11_works rfl rfl rfl rfl
def M_Ev_job : eM := (RX11, yX11_job, cX11_job, 3, (some .int), { frames := 3, cells := 0, slots := 0, locals := 70 }, [(0, .aload_n 0, 1), (1, .getfield 48, 4), (4, .iload_n 1, 5), (5, .invokevirtual 300, 8), (8, .ifCond .ne 5, 11), (11, .iconst (-1), 12), (12, .ireturn, 13), (13, .iload_n 2, 14), (14, .tableswitch 53 0 2 #[26, 35, 44], 40), (40, .aload_n 0, 41), (41, .getfield 48, 44), (44, .iload_n 1, 45), (45, .invokevirtual 306, 48), (48, .ireturn, 49), (49, .aload_n 0, 50), (50, .getfield 48, 53), (53, .iload_n 1, 54), (54, .invokevirtual 309, 57), (57, .ireturn, 58), (58, .aload_n 0, 59), (59, .getfield 48, 62), (62, .iload_n 1, 63), (63, .invokevirtual 312, 66), (66, .ireturn, 67), (67, .iconst (-1), 68), (68, .ireturn, 69)])
theorem okM_Ev_job : okM M_Ev_job := okM_of (by decide +kernel) cw_X11_job rfl rfl rfl rfl
def M_Ev_kept : eM := (RX11, yX11_kept, cX11_kept, 2, (some .int), { frames := 0, cells := 0, slots := 0, locals := 0 }, [(0, .iload_n 1, 1), (1, .tableswitch 75 0 4 #[35, 43, 51, 59, 67], 36), (36, .aload_n 0, 37), (37, .getfield 48, 40), (40, .getfield 315, 43), (43, .ireturn, 44), (44, .aload_n 0, 45), (45, .getfield 48, 48), (48, .getfield 318, 51), (51, .ireturn, 52), (52, .aload_n 0, 53), (53, .getfield 48, 56), (56, .getfield 321, 59), (59, .ireturn, 60), (60, .aload_n 0, 61), (61, .getfield 48, 64), (64, .getfield 324, 67), (67, .ireturn, 68), (68, .aload_n 0, 69), (69, .getfield 18, 72), (72, .getfield 82, 75), (75, .ireturn, 76), (76, .iconst (-1), 77), (77, .ireturn, 78)])
theorem okM_Ev_kept : okM M_Ev_kept := okM_of (by decide +kernel) cw_X11_kept rfl rfl rfl rfl
def M_Ev_slotAt : eM := (RX11, yX11_slotAt, cX11_slotAt, 2, (some (.object "EvenTables$Table")), { frames := 0, cells := 0, slots := 0, locals := 0 }, [(0, .iload_n 1, 1), (1, .ifCond .lt 8, 4), (4, .iload_n 1, 5), (5, .iconst 4, 6), (6, .if_icmp .lt 7, 9), (9, .aconst_null, 10), (10, .goto 9, 13), (13, .aload_n 0, 14), (14, .getfield 11, 17), (17, .iload_n 1, 18), (18, .aaload, 19), (19, .areturn, 20)])
theorem okM_Ev_slotAt : okM M_Ev_slotAt := okM_of (by decide +kernel) cw_X11_slotAt rfl rfl rfl rfl
def M_Ev_filledSlot : eM := (RX11, yX11_filledSlot, cX11_filledSlot, 3, (some (.object "EvenTables$Table")), { frames := 1, cells := 0, slots := 0, locals := 21 }, [(0, .aload_n 0, 1), (1, .iload_n 1, 2), (2, .invokevirtual 86, 5), (5, .astore_n 2, 6), (6, .aload_n 2, 7), (7, .ifnull 10, 10), (10, .aload_n 2, 11), (11, .getfield 103, 14), (14, .ifCond .ne 7, 17), (17, .aconst_null, 18), (18, .goto 4, 21), (21, .aload_n 2, 22), (22, .areturn, 23)])
theorem okM_Ev_filledSlot : okM M_Ev_filledSlot := okM_of (by decide +kernel) cw_X11_filledSlot rfl rfl rfl rfl
def M_Ev_evenSlot : eM := (RX11, yX11_evenSlot, cX11_evenSlot, 3, (some (.object "EvenTables$Table")), { frames := 1, cells := 0, slots := 0, locals := 21 }, [(0, .aload_n 0, 1), (1, .iload_n 1, 2), (2, .invokevirtual 86, 5), (5, .astore_n 2, 6), (6, .aload_n 2, 7), (7, .ifnull 11, 10), (10, .aload_n 2, 11), (11, .getfield 109, 14), (14, .iconst (-1), 15), (15, .if_icmp .ne 7, 18), (18, .aconst_null, 19), (19, .goto 4, 22), (22, .aload_n 2, 23), (23, .areturn, 24)])
theorem okM_Ev_evenSlot : okM M_Ev_evenSlot := okM_of (by decide +kernel) cw_X11_evenSlot rfl rfl rfl rfl
def M_Ev_areLike : eM := (RX11, yX11_areLike, cX11_areLike, 6, (some .boolean), { frames := 2, cells := 0, slots := 0, locals := 43 }, [(0, .aload_n 0, 1), (1, .iload_n 1, 2), (2, .invokevirtual 137, 5), (5, .astore 4, 7), (7, .aload_n 0, 8), (8, .iload_n 2, 9), (9, .invokevirtual 137, 12), (12, .astore 5, 14), (14, .aload 4, 16), (16, .ifnull 33, 19), (19, .aload 5, 21), (21, .ifnull 28, 24), (24, .aload 4, 26), (26, .getfield 103, 29), (29, .aload 5, 31), (31, .getfield 103, 34), (34, .if_icmp .ne 15, 37), (37, .aload_n 0, 38), (38, .iload_n 3, 39), (39, .invokevirtual 86, 42), (42, .ifnull 7, 45), (45, .iconst 1, 46), (46, .goto 4, 49), (49, .iconst 0, 50), (50, .ireturn, 51)])
theorem okM_Ev_areLike : okM M_Ev_areLike := okM_of (by decide +kernel) cw_X11_areLike rfl rfl rfl rfl
def M_Ev_keepParts : eM := (RX11, yX11_keepParts, cX11_keepParts, 3, (some .int), { frames := 5, cells := 0, slots := 0, locals := 128 }, [(0, .iconst 0, 1), (1, .istore_n 2, 2), (2, .iload_n 2, 3), (3, .bipush 64, 5), (5, .if_icmp .ge 48, 8), (8, .aload_n 0, 9), (9, .getfield 41, 12), (12, .getfield 297, 15), (15, .ifCond .le 38, 18), (18, .aload_n 0, 19), (19, .getfield 41, 22), (22, .iload_n 1, 23), (23, .invokevirtual 325, 26), (26, .aload_n 0, 27), (27, .getfield 48, 30), (30, .aload_n 0, 31), (31, .getfield 41, 34), (34, .getfield 328, 37), (37, .aload_n 0, 38), (38, .getfield 32, 41), (41, .getfield 227, 44), (44, .invokevirtual 331, 47), (47, .iinc 2 1, 50), (50, .goto (-48), 53), (53, .aload_n 0, 54), (54, .getfield 48, 57), (57, .getfield 318, 60), (60, .ireturn, 61)])
theorem okM_Ev_keepParts : okM M_Ev_keepParts := okM_of (by decide +kernel) cw_X11_keepParts rfl rfl rfl rfl
def M_Ev_isRule : eM := (RX11, yX11_isRule, cX11_isRule, 1, (some .boolean), { frames := 0, cells := 0, slots := 0, locals := 0 }, [(0, .iload_n 0, 1), (1, .ifCond .lt 12, 4), (4, .iload_n 0, 5), (5, .iconst 4, 6), (6, .if_icmp .ge 7, 9), (9, .iconst 1, 10), (10, .goto 4, 13), (13, .iconst 0, 14), (14, .ireturn, 15)])
theorem okM_Ev_isRule : okM M_Ev_isRule := okM_of (by decide +kernel) cw_X11_isRule rfl rfl rfl rfl
def M_Ev_isCell : eM := (RX11, yX11_isCell, cX11_isCell, 1, (some .boolean), { frames := 0, cells := 0, slots := 0, locals := 0 }, [(0, .iload_n 0, 1), (1, .ifCond .lt 14, 4), (4, .iload_n 0, 5), (5, .ldc_w 335, 8), (8, .if_icmp .gt 7, 11), (11, .iconst 1, 12), (12, .goto 4, 15), (15, .iconst 0, 16), (16, .ireturn, 17)])
theorem okM_Ev_isCell : okM M_Ev_isCell := okM_of (by decide +kernel) cw_X11_isCell rfl rfl rfl rfl
def M_Ev_isShare : eM := (RX11, yX11_isShare, cX11_isShare, 2, (some .boolean), { frames := 0, cells := 0, slots := 0, locals := 0 }, [(0, .iload_n 0, 1), (1, .ifCond .lt 26, 4), (4, .iload_n 0, 5), (5, .sipush 9999, 8), (8, .if_icmp .gt 19, 11), (11, .iload_n 1, 12), (12, .iconst 1, 13), (13, .if_icmp .lt 14, 16), (16, .iload_n 1, 17), (17, .sipush 9999, 20), (20, .if_icmp .gt 7, 23), (23, .iconst 1, 24), (24, .goto 4, 27), (27, .iconst 0, 28), (28, .ireturn, 29)])
theorem okM_Ev_isShare : okM M_Ev_isShare := okM_of (by decide +kernel) cw_X11_isShare rfl rfl rfl rfl
def M_Ji_bitCount : eM := (RJ6, yJ6_bitCount_0f7a4, cJ6_bitCount_0f7a4, 1, (some .int), { frames := 0, cells := 0, slots := 0, locals := 0 }, [(0, .iload_n 0, 1), (1, .iload_n 0, 2), (2, .iconst 1, 3), (3, .iushr, 4), (4, .ldc_w 265, 7), (7, .iand, 8), (8, .isub, 9), (9, .istore_n 0, 10), (10, .iload_n 0, 11), (11, .ldc_w 266, 14), (14, .iand, 15), (15, .iload_n 0, 16), (16, .iconst 2, 17), (17, .iushr, 18), (18, .ldc_w 266, 21), (21, .iand, 22), (22, .iadd, 23), (23, .istore_n 0, 24), (24, .iload_n 0, 25), (25, .iload_n 0, 26), (26, .iconst 4, 27), (27, .iushr, 28), (28, .iadd, 29), (29, .ldc_w 267, 32), (32, .iand, 33), (33, .istore_n 0, 34), (34, .iload_n 0, 35), (35, .iload_n 0, 36), (36, .bipush 8, 38), (38, .iushr, 39), (39, .iadd, 40), (40, .istore_n 0, 41), (41, .iload_n 0, 42), (42, .iload_n 0, 43), (43, .bipush 16, 45), (45, .iushr, 46), (46, .iadd, 47), (47, .istore_n 0, 48), (48, .iload_n 0, 49), (49, .bipush 63, 51), (51, .iand, 52), (52, .ireturn, 53)])
theorem okM_Ji_bitCount : okM M_Ji_bitCount := okM_of (by decide +kernel) cw_J6_bitCount_0f7a4 rfl rfl rfl rfl
def M_Jl_bitCount : eM := (RJ13, yJ13_bitCount_95d88, cJ13_bitCount_95d88, 2, (some .int), { frames := 0, cells := 0, slots := 0, locals := 0 }, [(0, .lload_n 0, 1), (1, .lload_n 0, 2), (2, .iconst 1, 3), (3, .lushr, 4), (4, .ldc2_w 314, 7), (7, .land, 8), (8, .lsub, 9), (9, .lstore_n 0, 10), (10, .lload_n 0, 11), (11, .ldc2_w 316, 14), (14, .land, 15), (15, .lload_n 0, 16), (16, .iconst 2, 17), (17, .lushr, 18), (18, .ldc2_w 316, 21), (21, .land, 22), (22, .ladd, 23), (23, .lstore_n 0, 24), (24, .lload_n 0, 25), (25, .lload_n 0, 26), (26, .iconst 4, 27), (27, .lushr, 28), (28, .ladd, 29), (29, .ldc2_w 318, 32), (32, .land, 33), (33, .lstore_n 0, 34), (34, .lload_n 0, 35), (35, .lload_n 0, 36), (36, .bipush 8, 38), (38, .lushr, 39), (39, .ladd, 40), (40, .lstore_n 0, 41), (41, .lload_n 0, 42), (42, .lload_n 0, 43), (43, .bipush 16, 45), (45, .lushr, 46), (46, .ladd, 47), (47, .lstore_n 0, 48), (48, .lload_n 0, 49), (49, .lload_n 0, 50), (50, .bipush 32, 52), (52, .lushr, 53), (53, .ladd, 54), (54, .lstore_n 0, 55), (55, .lload_n 0, 56), (56, .l2i, 57), (57, .bipush 127, 59), (59, .iand, 60), (60, .ireturn, 61)])
theorem okM_Jl_bitCount : okM M_Jl_bitCount := okM_of (by decide +kernel) cw_J13_bitCount_95d88 rfl rfl rfl rfl
def M_Ja_fill : eM := (RJ7, yJ7_fill_53178, cJ7_fill_53178, 4, none, { frames := 0, cells := 0, slots := 0, locals := 0 }, [(0, .iconst 0, 1), (1, .istore_n 2, 2), (2, .aload_n 0, 3), (3, .arraylength, 4), (4, .istore_n 3, 5), (5, .iload_n 2, 6), (6, .iload_n 3, 7), (7, .if_icmp .ge 13, 10), (10, .aload_n 0, 11), (11, .iload_n 2, 12), (12, .iload_n 1, 13), (13, .iastore, 14), (14, .iinc 2 1, 17), (17, .goto (-12), 20), (20, .return_, 21)])
theorem okM_Ja_fill : okM M_Ja_fill := okM_of (by decide +kernel) cw_J7_fill_53178 rfl rfl rfl rfl
end
section
def M_Mo_isIn : eM := (RX12, yX12_isIn, cX12_isIn, 6, (some .boolean), { frames := 0, cells := 0, slots := 0, locals := 0 }, [(0, .lload_n 0, 1), (1, .lload_n 2, 2), (2, .lcmp, 3), (3, .ifCond .lt 14, 6), (6, .lload_n 0, 7), (7, .lload 4, 9), (9, .lcmp, 10), (10, .ifCond .gt 7, 13), (13, .iconst 1, 14), (14, .goto 4, 17), (17, .iconst 0, 18), (18, .ireturn, 19)])
theorem okM_Mo_isIn : okM M_Mo_isIn := okM_of (by decide +kernel) cw_X12_isIn rfl rfl rfl rfl
def M_Mo_one : eM := (RX12, yX12_one, cX12_one, 1, (some .int), { frames := 0, cells := 0, slots := 0, locals := 0 }, [(0, .iload_n 0, 1), (1, .ifCond .eq 7, 4), (4, .iconst 1, 5), (5, .goto 4, 8), (8, .iconst 0, 9), (9, .ireturn, 10)])
theorem okM_Mo_one : okM M_Mo_one := okM_of (by decide +kernel) cw_X12_one rfl rfl rfl rfl
def M_Mo_common : eM := (RX12, yX12_common, cX12_common, 10, (some .long), { frames := 0, cells := 0, slots := 0, locals := 0 }, [(0, .lload_n 0, 1), (1, .lstore 4, 3), (3, .lload_n 2, 4), (4, .lstore 6, 6), (6, .lload 6, 8), (8, .lconst 0, 9), (9, .lcmp, 10), (10, .ifCond .eq 21, 13), (13, .lload 4, 15), (15, .lload 6, 17), (17, .lrem, 18), (18, .lstore 8, 20), (20, .lload 6, 22), (22, .lstore 4, 24), (24, .lload 8, 26), (26, .lstore 6, 28), (28, .goto (-22), 31), (31, .lload 4, 33), (33, .lreturn, 34)])
theorem okM_Mo_common : okM M_Mo_common := okM_of (by decide +kernel) cw_X12_common rfl rfl rfl rfl
def M_Mo_takes : eM := (RX12, yX12_takes, cX12_takes, 6, (some .boolean), { frames := 1, cells := 0, slots := 0, locals := 29 }, [(0, .aload_n 0, 1), (1, .getfield 85, 4), (4, .lstore_n 3, 5), (5, .iconst 0, 6), (6, .istore 5, 8), (8, .iload 5, 10), (10, .iload_n 2, 11), (11, .iload_n 2, 12), (12, .imul, 13), (13, .if_icmp .ge 21, 16), (16, .lload_n 3, 17), (17, .aload_n 0, 18), (18, .getfield 19, 21), (21, .iload 5, 23), (23, .laload, 24), (24, .invokestatic 89, 27), (27, .lstore_n 3, 28), (28, .iinc 5 1, 31), (31, .goto (-23), 34), (34, .aload_n 0, 35), (35, .getfield 85, 38), (38, .lload_n 3, 39), (39, .ldiv, 40), (40, .ldc2_w 93, 43), (43, .lcmp, 44), (44, .ifCond .le 5, 47), (47, .iconst 0, 48), (48, .ireturn, 49), (49, .iconst 0, 50), (50, .istore 5, 52), (52, .iload 5, 54), (54, .iload_n 2, 55), (55, .iload_n 2, 56), (56, .imul, 57), (57, .if_icmp .ge 27, 60), (60, .aload_n 0, 61), (61, .getfield 19, 64), (64, .iload 5, 66), (66, .laload, 67), (67, .lload_n 3, 68), (68, .ldiv, 69), (69, .ldc2_w 95, 72), (72, .lcmp, 73), (73, .ifCond .le 5, 76), (76, .iconst 0, 77), (77, .ireturn, 78), (78, .iinc 5 1, 81), (81, .goto (-29), 84), (84, .aload_n 0, 85), (85, .getfield 7, 88), (88, .iload_n 1, 89), (89, .iload_n 2, 90), (90, .iastore, 91), (91, .aload_n 0, 92), (92, .getfield 13, 95), (95, .iload_n 1, 96), (96, .iload_n 2, 97), (97, .ifCond .ne 7, 100), (100, .iconst 0, 101), (101, .goto 10, 104), (104, .aload_n 0, 105), (105, .getfield 85, 108), (108, .lload_n 3, 109), (109, .ldiv, 110), (110, .l2i, 111), (111, .iastore, 112), (112, .iconst 0, 113), (113, .istore 5, 115), (115, .iload 5, 117), (117, .iload_n 2, 118), (118, .iload_n 2, 119), (119, .imul, 120), (120, .if_icmp .ge 31, 123), (123, .aload_n 0, 124), (124, .getfield 16, 127), (127, .bipush 64, 129), (129, .iload_n 1, 130), (130, .imul, 131), (131, .iload 5, 133), (133, .iadd, 134), (134, .aload_n 0, 135), (135, .getfield 19, 138), (138, .iload 5, 140), (140, .laload, 141), (141, .lload_n 3, 142), (142, .ldiv, 143), (143, .l2i, 144), (144, .iastore, 145), (145, .iinc 5 1, 148), (148, .goto (-33), 151), (151, .iconst 1, 152), (152, .ireturn, 153)])
theorem okM_Mo_takes : okM M_Mo_takes := okM_of (by decide +kernel) cw_X12_takes rfl rfl rfl rfl
def M_Mo_isSlot : eM := (RX12, yX12_isSlot, cX12_isSlot, 1, (some .boolean), { frames := 1, cells := 0, slots := 0, locals := 25 }, [(0, .iload_n 0, 1), (1, .i2l, 2), (2, .lconst 0, 3), (3, .ldc2_w 97, 6), (6, .invokestatic 99, 9), (9, .ireturn, 10)])
theorem okM_Mo_isSlot : okM M_Mo_isSlot := okM_of (by decide +kernel) cw_X12_isSlot rfl rfl rfl rfl
def M_Mo_isTable : eM := (RX12, yX12_isTable, cX12_isTable, 2, (some .boolean), { frames := 2, cells := 0, slots := 0, locals := 45 }, [(0, .iload_n 1, 1), (1, .invokestatic 103, 4), (4, .ifCond .eq 16, 7), (7, .aload_n 0, 8), (8, .getfield 7, 11), (11, .iload_n 1, 12), (12, .iaload, 13), (13, .ifCond .le 7, 16), (16, .iconst 1, 17), (17, .goto 4, 20), (20, .iconst 0, 21), (21, .ireturn, 22)])
theorem okM_Mo_isTable : okM M_Mo_isTable := okM_of (by decide +kernel) cw_X12_isTable rfl rfl rfl rfl
def M_Mo_at : eM := (RX12, yX12_at, cX12_at, 4, (some .int), { frames := 0, cells := 0, slots := 0, locals := 0 }, [(0, .aload_n 0, 1), (1, .getfield 16, 4), (4, .bipush 64, 6), (6, .iload_n 1, 7), (7, .imul, 8), (8, .aload_n 0, 9), (9, .getfield 7, 12), (12, .iload_n 1, 13), (13, .iaload, 14), (14, .iload_n 2, 15), (15, .imul, 16), (16, .iadd, 17), (17, .iload_n 3, 18), (18, .iadd, 19), (19, .iaload, 20), (20, .ireturn, 21)])
theorem okM_Mo_at : okM M_Mo_at := okM_of (by decide +kernel) cw_X12_at rfl rfl rfl rfl
def M_Mo_rowOf : eM := (RX12, yX12_rowOf, cX12_rowOf, 6, (some .long), { frames := 1, cells := 0, slots := 0, locals := 23 }, [(0, .lconst 0, 1), (1, .lstore_n 3, 2), (2, .iconst 0, 3), (3, .istore 5, 5), (5, .iload 5, 7), (7, .aload_n 0, 8), (8, .getfield 7, 11), (11, .iload_n 1, 12), (12, .iaload, 13), (13, .if_icmp .ge 21, 16), (16, .lload_n 3, 17), (17, .aload_n 0, 18), (18, .iload_n 1, 19), (19, .iload_n 2, 20), (20, .iload 5, 22), (22, .invokevirtual 107, 25), (25, .i2l, 26), (26, .ladd, 27), (27, .lstore_n 3, 28), (28, .iinc 5 1, 31), (31, .goto (-26), 34), (34, .lload_n 3, 35), (35, .lreturn, 36)])
theorem okM_Mo_rowOf : okM M_Mo_rowOf := okM_of (by decide +kernel) cw_X12_rowOf rfl rfl rfl rfl
def M_Mo_columnOf : eM := (RX12, yX12_columnOf, cX12_columnOf, 6, (some .long), { frames := 1, cells := 0, slots := 0, locals := 23 }, [(0, .lconst 0, 1), (1, .lstore_n 3, 2), (2, .iconst 0, 3), (3, .istore 5, 5), (5, .iload 5, 7), (7, .aload_n 0, 8), (8, .getfield 7, 11), (11, .iload_n 1, 12), (12, .iaload, 13), (13, .if_icmp .ge 21, 16), (16, .lload_n 3, 17), (17, .aload_n 0, 18), (18, .iload_n 1, 19), (19, .iload 5, 21), (21, .iload_n 2, 22), (22, .invokevirtual 107, 25), (25, .i2l, 26), (26, .ladd, 27), (27, .lstore_n 3, 28), (28, .iinc 5 1, 31), (31, .goto (-26), 34), (34, .lload_n 3, 35), (35, .lreturn, 36)])
theorem okM_Mo_columnOf : okM M_Mo_columnOf := okM_of (by decide +kernel) cw_X12_columnOf rfl rfl rfl rfl
def M_Mo_isEven : eM := (RX12, yX12_isEven, cX12_isEven, 2, (some .boolean), { frames := 4, cells := 0, slots := 0, locals := 88 }, [(0, .aload_n 0, 1), (1, .iload_n 1, 2), (2, .invokevirtual 111, 5), (5, .ifCond .eq 27, 8), (8, .aload_n 0, 9), (9, .iload_n 1, 10), (10, .iconst 0, 11), (11, .invokevirtual 114, 14), (14, .lconst 0, 15), (15, .lcmp, 16), (16, .ifCond .le 16, 19), (19, .aload_n 0, 20), (20, .iload_n 1, 21), (21, .invokevirtual 118, 24), (24, .iconst (-1), 25), (25, .if_icmp .ne 7, 28), (28, .iconst 1, 29), (29, .goto 4, 32), (32, .iconst 0, 33), (33, .ireturn, 34)])
theorem okM_Mo_isEven : okM M_Mo_isEven := okM_of (by decide +kernel) cw_X12_isEven rfl rfl rfl rfl
def M_Mo_uneven : eM := (RX12, yX12_uneven, cX12_uneven, 3, (some .int), { frames := 3, cells := 0, slots := 0, locals := 66 }, [(0, .aload_n 0, 1), (1, .iload_n 1, 2), (2, .invokevirtual 111, 5), (5, .ifCond .ne 5, 8), (8, .iconst (-1), 9), (9, .ireturn, 10), (10, .iconst 1, 11), (11, .istore_n 2, 12), (12, .iload_n 2, 13), (13, .aload_n 0, 14), (14, .getfield 7, 17), (17, .iload_n 1, 18), (18, .iaload, 19), (19, .if_icmp .ge 27, 22), (22, .aload_n 0, 23), (23, .iload_n 1, 24), (24, .iload_n 2, 25), (25, .invokevirtual 114, 28), (28, .aload_n 0, 29), (29, .iload_n 1, 30), (30, .iconst 0, 31), (31, .invokevirtual 114, 34), (34, .lcmp, 35), (35, .ifCond .eq 5, 38), (38, .iload_n 2, 39), (39, .ireturn, 40), (40, .iinc 2 1, 43), (43, .goto (-31), 46), (46, .iconst 0, 47), (47, .istore_n 2, 48), (48, .iload_n 2, 49), (49, .aload_n 0, 50), (50, .getfield 7, 53), (53, .iload_n 1, 54), (54, .iaload, 55), (55, .if_icmp .ge 30, 58), (58, .aload_n 0, 59), (59, .iload_n 1, 60), (60, .iload_n 2, 61), (61, .invokevirtual 122, 64), (64, .aload_n 0, 65), (65, .iload_n 1, 66), (66, .iconst 0, 67), (67, .invokevirtual 114, 70), (70, .lcmp, 71), (71, .ifCond .eq 8, 74), (74, .bipush 8, 76), (76, .iload_n 2, 77), (77, .iadd, 78), (78, .ireturn, 79), (79, .iinc 2 1, 82), (82, .goto (-34), 85), (85, .iconst (-1), 86), (86, .ireturn, 87)])
theorem okM_Mo_uneven : okM M_Mo_uneven := okM_of (by decide +kernel) cw_X12_uneven rfl rfl rfl rfl
def M_Mo_four : eM := (RX12, yX12_four, cX12_four, 3, none, { frames := 0, cells := 0, slots := 0, locals := 0 }, [(0, .bipush 24, 2), (2, .istore_n 2, 3), (3, .iload_n 2, 4), (4, .ifCond .lt 35, 7), (7, .aload_n 0, 8), (8, .getfield 23, 11), (11, .aload_n 0, 12), (12, .getfield 125, 15), (15, .iload_n 1, 16), (16, .iload_n 2, 17), (17, .ishr, 18), (18, .sipush 255, 21), (21, .iand, 22), (22, .iastore, 23), (23, .aload_n 0, 24), (24, .dup, 25), (25, .getfield 125, 28), (28, .iconst 1, 29), (29, .iadd, 30), (30, .putfield 125, 33), (33, .iinc 2 (-8), 36), (36, .goto (-33), 39), (39, .return_, 40)])
theorem okM_Mo_four : okM M_Mo_four := okM_of (by decide +kernel) cw_X12_four rfl rfl rfl rfl
def M_Mo_feed : eM := (RX12, yX12_feed, cX12_feed, 6, (some .int), { frames := 1, cells := 0, slots := 0, locals := 22 }, [(0, .aload_n 0, 1), (1, .getfield 125, 4), (4, .bipush 20, 6), (6, .iadd, 7), (7, .sipush 600, 10), (10, .if_icmp .le 5, 13), (13, .iconst (-1), 14), (14, .ireturn, 15), (15, .aload_n 0, 16), (16, .iload_n 1, 17), (17, .invokevirtual 128, 20), (20, .aload_n 0, 21), (21, .iload_n 2, 22), (22, .invokevirtual 128, 25), (25, .aload_n 0, 26), (26, .iload_n 3, 27), (27, .invokevirtual 128, 30), (30, .aload_n 0, 31), (31, .iload 4, 33), (33, .invokevirtual 128, 36), (36, .aload_n 0, 37), (37, .iload 5, 39), (39, .invokevirtual 128, 42), (42, .aload_n 0, 43), (43, .getfield 125, 46), (46, .ireturn, 47)])
theorem okM_Mo_feed : okM M_Mo_feed := okM_of (by decide +kernel) cw_X12_feed rfl rfl rfl rfl
def M_Mo_end : eM := (RX12, yX12_end, cX12_end, 2, (some .boolean), { frames := 1, cells := 0, slots := 0, locals := 25 }, [(0, .iload_n 1, 1), (1, .i2l, 2), (2, .lconst 0, 3), (3, .aload_n 0, 4), (4, .getfield 125, 7), (7, .i2l, 8), (8, .invokestatic 99, 11), (11, .ifCond .ne 5, 14), (14, .iconst 0, 15), (15, .ireturn, 16), (16, .aload_n 0, 17), (17, .iload_n 1, 18), (18, .putfield 125, 21), (21, .iconst 1, 22), (22, .ireturn, 23)])
theorem okM_Mo_end : okM M_Mo_end := okM_of (by decide +kernel) cw_X12_end rfl rfl rfl rfl
def M_Mo_see : eM := (RX12, yX12_see, cX12_see, 2, (some .int), { frames := 0, cells := 0, slots := 0, locals := 0 }, [(0, .iload_n 1, 1), (1, .aload_n 0, 2), (2, .getfield 125, 5), (5, .if_icmp .ge 12, 8), (8, .aload_n 0, 9), (9, .getfield 23, 12), (12, .iload_n 1, 13), (13, .iaload, 14), (14, .goto 4, 17), (17, .iconst (-1), 18), (18, .ireturn, 19)])
theorem okM_Mo_see : okM M_Mo_see := okM_of (by decide +kernel) cw_X12_see rfl rfl rfl rfl
def M_Mo_next : eM := (RX12, yX12_next, cX12_next, 2, none, { frames := 1, cells := 0, slots := 0, locals := 25 }, [(0, .aload_n 0, 1), (1, .aload_n 0, 2), (2, .getfield 132, 5), (5, .invokevirtual 135, 8), (8, .bipush 32, 10), (10, .if_icmp .eq 16, 13), (13, .aload_n 0, 14), (14, .aload_n 0, 15), (15, .getfield 132, 18), (18, .invokevirtual 135, 21), (21, .bipush 10, 23), (23, .if_icmp .ne 16, 26), (26, .aload_n 0, 27), (27, .dup, 28), (28, .getfield 132, 31), (31, .iconst 1, 32), (32, .iadd, 33), (33, .putfield 132, 36), (36, .goto (-36), 39), (39, .aload_n 0, 40), (40, .aload_n 0, 41), (41, .getfield 132, 44), (44, .putfield 138, 47), (47, .aload_n 0, 48), (48, .aload_n 0, 49), (49, .getfield 132, 52), (52, .invokevirtual 135, 55), (55, .istore_n 1, 56), (56, .aload_n 0, 57), (57, .iconst 0, 58), (58, .putfield 141, 61), (61, .aload_n 0, 62), (62, .iconst 0, 63), (63, .putfield 144, 66), (66, .iload_n 1, 67), (67, .iconst (-1), 68), (68, .if_icmp .ne 11, 71), (71, .aload_n 0, 72), (72, .iconst 0, 73), (73, .putfield 147, 76), (76, .goto 113, 79), (79, .iload_n 1, 80), (80, .i2l, 81), (81, .ldc2_w 150, 84), (84, .ldc2_w 152, 87), (87, .invokestatic 99, 90), (90, .ifCond .eq 79, 93), (93, .aload_n 0, 94), (94, .iconst 2, 95), (95, .putfield 147, 98), (98, .aload_n 0, 99), (99, .aload_n 0, 100), (100, .getfield 132, 103), (103, .invokevirtual 135, 106), (106, .i2l, 107), (107, .ldc2_w 150, 110), (110, .ldc2_w 152, 113), (113, .invokestatic 99, 116), (116, .ifCond .eq 73, 119), (119, .aload_n 0, 120), (120, .getfield 132, 123), (123, .aload_n 0, 124), (124, .getfield 138, 127), (127, .isub, 128), (128, .bipush 6, 130), (130, .if_icmp .ge 26, 133), (133, .aload_n 0, 134), (134, .bipush 10, 136), (136, .aload_n 0, 137), (137, .getfield 141, 140), (140, .imul, 141), (141, .aload_n 0, 142), (142, .aload_n 0, 143), (143, .getfield 132, 146), (146, .invokevirtual 135, 149), (149, .iadd, 150), (150, .bipush 48, 152), (152, .isub, 153), (153, .putfield 141, 156), (156, .aload_n 0, 157), (157, .dup, 158), (158, .getfield 132, 161), (161, .iconst 1, 162), (162, .iadd, 163), (163, .putfield 132, 166), (166, .goto (-68), 169), (169, .aload_n 0, 170), (170, .iconst 3, 171), (171, .putfield 147, 174), (174, .aload_n 0, 175), (175, .iload_n 1, 176), (176, .putfield 144, 179), (179, .aload_n 0, 180), (180, .dup, 181), (181, .getfield 132, 184), (184, .iconst 1, 185), (185, .iadd, 186), (186, .putfield 132, 189), (189, .return_, 190)])
theorem okM_Mo_next : okM M_Mo_next := okM_of (by decide +kernel) cw_X12_next rfl rfl rfl rfl
def M_Mo_fails : eM := (RX12, yX12_fails, cX12_fails, 2, (some .boolean), { frames := 0, cells := 0, slots := 0, locals := 0 }, [(0, .aload_n 0, 1), (1, .getfield 154, 4), (4, .ifCond .ne 16, 7), (7, .aload_n 0, 8), (8, .iload_n 1, 9), (9, .putfield 154, 12), (12, .aload_n 0, 13), (13, .aload_n 0, 14), (14, .getfield 138, 17), (17, .putfield 157, 20), (20, .iconst 0, 21), (21, .ireturn, 22)])
theorem okM_Mo_fails : okM M_Mo_fails := okM_of (by decide +kernel) cw_X12_fails rfl rfl rfl rfl
def M_Mo_isNumber : eM := (RX12, yX12_isNumber, cX12_isNumber, 1, (some .boolean), { frames := 0, cells := 0, slots := 0, locals := 0 }, [(0, .aload_n 0, 1), (1, .getfield 147, 4), (4, .iconst 2, 5), (5, .if_icmp .ne 21, 8), (8, .aload_n 0, 9), (9, .getfield 132, 12), (12, .aload_n 0, 13), (13, .getfield 138, 16), (16, .isub, 17), (17, .bipush 6, 19), (19, .if_icmp .gt 7, 22), (22, .iconst 1, 23), (23, .goto 4, 26), (26, .iconst 0, 27), (27, .ireturn, 28)])
theorem okM_Mo_isNumber : okM M_Mo_isNumber := okM_of (by decide +kernel) cw_X12_isNumber rfl rfl rfl rfl
def M_Mo_readFraction : eM := (RX12, yX12_readFraction, cX12_readFraction, 3, (some .boolean), { frames := 2, cells := 0, slots := 0, locals := 46 }, [(0, .aload_n 0, 1), (1, .invokevirtual 160, 4), (4, .ifCond .ne 9, 7), (7, .aload_n 0, 8), (8, .iconst 1, 9), (9, .invokevirtual 164, 12), (12, .ireturn, 13), (13, .iload_n 1, 14), (14, .bipush 8, 16), (16, .if_icmp .ne 9, 19), (19, .aload_n 0, 20), (20, .iconst 3, 21), (21, .invokevirtual 164, 24), (24, .ireturn, 25), (25, .aload_n 0, 26), (26, .getfield 167, 29), (29, .ifCond .le 17, 32), (32, .iload_n 1, 33), (33, .aload_n 0, 34), (34, .getfield 170, 37), (37, .if_icmp .ne 9, 40), (40, .aload_n 0, 41), (41, .iconst 4, 42), (42, .invokevirtual 164, 45), (45, .ireturn, 46), (46, .bipush 8, 48), (48, .aload_n 0, 49), (49, .getfield 167, 52), (52, .imul, 53), (53, .iload_n 1, 54), (54, .iadd, 55), (55, .istore_n 2, 56), (56, .aload_n 0, 57), (57, .getfield 30, 60), (60, .iload_n 2, 61), (61, .aload_n 0, 62), (62, .getfield 141, 65), (65, .iastore, 66), (66, .aload_n 0, 67), (67, .getfield 33, 70), (70, .iload_n 2, 71), (71, .iconst 1, 72), (72, .iastore, 73), (73, .aload_n 0, 74), (74, .invokevirtual 173, 77), (77, .aload_n 0, 78), (78, .getfield 147, 81), (81, .iconst 3, 82), (82, .if_icmp .ne 12, 85), (85, .aload_n 0, 86), (86, .getfield 144, 89), (89, .bipush 47, 91), (91, .if_icmp .eq 5, 94), (94, .iconst 1, 95), (95, .ireturn, 96), (96, .aload_n 0, 97), (97, .invokevirtual 173, 100), (100, .aload_n 0, 101), (101, .invokevirtual 160, 104), (104, .ifCond .ne 9, 107), (107, .aload_n 0, 108), (108, .iconst 1, 109), (109, .invokevirtual 164, 112), (112, .ireturn, 113), (113, .aload_n 0, 114), (114, .getfield 141, 117), (117, .ifCond .ne 9, 120), (120, .aload_n 0, 121), (121, .iconst 2, 122), (122, .invokevirtual 164, 125), (125, .ireturn, 126), (126, .aload_n 0, 127), (127, .getfield 33, 130), (130, .iload_n 2, 131), (131, .aload_n 0, 132), (132, .getfield 141, 135), (135, .iastore, 136), (136, .aload_n 0, 137), (137, .invokevirtual 173, 140), (140, .iconst 1, 141), (141, .ireturn, 142)])
theorem okM_Mo_readFraction : okM M_Mo_readFraction := okM_of (by decide +kernel) cw_X12_readFraction rfl rfl rfl rfl
def M_Mo_readRow : eM := (RX12, yX12_readRow, cX12_readRow, 3, (some .boolean), { frames := 3, cells := 0, slots := 0, locals := 68 }, [(0, .aload_n 0, 1), (1, .invokevirtual 160, 4), (4, .ifCond .ne 20, 7), (7, .aload_n 0, 8), (8, .getfield 147, 11), (11, .iconst 3, 12), (12, .if_icmp .ne 16, 15), (15, .aload_n 0, 16), (16, .getfield 144, 19), (19, .bipush 59, 21), (21, .if_icmp .ne 7, 24), (24, .iconst 1, 25), (25, .goto 4, 28), (28, .iconst 0, 29), (29, .istore_n 1, 30), (30, .iload_n 1, 31), (31, .ifCond .ne 9, 34), (34, .aload_n 0, 35), (35, .iconst 1, 36), (36, .invokevirtual 164, 39), (39, .ireturn, 40), (40, .aload_n 0, 41), (41, .getfield 167, 44), (44, .bipush 8, 46), (46, .if_icmp .ne 9, 49), (49, .aload_n 0, 50), (50, .iconst 3, 51), (51, .invokevirtual 164, 54), (54, .ireturn, 55), (55, .iconst 0, 56), (56, .istore_n 2, 57), (57, .aload_n 0, 58), (58, .getfield 147, 61), (61, .iconst 3, 62), (62, .if_icmp .ne 12, 65), (65, .aload_n 0, 66), (66, .getfield 144, 69), (69, .bipush 59, 71), (71, .if_icmp .eq 19, 74), (74, .aload_n 0, 75), (75, .iload_n 2, 76), (76, .invokevirtual 176, 79), (79, .ifCond .ne 5, 82), (82, .iconst 0, 83), (83, .ireturn, 84), (84, .iinc 2 1, 87), (87, .goto (-30), 90), (90, .aload_n 0, 91), (91, .getfield 167, 94), (94, .ifCond .ne 11, 97), (97, .aload_n 0, 98), (98, .iload_n 2, 99), (99, .putfield 170, 102), (102, .goto 17, 105), (105, .iload_n 2, 106), (106, .aload_n 0, 107), (107, .getfield 170, 110), (110, .if_icmp .eq 9, 113), (113, .aload_n 0, 114), (114, .iconst 4, 115), (115, .invokevirtual 164, 118), (118, .ireturn, 119), (119, .aload_n 0, 120), (120, .invokevirtual 173, 123), (123, .aload_n 0, 124), (124, .dup, 125), (125, .getfield 167, 128), (128, .iconst 1, 129), (129, .iadd, 130), (130, .putfield 167, 133), (133, .iconst 1, 134), (134, .ireturn, 135)])
theorem okM_Mo_readRow : okM M_Mo_readRow := okM_of (by decide +kernel) cw_X12_readRow rfl rfl rfl rfl
def M_Mo_isOver : eM := (RX12, yX12_isOver, cX12_isOver, 7, (some .boolean), { frames := 2, cells := 0, slots := 0, locals := 54 }, [(0, .aload_n 0, 1), (1, .lconst 1, 2), (2, .putfield 85, 5), (5, .iconst 0, 6), (6, .istore_n 2, 7), (7, .iload_n 2, 8), (8, .aload_n 0, 9), (9, .getfield 167, 12), (12, .if_icmp .ge 126, 15), (15, .iconst 0, 16), (16, .istore_n 3, 17), (17, .iload_n 3, 18), (18, .aload_n 0, 19), (19, .getfield 167, 22), (22, .if_icmp .ge 110, 25), (25, .bipush 8, 27), (27, .iload_n 2, 28), (28, .imul, 29), (29, .iload_n 3, 30), (30, .iadd, 31), (31, .istore 4, 33), (33, .aload_n 0, 34), (34, .getfield 33, 37), (37, .iload 4, 39), (39, .iaload, 40), (40, .i2l, 41), (41, .aload_n 0, 42), (42, .getfield 30, 45), (45, .iload 4, 47), (47, .iaload, 48), (48, .i2l, 49), (49, .invokestatic 89, 52), (52, .lstore 5, 54), (54, .aload_n 0, 55), (55, .getfield 30, 58), (58, .iload 4, 60), (60, .dup2, 61), (61, .iaload, 62), (62, .lload 5, 64), (64, .l2i, 65), (65, .idiv, 66), (66, .iastore, 67), (67, .aload_n 0, 68), (68, .getfield 33, 71), (71, .iload 4, 73), (73, .dup2, 74), (74, .iaload, 75), (75, .lload 5, 77), (77, .l2i, 78), (78, .idiv, 79), (79, .iastore, 80), (80, .aload_n 0, 81), (81, .aload_n 0, 82), (82, .getfield 85, 85), (85, .aload_n 0, 86), (86, .getfield 85, 89), (89, .aload_n 0, 90), (90, .getfield 33, 93), (93, .iload 4, 95), (95, .iaload, 96), (96, .i2l, 97), (97, .invokestatic 89, 100), (100, .ldiv, 101), (101, .aload_n 0, 102), (102, .getfield 33, 105), (105, .iload 4, 107), (107, .iaload, 108), (108, .i2l, 109), (109, .lmul, 110), (110, .putfield 85, 113), (113, .aload_n 0, 114), (114, .getfield 85, 117), (117, .ldc2_w 93, 120), (120, .lcmp, 121), (121, .ifCond .le 5, 124), (124, .iconst 0, 125), (125, .ireturn, 126), (126, .iinc 3 1, 129), (129, .goto (-112), 132), (132, .iinc 2 1, 135), (135, .goto (-128), 138), (138, .iconst 0, 139), (139, .istore_n 2, 140), (140, .iload_n 2, 141), (141, .aload_n 0, 142), (142, .getfield 167, 145), (145, .if_icmp .ge 68, 148), (148, .iconst 0, 149), (149, .istore_n 3, 150), (150, .iload_n 3, 151), (151, .aload_n 0, 152), (152, .getfield 167, 155), (155, .if_icmp .ge 52, 158), (158, .aload_n 0, 159), (159, .getfield 19, 162), (162, .aload_n 0, 163), (163, .getfield 167, 166), (166, .iload_n 2, 167), (167, .imul, 168), (168, .iload_n 3, 169), (169, .iadd, 170), (170, .aload_n 0, 171), (171, .getfield 30, 174), (174, .bipush 8, 176), (176, .iload_n 2, 177), (177, .imul, 178), (178, .iload_n 3, 179), (179, .iadd, 180), (180, .iaload, 181), (181, .i2l, 182), (182, .aload_n 0, 183), (183, .getfield 85, 186), (186, .aload_n 0, 187), (187, .getfield 33, 190), (190, .bipush 8, 192), (192, .iload_n 2, 193), (193, .imul, 194), (194, .iload_n 3, 195), (195, .iadd, 196), (196, .iaload, 197), (197, .i2l, 198), (198, .ldiv, 199), (199, .lmul, 200), (200, .lastore, 201), (201, .iinc 3 1, 204), (204, .goto (-54), 207), (207, .iinc 2 1, 210), (210, .goto (-70), 213), (213, .aload_n 0, 214), (214, .iload_n 1, 215), (215, .aload_n 0, 216), (216, .getfield 167, 219), (219, .invokevirtual 179, 222), (222, .ireturn, 223)])
theorem okM_Mo_isOver : okM M_Mo_isOver := okM_of (by decide +kernel) cw_X12_isOver rfl rfl rfl rfl
def M_Mo_table : eM := (RX12, yX12_table, cX12_table, 4, (some .int), { frames := 4, cells := 0, slots := 0, locals := 90 }, [(0, .aload_n 0, 1), (1, .iconst 0, 2), (2, .putfield 167, 5), (5, .aload_n 0, 6), (6, .iconst 0, 7), (7, .putfield 170, 10), (10, .aload_n 0, 11), (11, .iconst 0, 12), (12, .putfield 132, 15), (15, .aload_n 0, 16), (16, .iconst 0, 17), (17, .putfield 154, 20), (20, .aload_n 0, 21), (21, .iconst (-1), 22), (22, .putfield 157, 25), (25, .aload_n 0, 26), (26, .invokevirtual 173, 29), (29, .iload_n 1, 30), (30, .invokestatic 103, 33), (33, .istore_n 2, 34), (34, .iload_n 2, 35), (35, .ifCond .eq 14, 38), (38, .aload_n 0, 39), (39, .getfield 147, 42), (42, .ifCond .eq 7, 45), (45, .iconst 1, 46), (46, .goto 4, 49), (49, .iconst 0, 50), (50, .istore_n 3, 51), (51, .iload_n 3, 52), (52, .ifCond .eq 26, 55), (55, .aload_n 0, 56), (56, .invokevirtual 183, 59), (59, .ifCond .eq 14, 62), (62, .aload_n 0, 63), (63, .getfield 147, 66), (66, .ifCond .eq 7, 69), (69, .iconst 1, 70), (70, .goto 4, 73), (73, .iconst 0, 74), (74, .istore_n 3, 75), (75, .goto (-24), 78), (78, .iload_n 2, 79), (79, .ifCond .eq 27, 82), (82, .aload_n 0, 83), (83, .getfield 154, 86), (86, .ifCond .ne 20, 89), (89, .aload_n 0, 90), (90, .getfield 167, 93), (93, .aload_n 0, 94), (94, .getfield 170, 97), (97, .if_icmp .eq 9, 100), (100, .aload_n 0, 101), (101, .iconst 5, 102), (102, .invokevirtual 164, 105), (105, .pop, 106), (106, .iload_n 2, 107), (107, .ifCond .eq 25, 110), (110, .aload_n 0, 111), (111, .getfield 154, 114), (114, .ifCond .ne 18, 117), (117, .aload_n 0, 118), (118, .iload_n 1, 119), (119, .invokevirtual 186, 122), (122, .ifCond .ne 10, 125), (125, .aload_n 0, 126), (126, .bipush 6, 128), (128, .invokevirtual 164, 131), (131, .pop, 132), (132, .aload_n 0, 133), (133, .iconst 0, 134), (134, .putfield 125, 137), (137, .aload_n 0, 138), (138, .aload_n 0, 139), (139, .getfield 154, 142), (142, .putfield 189, 145), (145, .aload_n 0, 146), (146, .aload_n 0, 147), (147, .getfield 157, 150), (150, .putfield 26, 153), (153, .iload_n 2, 154), (154, .ifCond .ne 8, 157), (157, .bipush (-2), 159), (159, .goto 18, 162), (162, .aload_n 0, 163), (163, .getfield 154, 166), (166, .ifCond .eq 7, 169), (169, .iconst (-1), 170), (170, .goto 7, 173), (173, .aload_n 0, 174), (174, .getfield 167, 177), (177, .ireturn, 178)])
theorem okM_Mo_table : okM M_Mo_table := okM_of (by decide +kernel) cw_X12_table rfl rfl rfl rfl
def M_Mo_fault : eM := (RX12, yX12_fault, cX12_fault, 2, (some .int), { frames := 0, cells := 0, slots := 0, locals := 0 }, [(0, .iload_n 1, 1), (1, .ifCond .ne 10, 4), (4, .aload_n 0, 5), (5, .getfield 189, 8), (8, .goto 16, 11), (11, .iload_n 1, 12), (12, .iconst 1, 13), (13, .if_icmp .ne 10, 16), (16, .aload_n 0, 17), (17, .getfield 26, 20), (20, .goto 4, 23), (23, .iconst (-1), 24), (24, .ireturn, 25)])
theorem okM_Mo_fault : okM M_Mo_fault := okM_of (by decide +kernel) cw_X12_fault rfl rfl rfl rfl
def M_Mo_groupsOf : eM := (RX12, yX12_groupsOf, cX12_groupsOf, 7, (some .int), { frames := 1, cells := 0, slots := 0, locals := 23 }, [(0, .aload_n 0, 1), (1, .getfield 7, 4), (4, .iload_n 1, 5), (5, .iaload, 6), (6, .istore_n 2, 7), (7, .iconst 0, 8), (8, .istore_n 3, 9), (9, .iload_n 3, 10), (10, .bipush 16, 12), (12, .if_icmp .ge 16, 15), (15, .aload_n 0, 16), (16, .getfield 36, 19), (19, .iload_n 3, 20), (20, .iload_n 3, 21), (21, .iastore, 22), (22, .iinc 3 1, 25), (25, .goto (-16), 28), (28, .iconst 0, 29), (29, .istore_n 3, 30), (30, .iload_n 3, 31), (31, .iload_n 2, 32), (32, .if_icmp .ge 102, 35), (35, .iconst 0, 36), (36, .istore 4, 38), (38, .iload 4, 40), (40, .iload_n 2, 41), (41, .if_icmp .ge 87, 44), (44, .aload_n 0, 45), (45, .getfield 36, 48), (48, .bipush 8, 50), (50, .iload 4, 52), (52, .iadd, 53), (53, .iaload, 54), (54, .istore 5, 56), (56, .aload_n 0, 57), (57, .iload_n 1, 58), (58, .iload_n 3, 59), (59, .iload 4, 61), (61, .invokevirtual 107, 64), (64, .ifCond .eq 58, 67), (67, .iload 5, 69), (69, .aload_n 0, 70), (70, .getfield 36, 73), (73, .iload_n 3, 74), (74, .iaload, 75), (75, .if_icmp .ne 6, 78), (78, .goto 44, 81), (81, .iconst 0, 82), (82, .istore 6, 84), (84, .iload 6, 86), (86, .bipush 16, 88), (88, .if_icmp .ge 34, 91), (91, .aload_n 0, 92), (92, .getfield 36, 95), (95, .iload 6, 97), (97, .iaload, 98), (98, .iload 5, 100), (100, .if_icmp .ne 16, 103), (103, .aload_n 0, 104), (104, .getfield 36, 107), (107, .iload 6, 109), (109, .aload_n 0, 110), (110, .getfield 36, 113), (113, .iload_n 3, 114), (114, .iaload, 115), (115, .iastore, 116), (116, .iinc 6 1, 119), (119, .goto (-35), 122), (122, .iinc 4 1, 125), (125, .goto (-87), 128), (128, .iinc 3 1, 131), (131, .goto (-101), 134), (134, .iconst 0, 135), (135, .istore_n 3, 136), (136, .iconst 0, 137), (137, .istore 4, 139), (139, .iload 4, 141), (141, .iload_n 2, 142), (142, .if_icmp .ge 59, 145), (145, .iload_n 3, 146), (146, .aload_n 0, 147), (147, .getfield 36, 150), (150, .iload 4, 152), (152, .iaload, 153), (153, .iload 4, 155), (155, .if_icmp .ne 7, 158), (158, .iconst 1, 159), (159, .goto 4, 162), (162, .iconst 0, 163), (163, .invokestatic 192, 166), (166, .aload_n 0, 167), (167, .getfield 36, 170), (170, .bipush 8, 172), (172, .iload 4, 174), (174, .iadd, 175), (175, .iaload, 176), (176, .bipush 8, 178), (178, .iload 4, 180), (180, .iadd, 181), (181, .if_icmp .ne 7, 184), (184, .iconst 1, 185), (185, .goto 4, 188), (188, .iconst 0, 189), (189, .invokestatic 192, 192), (192, .iadd, 193), (193, .iadd, 194), (194, .istore_n 3, 195), (195, .iinc 4 1, 198), (198, .goto (-59), 201), (201, .iload_n 3, 202), (202, .ireturn, 203)])
theorem okM_Mo_groupsOf : okM M_Mo_groupsOf := okM_of (by decide +kernel) cw_X12_groupsOf rfl rfl rfl rfl
def M_Mo_aboveNought : eM := (RX12, yX12_aboveNought, cX12_aboveNought, 4, (some .int), { frames := 1, cells := 0, slots := 0, locals := 20 }, [(0, .iconst 0, 1), (1, .istore_n 2, 2), (2, .iconst 0, 3), (3, .istore_n 3, 4), (4, .iload_n 3, 5), (5, .aload_n 0, 6), (6, .getfield 7, 9), (9, .iload_n 1, 10), (10, .iaload, 11), (11, .aload_n 0, 12), (12, .getfield 7, 15), (15, .iload_n 1, 16), (16, .iaload, 17), (17, .imul, 18), (18, .if_icmp .ge 34, 21), (21, .iload_n 2, 22), (22, .aload_n 0, 23), (23, .getfield 16, 26), (26, .bipush 64, 28), (28, .iload_n 1, 29), (29, .imul, 30), (30, .iload_n 3, 31), (31, .iadd, 32), (32, .iaload, 33), (33, .ifCond .le 7, 36), (36, .iconst 1, 37), (37, .goto 4, 40), (40, .iconst 0, 41), (41, .invokestatic 192, 44), (44, .iadd, 45), (45, .istore_n 2, 46), (46, .iinc 3 1, 49), (49, .goto (-45), 52), (52, .iload_n 2, 53), (53, .ireturn, 54)])
theorem okM_Mo_aboveNought : okM M_Mo_aboveNought := okM_of (by decide +kernel) cw_X12_aboveNought rfl rfl rfl rfl
def M_Mo_look : eM := (RX12, yX12_look, cX12_look, 5, (some .int), { frames := 5, cells := 0, slots := 0, locals := 109 }, [(0, .iload_n 1, 1), (1, .invokestatic 103, 4), (4, .ifCond .ne 6, 7), (7, .bipush (-2), 9), (9, .ireturn, 10), (10, .iconst 0, 11), (11, .istore_n 3, 12), (12, .iconst 0, 13), (13, .istore 4, 15), (15, .iload 4, 17), (17, .aload_n 0, 18), (18, .getfield 7, 21), (21, .iload_n 1, 22), (22, .iaload, 23), (23, .aload_n 0, 24), (24, .getfield 7, 27), (27, .iload_n 1, 28), (28, .iaload, 29), (29, .imul, 30), (30, .if_icmp .ge 26, 33), (33, .iload_n 3, 34), (34, .aload_n 0, 35), (35, .getfield 16, 38), (38, .bipush 64, 40), (40, .iload_n 1, 41), (41, .imul, 42), (42, .iload 4, 44), (44, .iadd, 45), (45, .iaload, 46), (46, .invokestatic 196, 49), (49, .istore_n 3, 50), (50, .iinc 4 1, 53), (53, .goto (-38), 56), (56, .iload_n 2, 57), (57, .tableswitch 87 0 5 #[39, 46, 53, 73, 79, 81], 96), (96, .aload_n 0, 97), (97, .getfield 7, 100), (100, .iload_n 1, 101), (101, .iaload, 102), (102, .ireturn, 103), (103, .aload_n 0, 104), (104, .getfield 13, 107), (107, .iload_n 1, 108), (108, .iaload, 109), (109, .ireturn, 110), (110, .aload_n 0, 111), (111, .iload_n 1, 112), (112, .invokevirtual 202, 115), (115, .ifCond .eq 13, 118), (118, .aload_n 0, 119), (119, .iload_n 1, 120), (120, .iconst 0, 121), (121, .invokevirtual 114, 124), (124, .l2i, 125), (125, .goto 4, 128), (128, .iconst (-1), 129), (129, .ireturn, 130), (130, .aload_n 0, 131), (131, .iload_n 1, 132), (132, .invokevirtual 205, 135), (135, .ireturn, 136), (136, .iload_n 3, 137), (137, .ireturn, 138), (138, .aload_n 0, 139), (139, .iload_n 1, 140), (140, .invokevirtual 208, 143), (143, .ireturn, 144), (144, .bipush (-2), 146), (146, .ireturn, 147)])
theorem okM_Mo_look : okM M_Mo_look := okM_of (by decide +kernel) cw_X12_look rfl rfl rfl rfl
def M_Mo_isCell : eM := (RX12, yX12_isCell, cX12_isCell, 4, (some .boolean), { frames := 3, cells := 0, slots := 0, locals := 66 }, [(0, .aload_n 0, 1), (1, .iload_n 1, 2), (2, .invokevirtual 111, 5), (5, .ifCond .eq 43, 8), (8, .iload_n 2, 9), (9, .i2l, 10), (10, .lconst 0, 11), (11, .aload_n 0, 12), (12, .getfield 7, 15), (15, .iload_n 1, 16), (16, .iaload, 17), (17, .iconst 1, 18), (18, .isub, 19), (19, .i2l, 20), (20, .invokestatic 99, 23), (23, .ifCond .eq 25, 26), (26, .iload_n 3, 27), (27, .i2l, 28), (28, .lconst 0, 29), (29, .aload_n 0, 30), (30, .getfield 7, 33), (33, .iload_n 1, 34), (34, .iaload, 35), (35, .iconst 1, 36), (36, .isub, 37), (37, .i2l, 38), (38, .invokestatic 99, 41), (41, .ifCond .eq 7, 44), (44, .iconst 1, 45), (45, .goto 4, 48), (48, .iconst 0, 49), (49, .ireturn, 50)])
theorem okM_Mo_isCell : okM M_Mo_isCell := okM_of (by decide +kernel) cw_X12_isCell rfl rfl rfl rfl
def M_Mo_cell : eM := (RX12, yX12_cell, cX12_cell, 4, (some .int), { frames := 4, cells := 0, slots := 0, locals := 89 }, [(0, .aload_n 0, 1), (1, .iload_n 1, 2), (2, .iload_n 2, 3), (3, .iload_n 3, 4), (4, .invokevirtual 211, 7), (7, .ifCond .eq 13, 10), (10, .aload_n 0, 11), (11, .iload_n 1, 12), (12, .iload_n 2, 13), (13, .iload_n 3, 14), (14, .invokevirtual 107, 17), (17, .goto 4, 20), (20, .iconst (-1), 21), (21, .ireturn, 22)])
theorem okM_Mo_cell : okM M_Mo_cell := okM_of (by decide +kernel) cw_X12_cell rfl rfl rfl rfl
def M_Mo_isPart : eM := (RX12, yX12_isPart, cX12_isPart, 2, (some .boolean), { frames := 1, cells := 0, slots := 0, locals := 25 }, [(0, .iload_n 0, 1), (1, .i2l, 2), (2, .lconst 0, 3), (3, .ldc2_w 215, 6), (6, .invokestatic 99, 9), (9, .ifCond .eq 19, 12), (12, .iload_n 1, 13), (13, .i2l, 14), (14, .lconst 1, 15), (15, .ldc2_w 215, 18), (18, .invokestatic 99, 21), (21, .ifCond .eq 7, 24), (24, .iconst 1, 25), (25, .goto 4, 28), (28, .iconst 0, 29), (29, .ireturn, 30)])
theorem okM_Mo_isPart : okM M_Mo_isPart := okM_of (by decide +kernel) cw_X12_isPart rfl rfl rfl rfl
def M_Mo_grown : eM := (RX12, yX12_grown, cX12_grown, 4, (some .long), { frames := 0, cells := 0, slots := 0, locals := 0 }, [(0, .lload_n 2, 1), (1, .lconst 0, 2), (2, .lcmp, 3), (3, .ifCond .le 19, 6), (6, .lload_n 0, 7), (7, .ldc2_w 217, 10), (10, .lload_n 2, 11), (11, .ldiv, 12), (12, .lcmp, 13), (13, .ifCond .le 9, 16), (16, .ldc2_w 219, 19), (19, .goto 6, 22), (22, .lload_n 0, 23), (23, .lload_n 2, 24), (24, .lmul, 25), (25, .lreturn, 26)])
theorem okM_Mo_grown : okM M_Mo_grown := okM_of (by decide +kernel) cw_X12_grown rfl rfl rfl rfl
def M_Mo_mix : eM := (RX12, yX12_mix, cX12_mix, 20, (some .boolean), { frames := 3, cells := 0, slots := 0, locals := 66 }, [(0, .aload_n 0, 1), (1, .iload_n 1, 2), (2, .invokevirtual 111, 5), (5, .ifCond .eq 54, 8), (8, .aload_n 0, 9), (9, .iload 4, 11), (11, .invokevirtual 111, 14), (14, .ifCond .eq 45, 17), (17, .iload 7, 19), (19, .invokestatic 103, 22), (22, .ifCond .eq 37, 25), (25, .aload_n 0, 26), (26, .getfield 7, 29), (29, .iload_n 1, 30), (30, .iaload, 31), (31, .aload_n 0, 32), (32, .getfield 7, 35), (35, .iload 4, 37), (37, .iaload, 38), (38, .if_icmp .ne 21, 41), (41, .iload_n 2, 42), (42, .iload_n 3, 43), (43, .invokestatic 221, 46), (46, .ifCond .eq 13, 49), (49, .iload 5, 51), (51, .iload 6, 53), (53, .invokestatic 221, 56), (56, .ifCond .ne 5, 59), (59, .iconst 0, 60), (60, .ireturn, 61), (61, .iload_n 3, 62), (62, .i2l, 63), (63, .aload_n 0, 64), (64, .getfield 13, 67), (67, .iload_n 1, 68), (68, .iaload, 69), (69, .i2l, 70), (70, .lmul, 71), (71, .lstore 8, 73), (73, .iload 6, 75), (75, .i2l, 76), (76, .aload_n 0, 77), (77, .getfield 13, 80), (80, .iload 4, 82), (82, .iaload, 83), (83, .i2l, 84), (84, .lmul, 85), (85, .lstore 10, 87), (87, .lload 8, 89), (89, .ldc2_w 224, 92), (92, .lcmp, 93), (93, .ifCond .gt 12, 96), (96, .lload 10, 98), (98, .ldc2_w 224, 101), (101, .lcmp, 102), (102, .ifCond .le 5, 105), (105, .iconst 0, 106), (106, .ireturn, 107), (107, .lload 8, 109), (109, .lload 8, 111), (111, .lload 10, 113), (113, .invokestatic 89, 116), (116, .ldiv, 117), (117, .lload 10, 119), (119, .lmul, 120), (120, .lstore 12, 122), (122, .lload 12, 124), (124, .ldc2_w 224, 127), (127, .lcmp, 128), (128, .ifCond .le 5, 131), (131, .iconst 0, 132), (132, .ireturn, 133), (133, .aload_n 0, 134), (134, .getfield 7, 137), (137, .iload_n 1, 138), (138, .iaload, 139), (139, .istore 14, 141), (141, .iconst 0, 142), (142, .istore 15, 144), (144, .iload 15, 146), (146, .iload 14, 148), (148, .iload 14, 150), (150, .imul, 151), (151, .if_icmp .ge 103, 154), (154, .iload_n 2, 155), (155, .i2l, 156), (156, .lload 12, 158), (158, .lload 8, 160), (160, .ldiv, 161), (161, .lmul, 162), (162, .aload_n 0, 163), (163, .getfield 16, 166), (166, .bipush 64, 168), (168, .iload_n 1, 169), (169, .imul, 170), (170, .iload 15, 172), (172, .iadd, 173), (173, .iaload, 174), (174, .i2l, 175), (175, .invokestatic 226, 178), (178, .lstore 16, 180), (180, .iload 5, 182), (182, .i2l, 183), (183, .lload 12, 185), (185, .lload 10, 187), (187, .ldiv, 188), (188, .lmul, 189), (189, .aload_n 0, 190), (190, .getfield 16, 193), (193, .bipush 64, 195), (195, .iload 4, 197), (197, .imul, 198), (198, .iload 15, 200), (200, .iadd, 201), (201, .iaload, 202), (202, .i2l, 203), (203, .invokestatic 226, 206), (206, .lstore 18, 208), (208, .lload 16, 210), (210, .lconst 0, 211), (211, .lcmp, 212), (212, .ifCond .lt 22, 215), (215, .lload 18, 217), (217, .lconst 0, 218), (218, .lcmp, 219), (219, .ifCond .lt 15, 222), (222, .lload 16, 224), (224, .lload 18, 226), (226, .ladd, 227), (227, .ldc2_w 217, 230), (230, .lcmp, 231), (231, .ifCond .le 5, 234), (234, .iconst 0, 235), (235, .ireturn, 236), (236, .aload_n 0, 237), (237, .getfield 19, 240), (240, .iload 15, 242), (242, .lload 16, 244), (244, .lload 18, 246), (246, .ladd, 247), (247, .lastore, 248), (248, .iinc 15 1, 251), (251, .goto (-107), 254), (254, .aload_n 0, 255), (255, .lload 12, 257), (257, .putfield 85, 260), (260, .aload_n 0, 261), (261, .iload 7, 263), (263, .iload 14, 265), (265, .invokevirtual 179, 268), (268, .ireturn, 269)])
theorem okM_Mo_mix : okM M_Mo_mix := okM_of (by decide +kernel) cw_X12_mix rfl rfl rfl rfl
def M_Mo_times : eM := (RX12, yX12_times, cX12_times, 10, (some .boolean), { frames := 3, cells := 0, slots := 0, locals := 66 }, [(0, .aload_n 0, 1), (1, .iload_n 1, 2), (2, .invokevirtual 111, 5), (5, .ifCond .eq 33, 8), (8, .aload_n 0, 9), (9, .iload_n 2, 10), (10, .invokevirtual 111, 13), (13, .ifCond .eq 25, 16), (16, .iload_n 3, 17), (17, .invokestatic 103, 20), (20, .ifCond .eq 18, 23), (23, .aload_n 0, 24), (24, .getfield 7, 27), (27, .iload_n 1, 28), (28, .iaload, 29), (29, .aload_n 0, 30), (30, .getfield 7, 33), (33, .iload_n 2, 34), (34, .iaload, 35), (35, .if_icmp .eq 5, 38), (38, .iconst 0, 39), (39, .ireturn, 40), (40, .aload_n 0, 41), (41, .getfield 7, 44), (44, .iload_n 1, 45), (45, .iaload, 46), (46, .istore 4, 48), (48, .iconst 0, 49), (49, .istore 5, 51), (51, .iload 5, 53), (53, .iload 4, 55), (55, .if_icmp .ge 85, 58), (58, .iconst 0, 59), (59, .istore 6, 61), (61, .iload 6, 63), (63, .iload 4, 65), (65, .if_icmp .ge 69, 68), (68, .lconst 0, 69), (69, .lstore 7, 71), (71, .iconst 0, 72), (72, .istore 9, 74), (74, .iload 9, 76), (76, .iload 4, 78), (78, .if_icmp .ge 35, 81), (81, .lload 7, 83), (83, .aload_n 0, 84), (84, .iload_n 1, 85), (85, .iload 5, 87), (87, .iload 9, 89), (89, .invokevirtual 107, 92), (92, .i2l, 93), (93, .aload_n 0, 94), (94, .iload_n 2, 95), (95, .iload 9, 97), (97, .iload 6, 99), (99, .invokevirtual 107, 102), (102, .i2l, 103), (103, .lmul, 104), (104, .ladd, 105), (105, .lstore 7, 107), (107, .iinc 9 1, 110), (110, .goto (-36), 113), (113, .aload_n 0, 114), (114, .getfield 19, 117), (117, .iload 4, 119), (119, .iload 5, 121), (121, .imul, 122), (122, .iload 6, 124), (124, .iadd, 125), (125, .lload 7, 127), (127, .lastore, 128), (128, .iinc 6 1, 131), (131, .goto (-70), 134), (134, .iinc 5 1, 137), (137, .goto (-86), 140), (140, .aload_n 0, 141), (141, .aload_n 0, 142), (142, .getfield 13, 145), (145, .iload_n 1, 146), (146, .iaload, 147), (147, .i2l, 148), (148, .aload_n 0, 149), (149, .getfield 13, 152), (152, .iload_n 2, 153), (153, .iaload, 154), (154, .i2l, 155), (155, .lmul, 156), (156, .putfield 85, 159), (159, .aload_n 0, 160), (160, .iload_n 3, 161), (161, .iload 4, 163), (163, .invokevirtual 179, 166), (166, .ireturn, 167)])
theorem okM_Mo_times : okM M_Mo_times := okM_of (by decide +kernel) cw_X12_times rfl rfl rfl rfl
def M_Mo_behind : eM := (RX12, yX12_behind, cX12_behind, 3, (some .int), { frames := 0, cells := 0, slots := 0, locals := 0 }, [(0, .iload_n 0, 1), (1, .iload_n 1, 2), (2, .if_icmp .ge 7, 5), (5, .iload_n 0, 6), (6, .goto 17, 9), (9, .iload_n 0, 10), (10, .iload_n 1, 11), (11, .if_icmp .ne 9, 14), (14, .iload_n 2, 15), (15, .iconst 1, 16), (16, .isub, 17), (17, .goto 6, 20), (20, .iload_n 0, 21), (21, .iconst 1, 22), (22, .isub, 23), (23, .ireturn, 24)])
theorem okM_Mo_behind : okM M_Mo_behind := okM_of (by decide +kernel) cw_X12_behind rfl rfl rfl rfl
def M_Mo_turn : eM := (RX12, yX12_turn, cX12_turn, 10, (some .boolean), { frames := 3, cells := 0, slots := 0, locals := 66 }, [(0, .aload_n 0, 1), (1, .iload_n 1, 2), (2, .invokevirtual 111, 5), (5, .ifCond .eq 46, 8), (8, .iload 4, 10), (10, .invokestatic 103, 13), (13, .ifCond .eq 38, 16), (16, .iload_n 2, 17), (17, .i2l, 18), (18, .lconst 0, 19), (19, .ldc2_w 229, 22), (22, .invokestatic 99, 25), (25, .ifCond .eq 26, 28), (28, .iload_n 2, 29), (29, .iconst 3, 30), (30, .if_icmp .le 23, 33), (33, .iload_n 3, 34), (34, .i2l, 35), (35, .lconst 0, 36), (36, .aload_n 0, 37), (37, .getfield 7, 40), (40, .iload_n 1, 41), (41, .iaload, 42), (42, .iconst 1, 43), (43, .isub, 44), (44, .i2l, 45), (45, .invokestatic 99, 48), (48, .ifCond .ne 5, 51), (51, .iconst 0, 52), (52, .ireturn, 53), (53, .aload_n 0, 54), (54, .getfield 7, 57), (57, .iload_n 1, 58), (58, .iaload, 59), (59, .istore 5, 61), (61, .iconst 0, 62), (62, .istore 6, 64), (64, .iload 6, 66), (66, .iload 5, 68), (68, .if_icmp .ge 138, 71), (71, .iconst 0, 72), (72, .istore 7, 74), (74, .iload 7, 76), (76, .iload 5, 78), (78, .if_icmp .ge 122, 81), (81, .iload_n 2, 82), (82, .iconst 1, 83), (83, .if_icmp .ne 8, 86), (86, .iload 7, 88), (88, .goto 36, 91), (91, .iload_n 2, 92), (92, .iconst 2, 93), (93, .if_icmp .ne 13, 96), (96, .iload 5, 98), (98, .iconst 1, 99), (99, .isub, 100), (100, .iload 6, 102), (102, .isub, 103), (103, .goto 21, 106), (106, .iload_n 2, 107), (107, .iconst 4, 108), (108, .if_icmp .ne 14, 111), (111, .iload 6, 113), (113, .iload_n 3, 114), (114, .iload 5, 116), (116, .invokestatic 231, 119), (119, .goto 5, 122), (122, .iload 6, 124), (124, .istore 8, 126), (126, .iload_n 2, 127), (127, .iconst 1, 128), (128, .if_icmp .ne 8, 131), (131, .iload 6, 133), (133, .goto 36, 136), (136, .iload_n 2, 137), (137, .iconst 3, 138), (138, .if_icmp .ne 13, 141), (141, .iload 5, 143), (143, .iconst 1, 144), (144, .isub, 145), (145, .iload 7, 147), (147, .isub, 148), (148, .goto 21, 151), (151, .iload_n 2, 152), (152, .iconst 5, 153), (153, .if_icmp .ne 14, 156), (156, .iload 7, 158), (158, .iload_n 3, 159), (159, .iload 5, 161), (161, .invokestatic 231, 164), (164, .goto 5, 167), (167, .iload 7, 169), (169, .istore 9, 171), (171, .aload_n 0, 172), (172, .getfield 19, 175), (175, .iload 5, 177), (177, .iload 8, 179), (179, .imul, 180), (180, .iload 9, 182), (182, .iadd, 183), (183, .aload_n 0, 184), (184, .iload_n 1, 185), (185, .iload 6, 187), (187, .iload 7, 189), (189, .invokevirtual 107, 192), (192, .i2l, 193), (193, .lastore, 194), (194, .iinc 7 1, 197), (197, .goto (-123), 200), (200, .iinc 6 1, 203), (203, .goto (-139), 206), (206, .aload_n 0, 207), (207, .aload_n 0, 208), (208, .getfield 13, 211), (211, .iload_n 1, 212), (212, .iaload, 213), (213, .i2l, 214), (214, .putfield 85, 217), (217, .aload_n 0, 218), (218, .iload 4, 220), (220, .iload 5, 222), (222, .invokevirtual 179, 225), (225, .ireturn, 226)])
theorem okM_Mo_turn : okM M_Mo_turn := okM_of (by decide +kernel) cw_X12_turn rfl rfl rfl rfl
def M_Mo_bits : eM := (RX12, yX12_bits, cX12_bits, 3, (some .int), { frames := 0, cells := 0, slots := 0, locals := 0 }, [(0, .iconst 0, 1), (1, .istore_n 1, 2), (2, .iload_n 0, 3), (3, .istore_n 2, 4), (4, .iload_n 2, 5), (5, .ifCond .le 16, 8), (8, .iload_n 1, 9), (9, .iload_n 2, 10), (10, .iconst 2, 11), (11, .irem, 12), (12, .iadd, 13), (13, .istore_n 1, 14), (14, .iload_n 2, 15), (15, .iconst 2, 16), (16, .idiv, 17), (17, .istore_n 2, 18), (18, .goto (-14), 21), (21, .iload_n 1, 22), (22, .ireturn, 23)])
theorem okM_Mo_bits : okM M_Mo_bits := okM_of (by decide +kernel) cw_X12_bits rfl rfl rfl rfl
def M_Mo_worked : eM := (RX12, yX12_worked, cX12_worked, 3, (some .int), { frames := 0, cells := 0, slots := 0, locals := 0 }, [(0, .aload_n 0, 1), (1, .getfield 39, 4), (4, .aload_n 0, 5), (5, .getfield 234, 8), (8, .iload_n 1, 9), (9, .imul, 10), (10, .iload_n 2, 11), (11, .iadd, 12), (12, .iaload, 13), (13, .ireturn, 14)])
theorem okM_Mo_worked : okM M_Mo_worked := okM_of (by decide +kernel) cw_X12_worked rfl rfl rfl rfl
def M_Mo_worksOn : eM := (RX12, yX12_worksOn, cX12_worksOn, 3, none, { frames := 0, cells := 0, slots := 0, locals := 0 }, [(0, .aload_n 0, 1), (1, .aload_n 0, 2), (2, .getfield 7, 5), (5, .iload_n 1, 6), (6, .iaload, 7), (7, .putfield 234, 10), (10, .iconst 0, 11), (11, .istore_n 2, 12), (12, .iload_n 2, 13), (13, .aload_n 0, 14), (14, .getfield 234, 17), (17, .aload_n 0, 18), (18, .getfield 234, 21), (21, .imul, 22), (22, .if_icmp .ge 26, 25), (25, .aload_n 0, 26), (26, .getfield 39, 29), (29, .iload_n 2, 30), (30, .aload_n 0, 31), (31, .getfield 16, 34), (34, .bipush 64, 36), (36, .iload_n 1, 37), (37, .imul, 38), (38, .iload_n 2, 39), (39, .iadd, 40), (40, .iaload, 41), (41, .iastore, 42), (42, .iinc 2 1, 45), (45, .goto (-33), 48), (48, .return_, 49)])
theorem okM_Mo_worksOn : okM M_Mo_worksOn := okM_of (by decide +kernel) cw_X12_worksOn rfl rfl rfl rfl
def M_Mo_laysCan : eM := (RX12, yX12_laysCan, cX12_laysCan, 9, none, { frames := 1, cells := 0, slots := 0, locals := 23 }, [(0, .iconst 1, 1), (1, .aload_n 0, 2), (2, .getfield 234, 5), (5, .ishl, 6), (6, .iconst 1, 7), (7, .isub, 8), (8, .istore_n 3, 9), (9, .aload_n 0, 10), (10, .getfield 42, 13), (13, .iload_n 3, 14), (14, .iload_n 2, 15), (15, .ifCond .eq 7, 18), (18, .lconst 0, 19), (19, .goto 6, 22), (22, .ldc2_w 239, 25), (25, .lastore, 26), (26, .iload_n 3, 27), (27, .iconst 1, 28), (28, .isub, 29), (29, .istore 4, 31), (31, .iload 4, 33), (33, .ifCond .lt 161, 36), (36, .iload 4, 38), (38, .invokestatic 241, 41), (41, .istore 5, 43), (43, .aload_n 0, 44), (44, .getfield 42, 47), (47, .iload 4, 49), (49, .ldc2_w 219, 52), (52, .lastore, 53), (53, .iconst 0, 54), (54, .istore 6, 56), (56, .iload 6, 58), (58, .aload_n 0, 59), (59, .getfield 234, 62), (62, .if_icmp .ge 126, 65), (65, .iload 4, 67), (67, .iload 6, 69), (69, .ishr, 70), (70, .iconst 1, 71), (71, .iand, 72), (72, .iconst 1, 73), (73, .if_icmp .eq 109, 76), (76, .aload_n 0, 77), (77, .iload 5, 79), (79, .iload 6, 81), (81, .invokevirtual 244, 84), (84, .iload_n 1, 85), (85, .if_icmp .lt 97, 88), (88, .aload_n 0, 89), (89, .getfield 42, 92), (92, .iload 4, 94), (94, .iconst 1, 95), (95, .iload 6, 97), (97, .ishl, 98), (98, .ior, 99), (99, .laload, 100), (100, .lconst 0, 101), (101, .lcmp, 102), (102, .ifCond .ge 6, 105), (105, .goto 77, 108), (108, .iload_n 2, 109), (109, .ifCond .eq 28, 112), (112, .aload_n 0, 113), (113, .iload 5, 115), (115, .iload 6, 117), (117, .invokevirtual 244, 120), (120, .i2l, 121), (121, .aload_n 0, 122), (122, .getfield 42, 125), (125, .iload 4, 127), (127, .iconst 1, 128), (128, .iload 6, 130), (130, .ishl, 131), (131, .ior, 132), (132, .laload, 133), (133, .ladd, 134), (134, .goto 27, 137), (137, .aload_n 0, 138), (138, .iload 5, 140), (140, .iload 6, 142), (142, .invokevirtual 244, 145), (145, .i2l, 146), (146, .aload_n 0, 147), (147, .getfield 42, 150), (150, .iload 4, 152), (152, .iconst 1, 153), (153, .iload 6, 155), (155, .ishl, 156), (156, .ior, 157), (157, .laload, 158), (158, .invokestatic 247, 161), (161, .lstore 7, 163), (163, .aload_n 0, 164), (164, .getfield 42, 167), (167, .iload 4, 169), (169, .aload_n 0, 170), (170, .getfield 42, 173), (173, .iload 4, 175), (175, .laload, 176), (176, .lload 7, 178), (178, .invokestatic 250, 181), (181, .lastore, 182), (182, .iinc 6 1, 185), (185, .goto (-129), 188), (188, .iinc 4 (-1), 191), (191, .goto (-160), 194), (194, .return_, 195)])
theorem okM_Mo_laysCan : okM M_Mo_laysCan := okM_of (by decide +kernel) cw_X12_laysCan rfl rfl rfl rfl
def M_Mo_isChosen : eM := (RX12, yX12_isChosen, cX12_isChosen, 8, (some .boolean), { frames := 2, cells := 0, slots := 0, locals := 47 }, [(0, .iconst 1, 1), (1, .aload_n 0, 2), (2, .getfield 234, 5), (5, .ishl, 6), (6, .iconst 1, 7), (7, .isub, 8), (8, .istore 4, 10), (10, .aload_n 0, 11), (11, .getfield 42, 14), (14, .iload 4, 16), (16, .lconst 1, 17), (17, .lastore, 18), (18, .iload 4, 20), (20, .iconst 1, 21), (21, .isub, 22), (22, .istore 5, 24), (24, .iload 5, 26), (26, .ifCond .lt 93, 29), (29, .iload 5, 31), (31, .invokestatic 241, 34), (34, .istore 6, 36), (36, .aload_n 0, 37), (37, .getfield 42, 40), (40, .iload 5, 42), (42, .ldc2_w 219, 45), (45, .lastore, 46), (46, .iconst 0, 47), (47, .istore 7, 49), (49, .iload 7, 51), (51, .aload_n 0, 52), (52, .getfield 234, 55), (55, .if_icmp .ge 58, 58), (58, .iload 5, 60), (60, .iload 7, 62), (62, .ishr, 63), (63, .iconst 1, 64), (64, .iand, 65), (65, .ifCond .ne 42, 68), (68, .aload_n 0, 69), (69, .iload 6, 71), (71, .iload 7, 73), (73, .iload_n 1, 74), (74, .iload_n 2, 75), (75, .iload_n 3, 76), (76, .invokevirtual 252, 79), (79, .ifCond .eq 28, 82), (82, .aload_n 0, 83), (83, .getfield 42, 86), (86, .iload 5, 88), (88, .iconst 1, 89), (89, .iload 7, 91), (91, .ishl, 92), (92, .ior, 93), (93, .laload, 94), (94, .lconst 0, 95), (95, .lcmp, 96), (96, .ifCond .le 11, 99), (99, .aload_n 0, 100), (100, .getfield 42, 103), (103, .iload 5, 105), (105, .lconst 1, 106), (106, .lastore, 107), (107, .iinc 7 1, 110), (110, .goto (-61), 113), (113, .iinc 5 (-1), 116), (116, .goto (-92), 119), (119, .aload_n 0, 120), (120, .getfield 42, 123), (123, .iconst 0, 124), (124, .laload, 125), (125, .lconst 0, 126), (126, .lcmp, 127), (127, .ifCond .ge 5, 130), (130, .iconst 0, 131), (131, .ireturn, 132), (132, .iconst 0, 133), (133, .istore 5, 135), (135, .iconst 0, 136), (136, .istore 6, 138), (138, .iload 6, 140), (140, .aload_n 0, 141), (141, .getfield 234, 144), (144, .if_icmp .ge 78, 147), (147, .iconst 0, 148), (148, .istore 7, 150), (150, .iload 5, 152), (152, .iload 7, 154), (154, .ishr, 155), (155, .iconst 1, 156), (156, .iand, 157), (157, .iconst 1, 158), (158, .if_icmp .eq 34, 161), (161, .aload_n 0, 162), (162, .iload 6, 164), (164, .iload 7, 166), (166, .iload_n 1, 167), (167, .iload_n 2, 168), (168, .iload_n 3, 169), (169, .invokevirtual 252, 172), (172, .ifCond .eq 20, 175), (175, .aload_n 0, 176), (176, .getfield 42, 179), (179, .iload 5, 181), (181, .iconst 1, 182), (182, .iload 7, 184), (184, .ishl, 185), (185, .ior, 186), (186, .laload, 187), (187, .lconst 0, 188), (188, .lcmp, 189), (189, .ifCond .ge 9, 192), (192, .iinc 7 1, 195), (195, .goto (-45), 198), (198, .aload_n 0, 199), (199, .getfield 45, 202), (202, .iload 6, 204), (204, .iload 7, 206), (206, .iastore, 207), (207, .iload 5, 209), (209, .iconst 1, 210), (210, .iload 7, 212), (212, .ishl, 213), (213, .ior, 214), (214, .istore 5, 216), (216, .iinc 6 1, 219), (219, .goto (-81), 222), (222, .iconst 1, 223), (223, .ireturn, 224)])
theorem okM_Mo_isChosen : okM M_Mo_isChosen := okM_of (by decide +kernel) cw_X12_isChosen rfl rfl rfl rfl
def M_Mo_isOpen : eM := (RX12, yX12_isOpen, cX12_isOpen, 6, (some .boolean), { frames := 1, cells := 0, slots := 0, locals := 22 }, [(0, .aload_n 0, 1), (1, .iload_n 1, 2), (2, .iload_n 2, 3), (3, .invokevirtual 244, 6), (6, .iload_n 3, 7), (7, .if_icmp .lt 32, 10), (10, .iload_n 1, 11), (11, .iload 4, 13), (13, .if_icmp .ne 7, 16), (16, .iconst 1, 17), (17, .goto 4, 20), (20, .iconst 0, 21), (21, .iload_n 2, 22), (22, .iload 5, 24), (24, .if_icmp .ne 7, 27), (27, .iconst 1, 28), (28, .goto 4, 31), (31, .iconst 0, 32), (32, .if_icmp .ne 7, 35), (35, .iconst 1, 36), (36, .goto 4, 39), (39, .iconst 0, 40), (40, .ireturn, 41)])
theorem okM_Mo_isOpen : okM M_Mo_isOpen := okM_of (by decide +kernel) cw_X12_isOpen rfl rfl rfl rfl
def M_Mo_chooseGreatest : eM := (RX12, yX12_chooseGreatest, cX12_chooseGreatest, 5, (some .long), { frames := 2, cells := 0, slots := 0, locals := 51 }, [(0, .aload_n 0, 1), (1, .iload_n 1, 2), (2, .iconst 1, 3), (3, .invokevirtual 256, 6), (6, .iconst 0, 7), (7, .istore_n 2, 8), (8, .iconst 0, 9), (9, .istore_n 3, 10), (10, .iload_n 3, 11), (11, .aload_n 0, 12), (12, .getfield 234, 15), (15, .if_icmp .ge 100, 18), (18, .iconst 0, 19), (19, .istore 4, 21), (21, .iload_n 2, 22), (22, .iload 4, 24), (24, .ishr, 25), (25, .iconst 1, 26), (26, .iand, 27), (27, .iconst 1, 28), (28, .if_icmp .eq 60, 31), (31, .aload_n 0, 32), (32, .iload_n 3, 33), (33, .iload 4, 35), (35, .invokevirtual 244, 38), (38, .iload_n 1, 39), (39, .if_icmp .lt 49, 42), (42, .aload_n 0, 43), (43, .getfield 42, 46), (46, .iload_n 2, 47), (47, .iconst 1, 48), (48, .iload 4, 50), (50, .ishl, 51), (51, .ior, 52), (52, .laload, 53), (53, .lconst 0, 54), (54, .lcmp, 55), (55, .ifCond .lt 33, 58), (58, .aload_n 0, 59), (59, .iload_n 3, 60), (60, .iload 4, 62), (62, .invokevirtual 244, 65), (65, .i2l, 66), (66, .aload_n 0, 67), (67, .getfield 42, 70), (70, .iload_n 2, 71), (71, .iconst 1, 72), (72, .iload 4, 74), (74, .ishl, 75), (75, .ior, 76), (76, .laload, 77), (77, .ladd, 78), (78, .aload_n 0, 79), (79, .getfield 42, 82), (82, .iload_n 2, 83), (83, .laload, 84), (84, .lcmp, 85), (85, .ifCond .eq 9, 88), (88, .iinc 4 1, 91), (91, .goto (-70), 94), (94, .aload_n 0, 95), (95, .getfield 45, 98), (98, .iload_n 3, 99), (99, .iload 4, 101), (101, .iastore, 102), (102, .iload_n 2, 103), (103, .iconst 1, 104), (104, .iload 4, 106), (106, .ishl, 107), (107, .ior, 108), (108, .istore_n 2, 109), (109, .iinc 3 1, 112), (112, .goto (-102), 115), (115, .aload_n 0, 116), (116, .getfield 42, 119), (119, .iconst 0, 120), (120, .laload, 121), (121, .lreturn, 122)])
theorem okM_Mo_chooseGreatest : okM M_Mo_chooseGreatest := okM_of (by decide +kernel) cw_X12_chooseGreatest rfl rfl rfl rfl
def M_Mo_choose : eM := (RX12, yX12_choose, cX12_choose, 4, none, { frames := 3, cells := 0, slots := 0, locals := 75 }, [(0, .iload_n 1, 1), (1, .ifCond .ne 14, 4), (4, .aload_n 0, 5), (5, .iconst 1, 6), (6, .iconst (-1), 7), (7, .iconst (-1), 8), (8, .invokevirtual 260, 11), (11, .pop, 12), (12, .goto 117, 15), (15, .iload_n 1, 16), (16, .iconst 1, 17), (17, .if_icmp .ne 26, 20), (20, .aload_n 0, 21), (21, .iconst 1, 22), (22, .iconst 0, 23), (23, .invokevirtual 256, 26), (26, .aload_n 0, 27), (27, .aload_n 0, 28), (28, .getfield 42, 31), (31, .iconst 0, 32), (32, .laload, 33), (33, .l2i, 34), (34, .iconst (-1), 35), (35, .iconst (-1), 36), (36, .invokevirtual 260, 39), (39, .pop, 40), (40, .goto 89, 43), (43, .iload_n 1, 44), (44, .iconst 2, 45), (45, .if_icmp .ne 78, 48), (48, .iconst (-1), 49), (49, .istore_n 2, 50), (50, .iconst 0, 51), (51, .istore_n 3, 52), (52, .iload_n 3, 53), (53, .aload_n 0, 54), (54, .getfield 234, 57), (57, .aload_n 0, 58), (58, .getfield 234, 61), (61, .imul, 62), (62, .if_icmp .ge 40, 65), (65, .aload_n 0, 66), (66, .getfield 39, 69), (69, .iload_n 3, 70), (70, .iaload, 71), (71, .ifCond .le 25, 74), (74, .iload_n 2, 75), (75, .iconst (-1), 76), (76, .if_icmp .eq 18, 79), (79, .aload_n 0, 80), (80, .getfield 39, 83), (83, .iload_n 3, 84), (84, .iaload, 85), (85, .aload_n 0, 86), (86, .getfield 39, 89), (89, .iload_n 2, 90), (90, .iaload, 91), (91, .if_icmp .ge 5, 94), (94, .iload_n 3, 95), (95, .istore_n 2, 96), (96, .iinc 3 1, 99), (99, .goto (-47), 102), (102, .aload_n 0, 103), (103, .iconst 1, 104), (104, .iload_n 2, 105), (105, .aload_n 0, 106), (106, .getfield 234, 109), (109, .idiv, 110), (110, .iload_n 2, 111), (111, .aload_n 0, 112), (112, .getfield 234, 115), (115, .irem, 116), (116, .invokevirtual 260, 119), (119, .pop, 120), (120, .goto 9, 123), (123, .aload_n 0, 124), (124, .iconst 1, 125), (125, .invokevirtual 263, 128), (128, .pop2, 129), (129, .return_, 130)])
theorem okM_Mo_choose : okM M_Mo_choose := okM_of (by decide +kernel) cw_X12_choose rfl rfl rfl rfl
def M_Mo_isLeft : eM := (RX12, yX12_isLeft, cX12_isLeft, 2, (some .boolean), { frames := 0, cells := 0, slots := 0, locals := 0 }, [(0, .iconst 0, 1), (1, .istore_n 1, 2), (2, .iload_n 1, 3), (3, .aload_n 0, 4), (4, .getfield 234, 7), (7, .aload_n 0, 8), (8, .getfield 234, 11), (11, .imul, 12), (12, .if_icmp .ge 20, 15), (15, .aload_n 0, 16), (16, .getfield 39, 19), (19, .iload_n 1, 20), (20, .iaload, 21), (21, .ifCond .le 5, 24), (24, .iconst 1, 25), (25, .ireturn, 26), (26, .iinc 1 1, 29), (29, .goto (-27), 32), (32, .iconst 0, 33), (33, .ireturn, 34)])
theorem okM_Mo_isLeft : okM M_Mo_isLeft := okM_of (by decide +kernel) cw_X12_isLeft rfl rfl rfl rfl
def M_Mo_peels : eM := (RX12, yX12_peels, cX12_peels, 4, (some .int), { frames := 4, cells := 0, slots := 0, locals := 98 }, [(0, .aload_n 0, 1), (1, .iload_n 1, 2), (2, .invokevirtual 267, 5), (5, .ldc_w 270, 8), (8, .istore_n 2, 9), (9, .iconst 0, 10), (10, .istore_n 3, 11), (11, .iload_n 3, 12), (12, .aload_n 0, 13), (13, .getfield 234, 16), (16, .if_icmp .ge 25, 19), (19, .iload_n 2, 20), (20, .aload_n 0, 21), (21, .iload_n 3, 22), (22, .aload_n 0, 23), (23, .getfield 45, 26), (26, .iload_n 3, 27), (27, .iaload, 28), (28, .invokevirtual 244, 31), (31, .invokestatic 271, 34), (34, .istore_n 2, 35), (35, .iinc 3 1, 38), (38, .goto (-27), 41), (41, .iconst 0, 42), (42, .istore_n 3, 43), (43, .iload_n 3, 44), (44, .aload_n 0, 45), (45, .getfield 234, 48), (48, .if_icmp .ge 31, 51), (51, .aload_n 0, 52), (52, .getfield 39, 55), (55, .aload_n 0, 56), (56, .getfield 234, 59), (59, .iload_n 3, 60), (60, .imul, 61), (61, .aload_n 0, 62), (62, .getfield 45, 65), (65, .iload_n 3, 66), (66, .iaload, 67), (67, .iadd, 68), (68, .dup2, 69), (69, .iaload, 70), (70, .iload_n 2, 71), (71, .isub, 72), (72, .iastore, 73), (73, .iinc 3 1, 76), (76, .goto (-33), 79), (79, .iload_n 2, 80), (80, .ireturn, 81)])
theorem okM_Mo_peels : okM M_Mo_peels := okM_of (by decide +kernel) cw_X12_peels rfl rfl rfl rfl
end
section
def M_Mo_keepsAll : eM := (RX12, yX12_keepsAll, cX12_keepsAll, 5, (some .int), { frames := 5, cells := 0, slots := 0, locals := 121 }, [(0, .aload_n 0, 1), (1, .iconst 0, 2), (2, .putfield 273, 5), (5, .aload_n 0, 6), (6, .aload_n 0, 7), (7, .getfield 234, 10), (10, .putfield 276, 13), (13, .aload_n 0, 14), (14, .iload_n 3, 15), (15, .putfield 279, 18), (18, .aload_n 0, 19), (19, .iload_n 2, 20), (20, .putfield 282, 23), (23, .aload_n 0, 24), (24, .invokevirtual 285, 27), (27, .ifCond .eq 70, 30), (30, .aload_n 0, 31), (31, .getfield 48, 34), (34, .aload_n 0, 35), (35, .getfield 273, 38), (38, .aload_n 0, 39), (39, .iload_n 1, 40), (40, .invokevirtual 288, 43), (43, .iastore, 44), (44, .iconst 0, 45), (45, .istore 4, 47), (47, .iload 4, 49), (49, .aload_n 0, 50), (50, .getfield 234, 53), (53, .if_icmp .ge 31, 56), (56, .aload_n 0, 57), (57, .getfield 51, 60), (60, .bipush 8, 62), (62, .aload_n 0, 63), (63, .getfield 273, 66), (66, .imul, 67), (67, .iload 4, 69), (69, .iadd, 70), (70, .aload_n 0, 71), (71, .getfield 45, 74), (74, .iload 4, 76), (76, .iaload, 77), (77, .iastore, 78), (78, .iinc 4 1, 81), (81, .goto (-34), 84), (84, .aload_n 0, 85), (85, .dup, 86), (86, .getfield 273, 89), (89, .iconst 1, 90), (90, .iadd, 91), (91, .putfield 273, 94), (94, .goto (-71), 97), (97, .aload_n 0, 98), (98, .getfield 273, 101), (101, .ireturn, 102)])
theorem okM_Mo_keepsAll : okM M_Mo_keepsAll := okM_of (by decide +kernel) cw_X12_keepsAll rfl rfl rfl rfl
def M_Mo_isRule : eM := (RX12, yX12_isRule, cX12_isRule, 1, (some .boolean), { frames := 1, cells := 0, slots := 0, locals := 25 }, [(0, .iload_n 0, 1), (1, .i2l, 2), (2, .lconst 0, 3), (3, .ldc2_w 97, 6), (6, .invokestatic 99, 9), (9, .ireturn, 10)])
theorem okM_Mo_isRule : okM M_Mo_isRule := okM_of (by decide +kernel) cw_X12_isRule rfl rfl rfl rfl
def M_Mo_peel : eM := (RX12, yX12_peel, cX12_peel, 3, (some .int), { frames := 6, cells := 0, slots := 0, locals := 145 }, [(0, .aload_n 0, 1), (1, .iload_n 1, 2), (2, .invokevirtual 202, 5), (5, .ifCond .eq 10, 8), (8, .iload_n 2, 9), (9, .invokestatic 291, 12), (12, .ifCond .ne 5, 15), (15, .iconst (-1), 16), (16, .ireturn, 17), (17, .aload_n 0, 18), (18, .iload_n 1, 19), (19, .invokevirtual 294, 22), (22, .aload_n 0, 23), (23, .iload_n 2, 24), (24, .iconst 1, 25), (25, .aload_n 0, 26), (26, .iload_n 1, 27), (27, .iconst 0, 28), (28, .invokevirtual 114, 31), (31, .l2i, 32), (32, .invokevirtual 297, 35), (35, .ireturn, 36)])
theorem okM_Mo_peel : okM M_Mo_peel := okM_of (by decide +kernel) cw_X12_peel rfl rfl rfl rfl
def M_Mo_isPartThere : eM := (RX12, yX12_isPartThere, cX12_isPartThere, 2, (some .boolean), { frames := 1, cells := 0, slots := 0, locals := 25 }, [(0, .iload_n 1, 1), (1, .i2l, 2), (2, .lconst 0, 3), (3, .aload_n 0, 4), (4, .getfield 273, 7), (7, .iconst 1, 8), (8, .isub, 9), (9, .i2l, 10), (10, .invokestatic 99, 13), (13, .ireturn, 14)])
theorem okM_Mo_isPartThere : okM M_Mo_isPartThere := okM_of (by decide +kernel) cw_X12_isPartThere rfl rfl rfl rfl
def M_Mo_isKeptRow : eM := (RX12, yX12_isKeptRow, cX12_isKeptRow, 2, (some .boolean), { frames := 1, cells := 0, slots := 0, locals := 25 }, [(0, .iload_n 1, 1), (1, .i2l, 2), (2, .lconst 0, 3), (3, .aload_n 0, 4), (4, .getfield 276, 7), (7, .iconst 1, 8), (8, .isub, 9), (9, .i2l, 10), (10, .invokestatic 99, 13), (13, .ireturn, 14)])
theorem okM_Mo_isKeptRow : okM M_Mo_isKeptRow := okM_of (by decide +kernel) cw_X12_isKeptRow rfl rfl rfl rfl
def M_Mo_part : eM := (RX12, yX12_part, cX12_part, 3, (some .int), { frames := 2, cells := 0, slots := 0, locals := 46 }, [(0, .aload_n 0, 1), (1, .iload_n 1, 2), (2, .invokevirtual 300, 5), (5, .ifCond .eq 25, 8), (8, .aload_n 0, 9), (9, .iload_n 2, 10), (10, .invokevirtual 303, 13), (13, .ifCond .eq 17, 16), (16, .aload_n 0, 17), (17, .getfield 51, 20), (20, .bipush 8, 22), (22, .iload_n 1, 23), (23, .imul, 24), (24, .iload_n 2, 25), (25, .iadd, 26), (26, .iaload, 27), (27, .goto 4, 30), (30, .iconst (-1), 31), (31, .ireturn, 32)])
theorem okM_Mo_part : okM M_Mo_part := okM_of (by decide +kernel) cw_X12_part rfl rfl rfl rfl
def M_Mo_weight : eM := (RX12, yX12_weight, cX12_weight, 4, (some .int), { frames := 2, cells := 0, slots := 0, locals := 46 }, [(0, .aload_n 0, 1), (1, .iload_n 1, 2), (2, .invokevirtual 300, 5), (5, .ifCond .eq 15, 8), (8, .iload_n 2, 9), (9, .i2l, 10), (10, .lconst 0, 11), (11, .ldc2_w 306, 14), (14, .invokestatic 99, 17), (17, .ifCond .ne 5, 20), (20, .iconst (-1), 21), (21, .ireturn, 22), (22, .aload_n 0, 23), (23, .getfield 48, 26), (26, .iload_n 1, 27), (27, .iaload, 28), (28, .i2l, 29), (29, .aload_n 0, 30), (30, .getfield 279, 33), (33, .i2l, 34), (34, .invokestatic 89, 37), (37, .l2i, 38), (38, .istore_n 3, 39), (39, .iload_n 2, 40), (40, .ifCond .ne 12, 43), (43, .aload_n 0, 44), (44, .getfield 48, 47), (47, .iload_n 1, 48), (48, .iaload, 49), (49, .goto 25, 52), (52, .iload_n 2, 53), (53, .iconst 1, 54), (54, .if_icmp .ne 14, 57), (57, .aload_n 0, 58), (58, .getfield 48, 61), (61, .iload_n 1, 62), (62, .iaload, 63), (63, .iload_n 3, 64), (64, .idiv, 65), (65, .goto 9, 68), (68, .aload_n 0, 69), (69, .getfield 279, 72), (72, .iload_n 3, 73), (73, .idiv, 74), (74, .ireturn, 75)])
theorem okM_Mo_weight : okM M_Mo_weight := okM_of (by decide +kernel) cw_X12_weight rfl rfl rfl rfl
def M_Mo_draw : eM := (RX12, yX12_draw, cX12_draw, 4, (some .int), { frames := 1, cells := 0, slots := 0, locals := 25 }, [(0, .aload_n 0, 1), (1, .getfield 273, 4), (4, .ifCond .eq 19, 7), (7, .iload_n 1, 8), (8, .i2l, 9), (9, .lconst 0, 10), (10, .aload_n 0, 11), (11, .getfield 279, 14), (14, .iconst 1, 15), (15, .isub, 16), (16, .i2l, 17), (17, .invokestatic 99, 20), (20, .ifCond .ne 5, 23), (23, .iconst (-1), 24), (24, .ireturn, 25), (25, .iconst 0, 26), (26, .istore_n 2, 27), (27, .iload_n 1, 28), (28, .istore_n 3, 29), (29, .iload_n 3, 30), (30, .aload_n 0, 31), (31, .getfield 48, 34), (34, .iload_n 2, 35), (35, .iaload, 36), (36, .if_icmp .lt 18, 39), (39, .iload_n 3, 40), (40, .aload_n 0, 41), (41, .getfield 48, 44), (44, .iload_n 2, 45), (45, .iaload, 46), (46, .isub, 47), (47, .istore_n 3, 48), (48, .iinc 2 1, 51), (51, .goto (-22), 54), (54, .iload_n 2, 55), (55, .ireturn, 56)])
theorem okM_Mo_draw : okM M_Mo_draw := okM_of (by decide +kernel) cw_X12_draw rfl rfl rfl rfl
def M_Mo_joint : eM := (RX12, yX12_joint, cX12_joint, 8, (some .int), { frames := 2, cells := 0, slots := 0, locals := 46 }, [(0, .aload_n 0, 1), (1, .getfield 273, 4), (4, .ifCond .eq 47, 7), (7, .aload_n 0, 8), (8, .iload_n 1, 9), (9, .invokevirtual 303, 12), (12, .ifCond .eq 39, 15), (15, .aload_n 0, 16), (16, .iload_n 2, 17), (17, .invokevirtual 303, 20), (20, .ifCond .eq 31, 23), (23, .aload_n 0, 24), (24, .iload_n 3, 25), (25, .invokevirtual 303, 28), (28, .ifCond .eq 23, 31), (31, .aload_n 0, 32), (32, .iload 4, 34), (34, .invokevirtual 303, 37), (37, .ifCond .eq 14, 40), (40, .iload 5, 42), (42, .i2l, 43), (43, .lconst 0, 44), (44, .lconst 1, 45), (45, .invokestatic 99, 48), (48, .ifCond .ne 5, 51), (51, .iconst (-1), 52), (52, .ireturn, 53), (53, .iconst 0, 54), (54, .istore 6, 56), (56, .iconst 0, 57), (57, .istore 7, 59), (59, .iload 7, 61), (61, .aload_n 0, 62), (62, .getfield 273, 65), (65, .if_icmp .ge 58, 68), (68, .iload 6, 70), (70, .aload_n 0, 71), (71, .getfield 51, 74), (74, .bipush 8, 76), (76, .iload 7, 78), (78, .imul, 79), (79, .iload_n 1, 80), (80, .iadd, 81), (81, .iaload, 82), (82, .iload_n 2, 83), (83, .if_icmp .ne 30, 86), (86, .aload_n 0, 87), (87, .getfield 51, 90), (90, .bipush 8, 92), (92, .iload 7, 94), (94, .imul, 95), (95, .iload_n 3, 96), (96, .iadd, 97), (97, .iaload, 98), (98, .iload 4, 100), (100, .if_icmp .ne 13, 103), (103, .aload_n 0, 104), (104, .getfield 48, 107), (107, .iload 7, 109), (109, .iaload, 110), (110, .goto 4, 113), (113, .iconst 0, 114), (114, .iadd, 115), (115, .istore 6, 117), (117, .iinc 7 1, 120), (120, .goto (-61), 123), (123, .aload_n 0, 124), (124, .getfield 279, 127), (127, .i2l, 128), (128, .iload 6, 130), (130, .i2l, 131), (131, .invokestatic 89, 134), (134, .l2i, 135), (135, .istore 7, 137), (137, .iload 5, 139), (139, .ifCond .ne 11, 142), (142, .iload 6, 144), (144, .iload 7, 146), (146, .idiv, 147), (147, .goto 10, 150), (150, .aload_n 0, 151), (151, .getfield 279, 154), (154, .iload 7, 156), (156, .idiv, 157), (157, .ireturn, 158)])
theorem okM_Mo_joint : okM M_Mo_joint := okM_of (by decide +kernel) cw_X12_joint rfl rfl rfl rfl
def M_Mo_together : eM := (RX12, yX12_together, cX12_together, 5, (some .int), { frames := 0, cells := 0, slots := 0, locals := 0 }, [(0, .iconst 0, 1), (1, .istore_n 3, 2), (2, .iconst 0, 3), (3, .istore 4, 5), (5, .iload 4, 7), (7, .aload_n 0, 8), (8, .getfield 273, 11), (11, .if_icmp .ge 39, 14), (14, .iload_n 3, 15), (15, .aload_n 0, 16), (16, .getfield 51, 19), (19, .bipush 8, 21), (21, .iload 4, 23), (23, .imul, 24), (24, .iload_n 1, 25), (25, .iadd, 26), (26, .iaload, 27), (27, .iload_n 2, 28), (28, .if_icmp .ne 13, 31), (31, .aload_n 0, 32), (32, .getfield 48, 35), (35, .iload 4, 37), (37, .iaload, 38), (38, .goto 4, 41), (41, .iconst 0, 42), (42, .iadd, 43), (43, .istore_n 3, 44), (44, .iinc 4 1, 47), (47, .goto (-42), 50), (50, .iload_n 3, 51), (51, .ireturn, 52)])
theorem okM_Mo_together : okM M_Mo_together := okM_of (by decide +kernel) cw_X12_together rfl rfl rfl rfl
def M_Mo_most : eM := (RX12, yX12_most, cX12_most, 6, (some .int), { frames := 2, cells := 0, slots := 0, locals := 46 }, [(0, .aload_n 0, 1), (1, .getfield 273, 4), (4, .ifCond .eq 23, 7), (7, .aload_n 0, 8), (8, .iload_n 1, 9), (9, .invokevirtual 303, 12), (12, .ifCond .eq 15, 15), (15, .iload_n 2, 16), (16, .i2l, 17), (17, .lconst 0, 18), (18, .ldc2_w 306, 21), (21, .invokestatic 99, 24), (24, .ifCond .ne 5, 27), (27, .iconst (-1), 28), (28, .ireturn, 29), (29, .iconst 0, 30), (30, .istore_n 3, 31), (31, .iconst 0, 32), (32, .istore 4, 34), (34, .iconst 0, 35), (35, .istore 5, 37), (37, .iload 5, 39), (39, .aload_n 0, 40), (40, .getfield 276, 43), (43, .if_icmp .ge 51, 46), (46, .aload_n 0, 47), (47, .iload_n 1, 48), (48, .iload 5, 50), (50, .invokevirtual 308, 53), (53, .aload_n 0, 54), (54, .iload_n 1, 55), (55, .iload_n 3, 56), (56, .invokevirtual 308, 59), (59, .if_icmp .le 6, 62), (62, .iload 5, 64), (64, .istore_n 3, 65), (65, .iload 4, 67), (67, .aload_n 0, 68), (68, .iload_n 1, 69), (69, .iload 5, 71), (71, .invokevirtual 308, 74), (74, .ifCond .le 7, 77), (77, .iconst 1, 78), (78, .goto 4, 81), (81, .iconst 0, 82), (82, .invokestatic 192, 85), (85, .iadd, 86), (86, .istore 4, 88), (88, .iinc 5 1, 91), (91, .goto (-54), 94), (94, .iload_n 2, 95), (95, .ifCond .ne 7, 98), (98, .iload_n 3, 99), (99, .goto 19, 102), (102, .iload_n 2, 103), (103, .iconst 1, 104), (104, .if_icmp .ne 12, 107), (107, .aload_n 0, 108), (108, .iload_n 1, 109), (109, .iload_n 3, 110), (110, .invokevirtual 308, 113), (113, .goto 5, 116), (116, .iload 4, 118), (118, .ireturn, 119)])
theorem okM_Mo_most : okM M_Mo_most := okM_of (by decide +kernel) cw_X12_most rfl rfl rfl rfl
def M_Mo_bound : eM := (RX12, yX12_bound, cX12_bound, 3, (some .int), { frames := 5, cells := 0, slots := 0, locals := 109 }, [(0, .aload_n 0, 1), (1, .iload_n 1, 2), (2, .invokevirtual 202, 5), (5, .ifCond .eq 28, 8), (8, .iload_n 2, 9), (9, .i2l, 10), (10, .lconst 0, 11), (11, .lconst 1, 12), (12, .invokestatic 99, 15), (15, .ifCond .eq 18, 18), (18, .iload_n 2, 19), (19, .iconst 1, 20), (20, .if_icmp .ne 15, 23), (23, .aload_n 0, 24), (24, .getfield 7, 27), (27, .iload_n 1, 28), (28, .iaload, 29), (29, .iconst 3, 30), (30, .if_icmp .le 5, 33), (33, .iconst (-1), 34), (34, .ireturn, 35), (35, .iload_n 2, 36), (36, .ifCond .ne 28, 39), (39, .aload_n 0, 40), (40, .iload_n 1, 41), (41, .invokevirtual 205, 44), (44, .iconst 2, 45), (45, .aload_n 0, 46), (46, .getfield 7, 49), (49, .iload_n 1, 50), (50, .iaload, 51), (51, .imul, 52), (52, .isub, 53), (53, .aload_n 0, 54), (54, .iload_n 1, 55), (55, .invokevirtual 208, 58), (58, .iadd, 59), (59, .iconst 1, 60), (60, .iadd, 61), (61, .goto 8, 64), (64, .aload_n 0, 65), (65, .iload_n 1, 66), (66, .invokevirtual 311, 69), (69, .ireturn, 70)])
theorem okM_Mo_bound : okM M_Mo_bound := okM_of (by decide +kernel) cw_X12_bound rfl rfl rfl rfl
def M_Mo_fewest : eM := (RX12, yX12_fewest, cX12_fewest, 13, (some .int), { frames := 2, cells := 0, slots := 0, locals := 47 }, [(0, .aload_n 0, 1), (1, .getfield 7, 4), (4, .iload_n 1, 5), (5, .iaload, 6), (6, .iconst 1, 7), (7, .if_icmp .ne 5, 10), (10, .iconst 1, 11), (11, .ireturn, 12), (12, .aload_n 0, 13), (13, .getfield 7, 16), (16, .iload_n 1, 17), (17, .iaload, 18), (18, .iconst 2, 19), (19, .if_icmp .ne 41, 22), (22, .aload_n 0, 23), (23, .iload_n 1, 24), (24, .iconst 0, 25), (25, .iconst 0, 26), (26, .invokevirtual 107, 29), (29, .ifCond .le 7, 32), (32, .iconst 1, 33), (33, .goto 4, 36), (36, .iconst 0, 37), (37, .invokestatic 192, 40), (40, .aload_n 0, 41), (41, .iload_n 1, 42), (42, .iconst 0, 43), (43, .iconst 1, 44), (44, .invokevirtual 107, 47), (47, .ifCond .le 7, 50), (50, .iconst 1, 51), (51, .goto 4, 54), (54, .iconst 0, 55), (55, .invokestatic 192, 58), (58, .iadd, 59), (59, .ireturn, 60), (60, .iconst (-1), 61), (61, .istore_n 2, 62), (62, .iconst 0, 63), (63, .istore_n 3, 64), (64, .iload_n 3, 65), (65, .bipush 6, 67), (67, .if_icmp .ge 179, 70), (70, .iload_n 3, 71), (71, .iconst 3, 72), (72, .if_icmp .ge 13, 75), (75, .aload_n 0, 76), (76, .iload_n 1, 77), (77, .iconst 0, 78), (78, .iload_n 3, 79), (79, .invokevirtual 314, 82), (82, .goto 20, 85), (85, .aload_n 0, 86), (86, .iload_n 1, 87), (87, .iconst 0, 88), (88, .iconst 0, 89), (89, .invokevirtual 314, 92), (92, .aload_n 0, 93), (93, .iload_n 1, 94), (94, .iload_n 3, 95), (95, .iconst 3, 96), (96, .isub, 97), (97, .iconst 0, 98), (98, .invokevirtual 314, 101), (101, .lsub, 102), (102, .lstore 4, 104), (104, .iconst 0, 105), (105, .istore 6, 107), (107, .iconst 1, 108), (108, .istore 7, 110), (110, .iconst 0, 111), (111, .istore 8, 113), (113, .iload 8, 115), (115, .iconst 3, 116), (116, .if_icmp .ge 105, 119), (119, .aload_n 0, 120), (120, .iload_n 1, 121), (121, .iload 8, 123), (123, .iconst 0, 124), (124, .invokevirtual 314, 127), (127, .aload_n 0, 128), (128, .iload_n 1, 129), (129, .iconst 0, 130), (130, .iconst 0, 131), (131, .invokevirtual 314, 134), (134, .lsub, 135), (135, .lload 4, 137), (137, .ladd, 138), (138, .lstore 9, 140), (140, .aload_n 0, 141), (141, .iload_n 1, 142), (142, .iconst 0, 143), (143, .iload 8, 145), (145, .invokevirtual 314, 148), (148, .lload 4, 150), (150, .lsub, 151), (151, .lstore 11, 153), (153, .iload 7, 155), (155, .ifCond .eq 21, 158), (158, .lload 9, 160), (160, .lconst 0, 161), (161, .lcmp, 162), (162, .ifCond .lt 14, 165), (165, .lload 11, 167), (167, .lconst 0, 168), (168, .lcmp, 169), (169, .ifCond .lt 7, 172), (172, .iconst 1, 173), (173, .goto 4, 176), (176, .iconst 0, 177), (177, .istore 7, 179), (179, .iload 6, 181), (181, .lload 9, 183), (183, .lconst 0, 184), (184, .lcmp, 185), (185, .ifCond .le 7, 188), (188, .iconst 1, 189), (189, .goto 4, 192), (192, .iconst 0, 193), (193, .invokestatic 192, 196), (196, .lload 11, 198), (198, .lconst 0, 199), (199, .lcmp, 200), (200, .ifCond .le 7, 203), (203, .iconst 1, 204), (204, .goto 4, 207), (207, .iconst 0, 208), (208, .invokestatic 192, 211), (211, .iadd, 212), (212, .iadd, 213), (213, .istore 6, 215), (215, .iinc 8 1, 218), (218, .goto (-105), 221), (221, .iload 7, 223), (223, .ifCond .eq 17, 226), (226, .iload_n 2, 227), (227, .iconst (-1), 228), (228, .if_icmp .eq 9, 231), (231, .iload 6, 233), (233, .iload_n 2, 234), (234, .if_icmp .ge 6, 237), (237, .iload 6, 239), (239, .istore_n 2, 240), (240, .iinc 3 1, 243), (243, .goto (-179), 246), (246, .iload_n 2, 247), (247, .ireturn, 248)])
theorem okM_Mo_fewest : okM M_Mo_fewest := okM_of (by decide +kernel) cw_X12_fewest rfl rfl rfl rfl
def M_Mo_lies : eM := (RX12, yX12_lies, cX12_lies, 5, (some .long), { frames := 1, cells := 0, slots := 0, locals := 23 }, [(0, .iconst 0, 1), (1, .istore 4, 3), (3, .iload 4, 5), (5, .iconst 3, 6), (6, .if_icmp .ge 41, 9), (9, .iload 4, 11), (11, .iload_n 2, 12), (12, .iadd, 13), (13, .iconst 3, 14), (14, .irem, 15), (15, .iload_n 3, 16), (16, .iload 4, 18), (18, .isub, 19), (19, .iconst 3, 20), (20, .iadd, 21), (21, .iconst 3, 22), (22, .irem, 23), (23, .if_icmp .ne 18, 26), (26, .aload_n 0, 27), (27, .iload_n 1, 28), (28, .iload 4, 30), (30, .iload 4, 32), (32, .iload_n 2, 33), (33, .iadd, 34), (34, .iconst 3, 35), (35, .irem, 36), (36, .invokevirtual 107, 39), (39, .i2l, 40), (40, .lreturn, 41), (41, .iinc 4 1, 44), (44, .goto (-41), 47), (47, .lconst 0, 48), (48, .lreturn, 49)])
theorem okM_Mo_lies : okM M_Mo_lies := okM_of (by decide +kernel) cw_X12_lies rfl rfl rfl rfl
def M_Mo_sought : eM := (RX12, yX12_sought, cX12_sought, 7, (some .int), { frames := 5, cells := 0, slots := 0, locals := 121 }, [(0, .aload_n 0, 1), (1, .iload_n 1, 2), (2, .invokevirtual 202, 5), (5, .ifCond .eq 25, 8), (8, .aload_n 0, 9), (9, .getfield 7, 12), (12, .iload_n 1, 13), (13, .iaload, 14), (14, .iconst 4, 15), (15, .if_icmp .gt 15, 18), (18, .iload_n 2, 19), (19, .i2l, 20), (20, .lconst 0, 21), (21, .ldc2_w 318, 24), (24, .invokestatic 99, 27), (27, .ifCond .ne 5, 30), (30, .iconst (-1), 31), (31, .ireturn, 32), (32, .iconst (-1), 33), (33, .istore_n 3, 34), (34, .iconst 0, 35), (35, .istore 4, 37), (37, .iconst 0, 38), (38, .istore 5, 40), (40, .iload 5, 42), (42, .sipush 256, 45), (45, .if_icmp .ge 80, 48), (48, .aload_n 0, 49), (49, .iload_n 1, 50), (50, .invokevirtual 294, 53), (53, .iconst 0, 54), (54, .istore 6, 56), (56, .aload_n 0, 57), (57, .invokevirtual 285, 60), (60, .ifCond .eq 37, 63), (63, .iload 6, 65), (65, .aload_n 0, 66), (66, .iload 5, 68), (68, .iload 6, 70), (70, .iconst 3, 71), (71, .invokestatic 271, 74), (74, .invokestatic 320, 77), (77, .invokevirtual 288, 80), (80, .ifCond .le 7, 83), (83, .iconst 1, 84), (84, .goto 4, 87), (87, .iconst 0, 88), (88, .invokestatic 192, 91), (91, .iadd, 92), (92, .istore 6, 94), (94, .goto (-38), 97), (97, .iload_n 3, 98), (98, .iconst (-1), 99), (99, .if_icmp .eq 13, 102), (102, .iload 6, 104), (104, .iload 4, 106), (106, .if_icmp .lt 6, 109), (109, .goto 10, 112), (112, .iload 5, 114), (114, .istore_n 3, 115), (115, .iload 6, 117), (117, .istore 4, 119), (119, .iinc 5 1, 122), (122, .goto (-82), 125), (125, .iload_n 2, 126), (126, .ifCond .ne 8, 129), (129, .iload 4, 131), (131, .goto 10, 134), (134, .iload_n 3, 135), (135, .iload_n 2, 136), (136, .iconst 1, 137), (137, .isub, 138), (138, .invokestatic 320, 141), (141, .ireturn, 142)])
theorem okM_Mo_sought : okM M_Mo_sought := okM_of (by decide +kernel) cw_X12_sought rfl rfl rfl rfl
def M_Mo_ruleOf : eM := (RX12, yX12_ruleOf, cX12_ruleOf, 2, (some .int), { frames := 0, cells := 0, slots := 0, locals := 0 }, [(0, .iload_n 0, 1), (1, .bipush 6, 3), (3, .iconst 2, 4), (4, .iload_n 1, 5), (5, .imul, 6), (6, .isub, 7), (7, .ishr, 8), (8, .iconst 3, 9), (9, .iand, 10), (10, .ireturn, 11)])
theorem okM_Mo_ruleOf : okM M_Mo_ruleOf := okM_of (by decide +kernel) cw_X12_ruleOf rfl rfl rfl rfl
def M_Mo_cut : eM := (RX12, yX12_cut, cX12_cut, 3, (some .int), { frames := 0, cells := 0, slots := 0, locals := 0 }, [(0, .lload_n 0, 1), (1, .iload_n 2, 2), (2, .i2l, 3), (3, .ldiv, 4), (4, .l2i, 5), (5, .ireturn, 6)])
theorem okM_Mo_cut : okM M_Mo_cut := okM_of (by decide +kernel) cw_X12_cut rfl rfl rfl rfl
def M_Mo_up : eM := (RX12, yX12_up, cX12_up, 3, (some .int), { frames := 0, cells := 0, slots := 0, locals := 0 }, [(0, .lload_n 0, 1), (1, .iload_n 2, 2), (2, .i2l, 3), (3, .ladd, 4), (4, .lconst 1, 5), (5, .lsub, 6), (6, .iload_n 2, 7), (7, .i2l, 8), (8, .ldiv, 9), (9, .l2i, 10), (10, .ireturn, 11)])
theorem okM_Mo_up : okM M_Mo_up := okM_of (by decide +kernel) cw_X12_up rfl rfl rfl rfl
def M_Mo_laysBounds : eM := (RX12, yX12_laysBounds, cX12_laysBounds, 10, none, { frames := 2, cells := 0, slots := 0, locals := 48 }, [(0, .aload_n 0, 1), (1, .getfield 7, 4), (4, .iload_n 1, 5), (5, .iaload, 6), (6, .istore_n 2, 7), (7, .lconst 0, 8), (8, .lstore_n 3, 9), (9, .iconst 0, 10), (10, .istore 5, 12), (12, .iconst 0, 13), (13, .istore 6, 15), (15, .iload 6, 17), (17, .iload_n 2, 18), (18, .if_icmp .ge 205, 21), (21, .iconst 0, 22), (22, .istore 7, 24), (24, .iconst 0, 25), (25, .istore 8, 27), (27, .iconst 0, 28), (28, .istore 9, 30), (30, .iload 9, 32), (32, .iload_n 2, 33), (33, .if_icmp .ge 57, 36), (36, .iload 7, 38), (38, .aload_n 0, 39), (39, .iload_n 1, 40), (40, .iload 6, 42), (42, .iload 9, 44), (44, .invokevirtual 107, 47), (47, .i2l, 48), (48, .aload_n 0, 49), (49, .getfield 13, 52), (52, .iload_n 1, 53), (53, .iaload, 54), (54, .invokestatic 323, 57), (57, .iadd, 58), (58, .istore 7, 60), (60, .iload 8, 62), (62, .aload_n 0, 63), (63, .iload_n 1, 64), (64, .iload 9, 66), (66, .iload 6, 68), (68, .invokevirtual 107, 71), (71, .i2l, 72), (72, .aload_n 0, 73), (73, .getfield 13, 76), (76, .iload_n 1, 77), (77, .iaload, 78), (78, .invokestatic 323, 81), (81, .iadd, 82), (82, .istore 8, 84), (84, .iinc 9 1, 87), (87, .goto (-57), 90), (90, .aload_n 0, 91), (91, .getfield 57, 94), (94, .iload 6, 96), (96, .aload_n 0, 97), (97, .iload_n 1, 98), (98, .iload 6, 100), (100, .invokevirtual 114, 103), (103, .aload_n 0, 104), (104, .getfield 13, 107), (107, .iload_n 1, 108), (108, .iaload, 109), (109, .invokestatic 323, 112), (112, .iload 7, 114), (114, .isub, 115), (115, .iastore, 116), (116, .aload_n 0, 117), (117, .getfield 60, 120), (120, .iload 6, 122), (122, .aload_n 0, 123), (123, .iload_n 1, 124), (124, .iload 6, 126), (126, .invokevirtual 114, 129), (129, .aload_n 0, 130), (130, .getfield 13, 133), (133, .iload_n 1, 134), (134, .iaload, 135), (135, .invokestatic 327, 138), (138, .iload 7, 140), (140, .isub, 141), (141, .iastore, 142), (142, .aload_n 0, 143), (143, .getfield 57, 146), (146, .bipush 8, 148), (148, .iload 6, 150), (150, .iadd, 151), (151, .aload_n 0, 152), (152, .iload_n 1, 153), (153, .iload 6, 155), (155, .invokevirtual 122, 158), (158, .aload_n 0, 159), (159, .getfield 13, 162), (162, .iload_n 1, 163), (163, .iaload, 164), (164, .invokestatic 323, 167), (167, .iload 8, 169), (169, .isub, 170), (170, .iastore, 171), (171, .aload_n 0, 172), (172, .getfield 60, 175), (175, .bipush 8, 177), (177, .iload 6, 179), (179, .iadd, 180), (180, .aload_n 0, 181), (181, .iload_n 1, 182), (182, .iload 6, 184), (184, .invokevirtual 122, 187), (187, .aload_n 0, 188), (188, .getfield 13, 191), (191, .iload_n 1, 192), (192, .iaload, 193), (193, .invokestatic 327, 196), (196, .iload 8, 198), (198, .isub, 199), (199, .iastore, 200), (200, .lload_n 3, 201), (201, .aload_n 0, 202), (202, .iload_n 1, 203), (203, .iload 6, 205), (205, .invokevirtual 114, 208), (208, .ladd, 209), (209, .lstore_n 3, 210), (210, .iload 5, 212), (212, .iload 7, 214), (214, .iadd, 215), (215, .istore 5, 217), (217, .iinc 6 1, 220), (220, .goto (-205), 223), (223, .aload_n 0, 224), (224, .getfield 57, 227), (227, .bipush 16, 229), (229, .lload_n 3, 230), (230, .aload_n 0, 231), (231, .getfield 13, 234), (234, .iload_n 1, 235), (235, .iaload, 236), (236, .invokestatic 323, 239), (239, .iload 5, 241), (241, .isub, 242), (242, .iastore, 243), (243, .aload_n 0, 244), (244, .getfield 60, 247), (247, .bipush 16, 249), (249, .lload_n 3, 250), (250, .aload_n 0, 251), (251, .getfield 13, 254), (254, .iload_n 1, 255), (255, .iaload, 256), (256, .invokestatic 327, 259), (259, .iload 5, 261), (261, .isub, 262), (262, .iastore, 263), (263, .return_, 264)])
theorem okM_Mo_laysBounds : okM M_Mo_laysBounds := okM_of (by decide +kernel) cw_X12_laysBounds rfl rfl rfl rfl
def M_Mo_edge : eM := (RX12, yX12_edge, cX12_edge, 5, none, { frames := 0, cells := 0, slots := 0, locals := 0 }, [(0, .aload_n 0, 1), (1, .getfield 63, 4), (4, .bipush 20, 6), (6, .iload_n 1, 7), (7, .imul, 8), (8, .iload_n 2, 9), (9, .iadd, 10), (10, .dup2, 11), (11, .iaload, 12), (12, .iload 4, 14), (14, .iload_n 3, 15), (15, .isub, 16), (16, .iadd, 17), (17, .iastore, 18), (18, .aload_n 0, 19), (19, .getfield 63, 22), (22, .sipush 360, 25), (25, .iload_n 2, 26), (26, .iadd, 27), (27, .dup2, 28), (28, .iaload, 29), (29, .iload_n 3, 30), (30, .iadd, 31), (31, .iastore, 32), (32, .aload_n 0, 33), (33, .getfield 63, 36), (36, .bipush 20, 38), (38, .iload_n 1, 39), (39, .imul, 40), (40, .bipush 19, 42), (42, .iadd, 43), (43, .dup2, 44), (44, .iaload, 45), (45, .iload_n 3, 46), (46, .iadd, 47), (47, .iastore, 48), (48, .return_, 49)])
theorem okM_Mo_edge : okM M_Mo_edge := okM_of (by decide +kernel) cw_X12_edge rfl rfl rfl rfl
def M_Mo_isKept : eM := (RX12, yX12_isKept, cX12_isKept, 4, (some .boolean), { frames := 1, cells := 0, slots := 0, locals := 24 }, [(0, .iconst 0, 1), (1, .istore_n 2, 2), (2, .iload_n 2, 3), (3, .sipush 400, 6), (6, .if_icmp .ge 16, 9), (9, .aload_n 0, 10), (10, .getfield 63, 13), (13, .iload_n 2, 14), (14, .iconst 0, 15), (15, .iastore, 16), (16, .iinc 2 1, 19), (19, .goto (-17), 22), (22, .iconst 0, 23), (23, .istore_n 2, 24), (24, .iload_n 2, 25), (25, .iload_n 1, 26), (26, .if_icmp .ge 57, 29), (29, .aload_n 0, 30), (30, .iconst 0, 31), (31, .iconst 1, 32), (32, .iload_n 2, 33), (33, .iadd, 34), (34, .aload_n 0, 35), (35, .getfield 57, 38), (38, .iload_n 2, 39), (39, .iaload, 40), (40, .aload_n 0, 41), (41, .getfield 60, 44), (44, .iload_n 2, 45), (45, .iaload, 46), (46, .invokevirtual 330, 49), (49, .aload_n 0, 50), (50, .bipush 9, 52), (52, .iload_n 2, 53), (53, .iadd, 54), (54, .bipush 17, 56), (56, .aload_n 0, 57), (57, .getfield 57, 60), (60, .bipush 8, 62), (62, .iload_n 2, 63), (63, .iadd, 64), (64, .iaload, 65), (65, .aload_n 0, 66), (66, .getfield 60, 69), (69, .bipush 8, 71), (71, .iload_n 2, 72), (72, .iadd, 73), (73, .iaload, 74), (74, .invokevirtual 330, 77), (77, .iinc 2 1, 80), (80, .goto (-56), 83), (83, .aload_n 0, 84), (84, .bipush 17, 86), (86, .iconst 0, 87), (87, .aload_n 0, 88), (88, .getfield 57, 91), (91, .bipush 16, 93), (93, .iaload, 94), (94, .aload_n 0, 95), (95, .getfield 60, 98), (98, .bipush 16, 100), (100, .iaload, 101), (101, .invokevirtual 330, 104), (104, .iconst 0, 105), (105, .istore_n 2, 106), (106, .iload_n 2, 107), (107, .iload_n 1, 108), (108, .if_icmp .ge 76, 111), (111, .iconst 0, 112), (112, .istore_n 3, 113), (113, .iload_n 3, 114), (114, .iload_n 1, 115), (115, .if_icmp .ge 63, 118), (118, .aload_n 0, 119), (119, .iconst 1, 120), (120, .iload_n 2, 121), (121, .iadd, 122), (122, .bipush 9, 124), (124, .iload_n 3, 125), (125, .iadd, 126), (126, .aload_n 0, 127), (127, .getfield 54, 130), (130, .iload_n 1, 131), (131, .iload_n 2, 132), (132, .imul, 133), (133, .iload_n 3, 134), (134, .iadd, 135), (135, .iaload, 136), (136, .iconst 1, 137), (137, .if_icmp .ne 7, 140), (140, .iconst 1, 141), (141, .goto 4, 144), (144, .iconst 0, 145), (145, .invokestatic 192, 148), (148, .aload_n 0, 149), (149, .getfield 54, 152), (152, .iload_n 1, 153), (153, .iload_n 2, 154), (154, .imul, 155), (155, .iload_n 3, 156), (156, .iadd, 157), (157, .iaload, 158), (158, .ifCond .le 7, 161), (161, .iconst 1, 162), (162, .goto 4, 165), (165, .iconst 0, 166), (166, .invokestatic 192, 169), (169, .invokevirtual 330, 172), (172, .iinc 3 1, 175), (175, .goto (-62), 178), (178, .iinc 2 1, 181), (181, .goto (-75), 184), (184, .iconst 0, 185), (185, .istore_n 2, 186), (186, .iconst 0, 187), (187, .istore_n 3, 188), (188, .iload_n 3, 189), (189, .bipush 20, 191), (191, .if_icmp .ge 22, 194), (194, .iload_n 2, 195), (195, .aload_n 0, 196), (196, .getfield 63, 199), (199, .sipush 360, 202), (202, .iload_n 3, 203), (203, .iadd, 204), (204, .iaload, 205), (205, .iadd, 206), (206, .istore_n 2, 207), (207, .iinc 3 1, 210), (210, .goto (-22), 213), (213, .aload_n 0, 214), (214, .invokevirtual 334, 217), (217, .ifCond .eq 68, 220), (220, .bipush 19, 222), (222, .istore_n 3, 223), (223, .iload_n 3, 224), (224, .bipush 18, 226), (226, .if_icmp .eq 53, 229), (229, .aload_n 0, 230), (230, .getfield 63, 233), (233, .bipush 20, 235), (235, .aload_n 0, 236), (236, .getfield 66, 239), (239, .iload_n 3, 240), (240, .iaload, 241), (241, .imul, 242), (242, .iload_n 3, 243), (243, .iadd, 244), (244, .dup2, 245), (245, .iaload, 246), (246, .iconst 1, 247), (247, .isub, 248), (248, .iastore, 249), (249, .aload_n 0, 250), (250, .getfield 63, 253), (253, .bipush 20, 255), (255, .iload_n 3, 256), (256, .imul, 257), (257, .aload_n 0, 258), (258, .getfield 66, 261), (261, .iload_n 3, 262), (262, .iaload, 263), (263, .iadd, 264), (264, .dup2, 265), (265, .iaload, 266), (266, .iconst 1, 267), (267, .iadd, 268), (268, .iastore, 269), (269, .aload_n 0, 270), (270, .getfield 66, 273), (273, .iload_n 3, 274), (274, .iaload, 275), (275, .istore_n 3, 276), (276, .goto (-53), 279), (279, .iinc 2 (-1), 282), (282, .goto (-69), 285), (285, .iload_n 2, 286), (286, .ifCond .ne 7, 289), (289, .iconst 1, 290), (290, .goto 4, 293), (293, .iconst 0, 294), (294, .ireturn, 295)])
theorem okM_Mo_isKept : okM M_Mo_isKept := okM_of (by decide +kernel) cw_X12_isKept rfl rfl rfl rfl
def M_Mo_isWay : eM := (RX12, yX12_isWay, cX12_isWay, 4, (some .boolean), { frames := 0, cells := 0, slots := 0, locals := 0 }, [(0, .iconst 0, 1), (1, .istore_n 1, 2), (2, .iload_n 1, 3), (3, .bipush 20, 5), (5, .if_icmp .ge 16, 8), (8, .aload_n 0, 9), (9, .getfield 66, 12), (12, .iload_n 1, 13), (13, .iconst (-1), 14), (14, .iastore, 15), (15, .iinc 1 1, 18), (18, .goto (-16), 21), (21, .iconst 1, 22), (22, .istore_n 1, 23), (23, .aload_n 0, 24), (24, .getfield 69, 27), (27, .iconst 0, 28), (28, .bipush 18, 30), (30, .iastore, 31), (31, .aload_n 0, 32), (32, .getfield 66, 35), (35, .bipush 18, 37), (37, .bipush 18, 39), (39, .iastore, 40), (40, .iconst 0, 41), (41, .istore_n 2, 42), (42, .iload_n 2, 43), (43, .iload_n 1, 44), (44, .if_icmp .ge 77, 47), (47, .iconst 0, 48), (48, .istore_n 3, 49), (49, .iload_n 3, 50), (50, .bipush 20, 52), (52, .if_icmp .ge 63, 55), (55, .aload_n 0, 56), (56, .getfield 66, 59), (59, .iload_n 3, 60), (60, .iaload, 61), (61, .iconst (-1), 62), (62, .if_icmp .ne 47, 65), (65, .aload_n 0, 66), (66, .getfield 63, 69), (69, .bipush 20, 71), (71, .aload_n 0, 72), (72, .getfield 69, 75), (75, .iload_n 2, 76), (76, .iaload, 77), (77, .imul, 78), (78, .iload_n 3, 79), (79, .iadd, 80), (80, .iaload, 81), (81, .ifCond .gt 6, 84), (84, .goto 25, 87), (87, .aload_n 0, 88), (88, .getfield 66, 91), (91, .iload_n 3, 92), (92, .aload_n 0, 93), (93, .getfield 69, 96), (96, .iload_n 2, 97), (97, .iaload, 98), (98, .iastore, 99), (99, .aload_n 0, 100), (100, .getfield 69, 103), (103, .iload_n 1, 104), (104, .iload_n 3, 105), (105, .iastore, 106), (106, .iinc 1 1, 109), (109, .iinc 3 1, 112), (112, .goto (-63), 115), (115, .iinc 2 1, 118), (118, .goto (-76), 121), (121, .aload_n 0, 122), (122, .getfield 66, 125), (125, .bipush 19, 127), (127, .iaload, 128), (128, .iconst (-1), 129), (129, .if_icmp .eq 7, 132), (132, .iconst 1, 133), (133, .goto 4, 136), (136, .iconst 0, 137), (137, .ireturn, 138)])
theorem okM_Mo_isWay : okM M_Mo_isWay := okM_of (by decide +kernel) cw_X12_isWay rfl rfl rfl rfl
def M_Mo_rounded : eM := (RX12, yX12_rounded, cX12_rounded, 6, (some .int), { frames := 4, cells := 0, slots := 0, locals := 89 }, [(0, .aload_n 0, 1), (1, .iload_n 1, 2), (2, .iload_n 2, 3), (3, .iload_n 3, 4), (4, .invokevirtual 211, 7), (7, .ifCond .ne 5, 10), (10, .iconst (-1), 11), (11, .ireturn, 12), (12, .aload_n 0, 13), (13, .getfield 7, 16), (16, .iload_n 1, 17), (17, .iaload, 18), (18, .istore 4, 20), (20, .aload_n 0, 21), (21, .iload_n 1, 22), (22, .invokevirtual 337, 25), (25, .iconst 0, 26), (26, .istore 5, 28), (28, .iload 5, 30), (30, .iload 4, 32), (32, .iload 4, 34), (34, .imul, 35), (35, .if_icmp .ge 43, 38), (38, .aload_n 0, 39), (39, .getfield 54, 42), (42, .iload 5, 44), (44, .aload_n 0, 45), (45, .getfield 16, 48), (48, .bipush 64, 50), (50, .iload_n 1, 51), (51, .imul, 52), (52, .iload 5, 54), (54, .iadd, 55), (55, .iaload, 56), (56, .aload_n 0, 57), (57, .getfield 13, 60), (60, .iload_n 1, 61), (61, .iaload, 62), (62, .irem, 63), (63, .ifCond .ne 7, 66), (66, .iconst 0, 67), (67, .goto 4, 70), (70, .iconst 2, 71), (71, .iastore, 72), (72, .iinc 5 1, 75), (75, .goto (-47), 78), (78, .iconst 0, 79), (79, .istore 5, 81), (81, .iload 5, 83), (83, .iload 4, 85), (85, .iload_n 2, 86), (86, .imul, 87), (87, .iload_n 3, 88), (88, .iadd, 89), (89, .if_icmp .gt 47, 92), (92, .aload_n 0, 93), (93, .getfield 54, 96), (96, .iload 5, 98), (98, .iaload, 99), (99, .ifCond .ne 6, 102), (102, .goto 28, 105), (105, .aload_n 0, 106), (106, .getfield 54, 109), (109, .iload 5, 111), (111, .iconst 0, 112), (112, .iastore, 113), (113, .aload_n 0, 114), (114, .iload 4, 116), (116, .invokevirtual 340, 119), (119, .ifCond .ne 11, 122), (122, .aload_n 0, 123), (123, .getfield 54, 126), (126, .iload 5, 128), (128, .iconst 1, 129), (129, .iastore, 130), (130, .iinc 5 1, 133), (133, .goto (-52), 136), (136, .aload_n 0, 137), (137, .iload_n 1, 138), (138, .iload_n 2, 139), (139, .iload_n 3, 140), (140, .invokevirtual 107, 143), (143, .aload_n 0, 144), (144, .getfield 13, 147), (147, .iload_n 1, 148), (148, .iaload, 149), (149, .idiv, 150), (150, .aload_n 0, 151), (151, .getfield 54, 154), (154, .iload 4, 156), (156, .iload_n 2, 157), (157, .imul, 158), (158, .iload_n 3, 159), (159, .iadd, 160), (160, .iaload, 161), (161, .iadd, 162), (162, .ireturn, 163)])
theorem okM_Mo_rounded : okM M_Mo_rounded := okM_of (by decide +kernel) cw_X12_rounded rfl rfl rfl rfl
def M_Mo_isLeast : eM := (RX12, yX12_isLeast, cX12_isLeast, 1, (some .boolean), { frames := 1, cells := 0, slots := 0, locals := 25 }, [(0, .iload_n 0, 1), (1, .i2l, 2), (2, .lconst 0, 3), (3, .ldc2_w 95, 6), (6, .invokestatic 99, 9), (9, .ireturn, 10)])
theorem okM_Mo_isLeast : okM M_Mo_isLeast := okM_of (by decide +kernel) cw_X12_isLeast rfl rfl rfl rfl
def M_Mo_joined : eM := (RX12, yX12_joined, cX12_joined, 7, (some .int), { frames := 1, cells := 0, slots := 0, locals := 23 }, [(0, .iconst 0, 1), (1, .istore 4, 3), (3, .iconst 0, 4), (4, .istore 5, 6), (6, .iload 5, 8), (8, .aload_n 0, 9), (9, .getfield 7, 12), (12, .iload_n 1, 13), (13, .iaload, 14), (14, .if_icmp .ge 61, 17), (17, .iconst 0, 18), (18, .istore 6, 20), (20, .iload 6, 22), (22, .aload_n 0, 23), (23, .getfield 7, 26), (26, .iload_n 1, 27), (27, .iaload, 28), (28, .if_icmp .ge 41, 31), (31, .iload_n 2, 32), (32, .iload 5, 34), (34, .ishr, 35), (35, .iconst 1, 36), (36, .iand, 37), (37, .iconst 1, 38), (38, .if_icmp .ne 25, 41), (41, .aload_n 0, 42), (42, .iload_n 1, 43), (43, .iload 5, 45), (45, .iload 6, 47), (47, .invokevirtual 107, 50), (50, .iload_n 3, 51), (51, .if_icmp .lt 12, 54), (54, .iload 4, 56), (56, .iconst 1, 57), (57, .iload 6, 59), (59, .ishl, 60), (60, .ior, 61), (61, .istore 4, 63), (63, .iinc 6 1, 66), (66, .goto (-46), 69), (69, .iinc 5 1, 72), (72, .goto (-66), 75), (75, .iload 4, 77), (77, .ireturn, 78)])
theorem okM_Mo_joined : okM M_Mo_joined := okM_of (by decide +kernel) cw_X12_joined rfl rfl rfl rfl
def M_Mo_lack : eM := (RX12, yX12_lack, cX12_lack, 8, (some .int), { frames := 3, cells := 0, slots := 0, locals := 66 }, [(0, .aload_n 0, 1), (1, .iload_n 1, 2), (2, .invokevirtual 111, 5), (5, .ifCond .eq 22, 8), (8, .iload_n 2, 9), (9, .invokestatic 343, 12), (12, .ifCond .eq 15, 15), (15, .iload_n 3, 16), (16, .i2l, 17), (17, .lconst 0, 18), (18, .ldc2_w 306, 21), (21, .invokestatic 99, 24), (24, .ifCond .ne 5, 27), (27, .iconst (-1), 28), (28, .ireturn, 29), (29, .iconst 0, 30), (30, .istore 4, 32), (32, .iconst 0, 33), (33, .istore 5, 35), (35, .iconst 1, 36), (36, .istore 6, 38), (38, .iload 6, 40), (40, .iconst 1, 41), (41, .aload_n 0, 42), (42, .getfield 7, 45), (45, .iload_n 1, 46), (46, .iaload, 47), (47, .ishl, 48), (48, .if_icmp .ge 46, 51), (51, .iload 6, 53), (53, .invokestatic 241, 56), (56, .aload_n 0, 57), (57, .iload_n 1, 58), (58, .iload 6, 60), (60, .iload_n 2, 61), (61, .invokevirtual 346, 64), (64, .invokestatic 241, 67), (67, .isub, 68), (68, .istore 7, 70), (70, .iload 7, 72), (72, .iload 5, 74), (74, .if_icmp .gt 6, 77), (77, .goto 11, 80), (80, .iload 6, 82), (82, .istore 4, 84), (84, .iload 7, 86), (86, .istore 5, 88), (88, .iinc 6 1, 91), (91, .goto (-53), 94), (94, .iload_n 3, 95), (95, .ifCond .ne 8, 98), (98, .iload 5, 100), (100, .goto 21, 103), (103, .iload_n 3, 104), (104, .iconst 1, 105), (105, .if_icmp .ne 8, 108), (108, .iload 4, 110), (110, .goto 11, 113), (113, .aload_n 0, 114), (114, .iload_n 1, 115), (115, .iload 4, 117), (117, .iload_n 2, 118), (118, .invokevirtual 346, 121), (121, .ireturn, 122)])
theorem okM_Mo_lack : okM M_Mo_lack := okM_of (by decide +kernel) cw_X12_lack rfl rfl rfl rfl
def M_Mo_paired : eM := (RX12, yX12_paired, cX12_paired, 4, (some .int), { frames := 3, cells := 0, slots := 0, locals := 74 }, [(0, .aload_n 0, 1), (1, .iload_n 1, 2), (2, .invokevirtual 111, 5), (5, .ifCond .eq 28, 8), (8, .iload_n 2, 9), (9, .invokestatic 343, 12), (12, .ifCond .eq 21, 15), (15, .iload_n 3, 16), (16, .i2l, 17), (17, .lconst 0, 18), (18, .aload_n 0, 19), (19, .getfield 7, 22), (22, .iload_n 1, 23), (23, .iaload, 24), (24, .iconst 1, 25), (25, .isub, 26), (26, .i2l, 27), (27, .invokestatic 99, 30), (30, .ifCond .ne 5, 33), (33, .iconst (-1), 34), (34, .ireturn, 35), (35, .aload_n 0, 36), (36, .iload_n 1, 37), (37, .invokevirtual 294, 40), (40, .aload_n 0, 41), (41, .iload_n 2, 42), (42, .iconst (-1), 43), (43, .iconst (-1), 44), (44, .invokevirtual 260, 47), (47, .ifCond .eq 12, 50), (50, .aload_n 0, 51), (51, .getfield 45, 54), (54, .iload_n 3, 55), (55, .iaload, 56), (56, .goto 4, 59), (59, .iconst (-1), 60), (60, .ireturn, 61)])
theorem okM_Mo_paired : okM M_Mo_paired := okM_of (by decide +kernel) cw_X12_paired rfl rfl rfl rfl
def M_Mo_isSummed : eM := (RX12, yX12_isSummed, cX12_isSummed, 11, (some .boolean), { frames := 1, cells := 0, slots := 0, locals := 23 }, [(0, .aload_n 0, 1), (1, .getfield 72, 4), (4, .iconst 0, 5), (5, .lconst 1, 6), (6, .lastore, 7), (7, .iconst 1, 8), (8, .istore 4, 10), (10, .iload 4, 12), (12, .iconst 1, 13), (13, .aload_n 0, 14), (14, .getfield 7, 17), (17, .iload_n 1, 18), (18, .iaload, 19), (19, .ishl, 20), (20, .if_icmp .ge 158, 23), (23, .iload 4, 25), (25, .invokestatic 241, 28), (28, .iconst 1, 29), (29, .isub, 30), (30, .istore 5, 32), (32, .aload_n 0, 33), (33, .getfield 72, 36), (36, .iload 4, 38), (38, .lconst 0, 39), (39, .lastore, 40), (40, .iconst 0, 41), (41, .istore 6, 43), (43, .iload 6, 45), (45, .aload_n 0, 46), (46, .getfield 7, 49), (49, .iload_n 1, 50), (50, .iaload, 51), (51, .if_icmp .ge 121, 54), (54, .iload 4, 56), (56, .iload 6, 58), (58, .ishr, 59), (59, .iconst 1, 60), (60, .iand, 61), (61, .ifCond .ne 6, 64), (64, .goto 102, 67), (67, .iload_n 3, 68), (68, .ifCond .eq 28, 71), (71, .aload_n 0, 72), (72, .iload_n 1, 73), (73, .iload 5, 75), (75, .iload 6, 77), (77, .invokevirtual 107, 80), (80, .iload_n 2, 81), (81, .if_icmp .lt 7, 84), (84, .iconst 1, 85), (85, .goto 4, 88), (88, .iconst 0, 89), (89, .invokestatic 192, 92), (92, .i2l, 93), (93, .goto 13, 96), (96, .aload_n 0, 97), (97, .iload_n 1, 98), (98, .iload 5, 100), (100, .iload 6, 102), (102, .invokevirtual 107, 105), (105, .i2l, 106), (106, .lstore 7, 108), (108, .aload_n 0, 109), (109, .getfield 72, 112), (112, .iload 4, 114), (114, .iconst 1, 115), (115, .iload 6, 117), (117, .ishl, 118), (118, .ixor, 119), (119, .laload, 120), (120, .lstore 9, 122), (122, .lload 7, 124), (124, .lconst 0, 125), (125, .lcmp, 126), (126, .ifCond .le 25, 129), (129, .lload 9, 131), (131, .ldc2_w 239, 134), (134, .aload_n 0, 135), (135, .getfield 72, 138), (138, .iload 4, 140), (140, .laload, 141), (141, .lsub, 142), (142, .lload 7, 144), (144, .ldiv, 145), (145, .lcmp, 146), (146, .ifCond .le 5, 149), (149, .iconst 0, 150), (150, .ireturn, 151), (151, .aload_n 0, 152), (152, .getfield 72, 155), (155, .iload 4, 157), (157, .dup2, 158), (158, .laload, 159), (159, .lload 7, 161), (161, .lload 9, 163), (163, .lmul, 164), (164, .ladd, 165), (165, .lastore, 166), (166, .iinc 6 1, 169), (169, .goto (-126), 172), (172, .iinc 4 1, 175), (175, .goto (-165), 178), (178, .iconst 1, 179), (179, .ireturn, 180)])
theorem okM_Mo_isSummed : okM M_Mo_isSummed := okM_of (by decide +kernel) cw_X12_isSummed rfl rfl rfl rfl
def M_Mo_ways : eM := (RX12, yX12_ways, cX12_ways, 3, (some .int), { frames := 3, cells := 0, slots := 0, locals := 66 }, [(0, .aload_n 0, 1), (1, .iload_n 1, 2), (2, .invokevirtual 111, 5), (5, .ifCond .eq 10, 8), (8, .iload_n 2, 9), (9, .invokestatic 343, 12), (12, .ifCond .ne 5, 15), (15, .iconst (-1), 16), (16, .ireturn, 17), (17, .aload_n 0, 18), (18, .iload_n 1, 19), (19, .iload_n 2, 20), (20, .iconst 1, 21), (21, .invokevirtual 349, 24), (24, .pop, 25), (25, .aload_n 0, 26), (26, .getfield 72, 29), (29, .iconst 1, 30), (30, .aload_n 0, 31), (31, .getfield 7, 34), (34, .iload_n 1, 35), (35, .iaload, 36), (36, .ishl, 37), (37, .iconst 1, 38), (38, .isub, 39), (39, .laload, 40), (40, .l2i, 41), (41, .ireturn, 42)])
theorem okM_Mo_ways : okM M_Mo_ways := okM_of (by decide +kernel) cw_X12_ways rfl rfl rfl rfl
def M_Mo_widest : eM := (RX12, yX12_widest, cX12_widest, 2, (some .int), { frames := 3, cells := 0, slots := 0, locals := 66 }, [(0, .aload_n 0, 1), (1, .iload_n 1, 2), (2, .invokevirtual 111, 5), (5, .ifCond .ne 5, 8), (8, .iconst (-1), 9), (9, .ireturn, 10), (10, .aload_n 0, 11), (11, .iload_n 1, 12), (12, .invokevirtual 294, 15), (15, .aload_n 0, 16), (16, .iconst 0, 17), (17, .iconst 0, 18), (18, .invokevirtual 256, 21), (21, .aload_n 0, 22), (22, .getfield 42, 25), (25, .iconst 0, 26), (26, .laload, 27), (27, .l2i, 28), (28, .ireturn, 29)])
theorem okM_Mo_widest : okM M_Mo_widest := okM_of (by decide +kernel) cw_X12_widest rfl rfl rfl rfl
def M_Mo_best : eM := (RX12, yX12_best, cX12_best, 5, (some .long), { frames := 3, cells := 0, slots := 0, locals := 75 }, [(0, .aload_n 0, 1), (1, .iload_n 1, 2), (2, .invokevirtual 111, 5), (5, .ifCond .eq 28, 8), (8, .iload_n 2, 9), (9, .ifCond .eq 28, 12), (12, .iload_n 2, 13), (13, .i2l, 14), (14, .ldc2_w 353, 17), (17, .bipush 9, 19), (19, .aload_n 0, 20), (20, .getfield 7, 23), (23, .iload_n 1, 24), (24, .iaload, 25), (25, .iadd, 26), (26, .i2l, 27), (27, .invokestatic 99, 30), (30, .ifCond .ne 7, 33), (33, .ldc2_w 219, 36), (36, .lreturn, 37), (37, .aload_n 0, 38), (38, .iload_n 1, 39), (39, .invokevirtual 294, 42), (42, .aload_n 0, 43), (43, .iconst 0, 44), (44, .invokevirtual 263, 47), (47, .lstore_n 3, 48), (48, .iload_n 2, 49), (49, .ifCond .ne 7, 52), (52, .lload_n 3, 53), (53, .goto 13, 56), (56, .aload_n 0, 57), (57, .getfield 45, 60), (60, .iload_n 2, 61), (61, .bipush 10, 63), (63, .isub, 64), (64, .iaload, 65), (65, .i2l, 66), (66, .lreturn, 67)])
theorem okM_Mo_best : okM M_Mo_best := okM_of (by decide +kernel) cw_X12_best rfl rfl rfl rfl
def M_Mo_permanent : eM := (RX12, yX12_permanent, cX12_permanent, 2, (some .long), { frames := 3, cells := 0, slots := 0, locals := 66 }, [(0, .aload_n 0, 1), (1, .iload_n 1, 2), (2, .invokevirtual 111, 5), (5, .ifCond .ne 7, 8), (8, .ldc2_w 219, 11), (11, .lreturn, 12), (12, .aload_n 0, 13), (13, .iload_n 1, 14), (14, .iconst 0, 15), (15, .iconst 0, 16), (16, .invokevirtual 349, 19), (19, .ifCond .eq 21, 22), (22, .aload_n 0, 23), (23, .getfield 72, 26), (26, .iconst 1, 27), (27, .aload_n 0, 28), (28, .getfield 7, 31), (31, .iload_n 1, 32), (32, .iaload, 33), (33, .ishl, 34), (34, .iconst 1, 35), (35, .isub, 36), (36, .laload, 37), (37, .goto 6, 40), (40, .ldc2_w 355, 43), (43, .lreturn, 44)])
theorem okM_Mo_permanent : okM M_Mo_permanent := okM_of (by decide +kernel) cw_X12_permanent rfl rfl rfl rfl
def M_Mo_mixing : eM := (RX12, yX12_mixing, cX12_mixing, 9, (some .int), { frames := 3, cells := 0, slots := 0, locals := 66 }, [(0, .aload_n 0, 1), (1, .iload_n 1, 2), (2, .invokevirtual 111, 5), (5, .ifCond .ne 5, 8), (8, .iconst (-1), 9), (9, .ireturn, 10), (10, .aload_n 0, 11), (11, .getfield 7, 14), (14, .iload_n 1, 15), (15, .iaload, 16), (16, .istore_n 2, 17), (17, .iconst 0, 18), (18, .istore_n 3, 19), (19, .iload_n 3, 20), (20, .iload_n 2, 21), (21, .iload_n 2, 22), (22, .imul, 23), (23, .if_icmp .ge 34, 26), (26, .aload_n 0, 27), (27, .getfield 75, 30), (30, .iload_n 3, 31), (31, .aload_n 0, 32), (32, .getfield 16, 35), (35, .bipush 64, 37), (37, .iload_n 1, 38), (38, .imul, 39), (39, .iload_n 3, 40), (40, .iadd, 41), (41, .iaload, 42), (42, .ifCond .le 7, 45), (45, .iconst 1, 46), (46, .goto 4, 49), (49, .iconst 0, 50), (50, .bastore, 51), (51, .iinc 3 1, 54), (54, .goto (-35), 57), (57, .iconst 1, 58), (58, .istore_n 3, 59), (59, .iload_n 3, 60), (60, .bipush 64, 62), (62, .if_icmp .gt 190, 65), (65, .iconst 1, 66), (66, .istore 4, 68), (68, .iconst 0, 69), (69, .istore 5, 71), (71, .iload 5, 73), (73, .iload_n 2, 74), (74, .iload_n 2, 75), (75, .imul, 76), (76, .if_icmp .ge 31, 79), (79, .iload 4, 81), (81, .ifCond .eq 17, 84), (84, .aload_n 0, 85), (85, .getfield 75, 88), (88, .iload 5, 90), (90, .baload, 91), (91, .ifCond .eq 7, 94), (94, .iconst 1, 95), (95, .goto 4, 98), (98, .iconst 0, 99), (99, .istore 4, 101), (101, .iinc 5 1, 104), (104, .goto (-33), 107), (107, .iload 4, 109), (109, .ifCond .eq 5, 112), (112, .iload_n 3, 113), (113, .ireturn, 114), (114, .iconst 0, 115), (115, .istore 5, 117), (117, .iload 5, 119), (119, .iload_n 2, 120), (120, .if_icmp .ge 95, 123), (123, .iconst 0, 124), (124, .istore 6, 126), (126, .iload 6, 128), (128, .iload_n 2, 129), (129, .if_icmp .ge 80, 132), (132, .iconst 0, 133), (133, .istore 7, 135), (135, .iconst 0, 136), (136, .istore 8, 138), (138, .iload 8, 140), (140, .iload_n 2, 141), (141, .if_icmp .ge 48, 144), (144, .iload 7, 146), (146, .ifCond .ne 30, 149), (149, .aload_n 0, 150), (150, .getfield 75, 153), (153, .iload_n 2, 154), (154, .iload 5, 156), (156, .imul, 157), (157, .iload 8, 159), (159, .iadd, 160), (160, .baload, 161), (161, .ifCond .eq 19, 164), (164, .aload_n 0, 165), (165, .iload_n 1, 166), (166, .iload 8, 168), (168, .iload 6, 170), (170, .invokevirtual 107, 173), (173, .ifCond .le 7, 176), (176, .iconst 1, 177), (177, .goto 4, 180), (180, .iconst 0, 181), (181, .istore 7, 183), (183, .iinc 8 1, 186), (186, .goto (-48), 189), (189, .aload_n 0, 190), (190, .getfield 79, 193), (193, .iload_n 2, 194), (194, .iload 5, 196), (196, .imul, 197), (197, .iload 6, 199), (199, .iadd, 200), (200, .iload 7, 202), (202, .bastore, 203), (203, .iinc 6 1, 206), (206, .goto (-80), 209), (209, .iinc 5 1, 212), (212, .goto (-95), 215), (215, .iconst 0, 216), (216, .istore 5, 218), (218, .iload 5, 220), (220, .iload_n 2, 221), (221, .iload_n 2, 222), (222, .imul, 223), (223, .if_icmp .ge 23, 226), (226, .aload_n 0, 227), (227, .getfield 75, 230), (230, .iload 5, 232), (232, .aload_n 0, 233), (233, .getfield 79, 236), (236, .iload 5, 238), (238, .baload, 239), (239, .bastore, 240), (240, .iinc 5 1, 243), (243, .goto (-25), 246), (246, .iinc 3 1, 249), (249, .goto (-190), 252), (252, .iconst (-1), 253), (253, .ireturn, 254)])
theorem okM_Mo_mixing : okM M_Mo_mixing := okM_of (by decide +kernel) cw_X12_mixing rfl rfl rfl rfl
def M_Mo_kin : eM := (RX12, yX12_kin, cX12_kin, 7, (some .int), { frames := 3, cells := 0, slots := 0, locals := 66 }, [(0, .aload_n 0, 1), (1, .iload_n 1, 2), (2, .invokevirtual 111, 5), (5, .ifCond .eq 21, 8), (8, .iload_n 2, 9), (9, .i2l, 10), (10, .lconst 0, 11), (11, .aload_n 0, 12), (12, .getfield 7, 15), (15, .iload_n 1, 16), (16, .iaload, 17), (17, .iconst 1, 18), (18, .isub, 19), (19, .i2l, 20), (20, .invokestatic 99, 23), (23, .ifCond .ne 5, 26), (26, .iconst (-1), 27), (27, .ireturn, 28), (28, .aload_n 0, 29), (29, .getfield 7, 32), (32, .iload_n 1, 33), (33, .iaload, 34), (34, .istore_n 3, 35), (35, .iconst 0, 36), (36, .istore 4, 38), (38, .iload 4, 40), (40, .iload_n 3, 41), (41, .if_icmp .ge 60, 44), (44, .iconst 0, 45), (45, .istore 5, 47), (47, .iload 5, 49), (49, .iload_n 3, 50), (50, .if_icmp .ge 45, 53), (53, .aload_n 0, 54), (54, .getfield 75, 57), (57, .iload_n 3, 58), (58, .iload 4, 60), (60, .imul, 61), (61, .iload 5, 63), (63, .iadd, 64), (64, .iload 4, 66), (66, .iload 5, 68), (68, .if_icmp .eq 15, 71), (71, .aload_n 0, 72), (72, .iload_n 1, 73), (73, .iload 4, 75), (75, .iload 5, 77), (77, .invokevirtual 107, 80), (80, .ifCond .le 7, 83), (83, .iconst 1, 84), (84, .goto 4, 87), (87, .iconst 0, 88), (88, .bastore, 89), (89, .iinc 5 1, 92), (92, .goto (-45), 95), (95, .iinc 4 1, 98), (98, .goto (-60), 101), (101, .iconst 0, 102), (102, .istore 4, 104), (104, .iload 4, 106), (106, .iload_n 3, 107), (107, .if_icmp .ge 101, 110), (110, .iconst 0, 111), (111, .istore 5, 113), (113, .iload 5, 115), (115, .iload_n 3, 116), (116, .if_icmp .ge 86, 119), (119, .iconst 0, 120), (120, .istore 6, 122), (122, .iload 6, 124), (124, .iload_n 3, 125), (125, .if_icmp .ge 71, 128), (128, .aload_n 0, 129), (129, .getfield 75, 132), (132, .iload_n 3, 133), (133, .iload 5, 135), (135, .imul, 136), (136, .iload 6, 138), (138, .iadd, 139), (139, .aload_n 0, 140), (140, .getfield 75, 143), (143, .iload_n 3, 144), (144, .iload 5, 146), (146, .imul, 147), (147, .iload 6, 149), (149, .iadd, 150), (150, .baload, 151), (151, .ifCond .ne 33, 154), (154, .aload_n 0, 155), (155, .getfield 75, 158), (158, .iload_n 3, 159), (159, .iload 5, 161), (161, .imul, 162), (162, .iload 4, 164), (164, .iadd, 165), (165, .baload, 166), (166, .ifCond .eq 22, 169), (169, .aload_n 0, 170), (170, .getfield 75, 173), (173, .iload_n 3, 174), (174, .iload 4, 176), (176, .imul, 177), (177, .iload 6, 179), (179, .iadd, 180), (180, .baload, 181), (181, .ifCond .eq 7, 184), (184, .iconst 1, 185), (185, .goto 4, 188), (188, .iconst 0, 189), (189, .bastore, 190), (190, .iinc 6 1, 193), (193, .goto (-71), 196), (196, .iinc 5 1, 199), (199, .goto (-86), 202), (202, .iinc 4 1, 205), (205, .goto (-101), 208), (208, .iconst 0, 209), (209, .istore 4, 211), (211, .iconst 0, 212), (212, .istore 5, 214), (214, .iload 5, 216), (216, .iload_n 3, 217), (217, .if_icmp .ge 53, 220), (220, .iload 4, 222), (222, .aload_n 0, 223), (223, .getfield 75, 226), (226, .iload_n 3, 227), (227, .iload_n 2, 228), (228, .imul, 229), (229, .iload 5, 231), (231, .iadd, 232), (232, .baload, 233), (233, .ifCond .eq 21, 236), (236, .aload_n 0, 237), (237, .getfield 75, 240), (240, .iload_n 3, 241), (241, .iload 5, 243), (243, .imul, 244), (244, .iload_n 2, 245), (245, .iadd, 246), (246, .baload, 247), (247, .ifCond .eq 7, 250), (250, .iconst 1, 251), (251, .goto 4, 254), (254, .iconst 0, 255), (255, .invokestatic 192, 258), (258, .iload 5, 260), (260, .ishl, 261), (261, .ior, 262), (262, .istore 4, 264), (264, .iinc 5 1, 267), (267, .goto (-53), 270), (270, .iload 4, 272), (272, .ireturn, 273)])
theorem okM_Mo_kin : okM M_Mo_kin := okM_of (by decide +kernel) cw_X12_kin rfl rfl rfl rfl
def M_Mo_says : eM := (RX12, yX12_says, cX12_says, 2, none, { frames := 0, cells := 0, slots := 0, locals := 0 }, [(0, .aload_n 0, 1), (1, .getfield 82, 4), (4, .aload_n 0, 5), (5, .getfield 357, 8), (8, .iload_n 1, 9), (9, .iastore, 10), (10, .aload_n 0, 11), (11, .dup, 12), (12, .getfield 357, 15), (15, .iconst 1, 16), (16, .iadd, 17), (17, .putfield 357, 20), (20, .return_, 21)])
theorem okM_Mo_says : okM M_Mo_says := okM_of (by decide +kernel) cw_X12_says rfl rfl rfl rfl
def M_Mo_show : eM := (RX12, yX12_show, cX12_show, 4, (some .int), { frames := 1, cells := 0, slots := 0, locals := 21 }, [(0, .aload_n 0, 1), (1, .iconst 0, 2), (2, .putfield 357, 5), (5, .iconst 0, 6), (6, .istore_n 1, 7), (7, .iload_n 1, 8), (8, .aload_n 0, 9), (9, .getfield 273, 12), (12, .if_icmp .ge 108, 15), (15, .iconst 1, 16), (16, .istore_n 2, 17), (17, .aload_n 0, 18), (18, .getfield 48, 21), (21, .iload_n 1, 22), (22, .iaload, 23), (23, .iload_n 2, 24), (24, .idiv, 25), (25, .bipush 9, 27), (27, .if_icmp .le 11, 30), (30, .iload_n 2, 31), (31, .bipush 10, 33), (33, .imul, 34), (34, .istore_n 2, 35), (35, .goto (-18), 38), (38, .iload_n 2, 39), (39, .ifCond .le 29, 42), (42, .aload_n 0, 43), (43, .bipush 48, 45), (45, .aload_n 0, 46), (46, .getfield 48, 49), (49, .iload_n 1, 50), (50, .iaload, 51), (51, .iload_n 2, 52), (52, .idiv, 53), (53, .bipush 10, 55), (55, .irem, 56), (56, .iadd, 57), (57, .invokevirtual 360, 60), (60, .iload_n 2, 61), (61, .bipush 10, 63), (63, .idiv, 64), (64, .istore_n 2, 65), (65, .goto (-27), 68), (68, .aload_n 0, 69), (69, .bipush 58, 71), (71, .invokevirtual 360, 74), (74, .iconst 0, 75), (75, .istore_n 3, 76), (76, .iload_n 3, 77), (77, .aload_n 0, 78), (78, .getfield 276, 81), (81, .if_icmp .ge 27, 84), (84, .aload_n 0, 85), (85, .bipush 48, 87), (87, .aload_n 0, 88), (88, .getfield 51, 91), (91, .bipush 8, 93), (93, .iload_n 1, 94), (94, .imul, 95), (95, .iload_n 3, 96), (96, .iadd, 97), (97, .iaload, 98), (98, .iadd, 99), (99, .invokevirtual 360, 102), (102, .iinc 3 1, 105), (105, .goto (-29), 108), (108, .aload_n 0, 109), (109, .bipush 59, 111), (111, .invokevirtual 360, 114), (114, .iinc 1 1, 117), (117, .goto (-110), 120), (120, .aload_n 0, 121), (121, .getfield 357, 124), (124, .ireturn, 125)])
theorem okM_Mo_show : okM M_Mo_show := okM_of (by decide +kernel) cw_X12_show rfl rfl rfl rfl
def M_Mo_out : eM := (RX12, yX12_out, cX12_out, 2, (some .int), { frames := 1, cells := 0, slots := 0, locals := 25 }, [(0, .iload_n 1, 1), (1, .i2l, 2), (2, .lconst 0, 3), (3, .aload_n 0, 4), (4, .getfield 357, 7), (7, .iconst 1, 8), (8, .isub, 9), (9, .i2l, 10), (10, .invokestatic 99, 13), (13, .ifCond .eq 12, 16), (16, .aload_n 0, 17), (17, .getfield 82, 20), (20, .iload_n 1, 21), (21, .iaload, 22), (22, .goto 4, 25), (25, .iconst (-1), 26), (26, .ireturn, 27)])
theorem okM_Mo_out : okM M_Mo_out := okM_of (by decide +kernel) cw_X12_out rfl rfl rfl rfl
def M_Mo_shop : eM := (RX12, yX12_shop, cX12_shop, 8, (some .int), { frames := 6, cells := 0, slots := 0, locals := 145 }, [(0, .aload_n 0, 1), (1, .iload_n 1, 2), (2, .invokevirtual 111, 5), (5, .ifCond .eq 28, 8), (8, .aload_n 0, 9), (9, .getfield 7, 12), (12, .iload_n 1, 13), (13, .iaload, 14), (14, .iconst 4, 15), (15, .if_icmp .gt 18, 18), (18, .aload_n 0, 19), (19, .iload_n 1, 20), (20, .invokevirtual 205, 23), (23, .ifCond .eq 10, 26), (26, .iload_n 2, 27), (27, .invokestatic 291, 30), (30, .ifCond .ne 5, 33), (33, .iconst (-1), 34), (34, .ireturn, 35), (35, .aload_n 0, 36), (36, .getfield 7, 39), (39, .iload_n 1, 40), (40, .iaload, 41), (41, .istore_n 3, 42), (42, .lconst 0, 43), (43, .lstore 4, 45), (45, .iconst 0, 46), (46, .istore 6, 48), (48, .iload 6, 50), (50, .iload_n 3, 51), (51, .if_icmp .ge 33, 54), (54, .lload 4, 56), (56, .aload_n 0, 57), (57, .iload_n 1, 58), (58, .iload 6, 60), (60, .invokevirtual 114, 63), (63, .aload_n 0, 64), (64, .iload_n 1, 65), (65, .iload 6, 67), (67, .invokevirtual 122, 70), (70, .invokestatic 250, 73), (73, .invokestatic 250, 76), (76, .lstore 4, 78), (78, .iinc 6 1, 81), (81, .goto (-33), 84), (84, .aload_n 0, 85), (85, .iconst 2, 86), (86, .iload_n 3, 87), (87, .imul, 88), (88, .putfield 234, 91), (91, .iconst 0, 92), (92, .istore 6, 94), (94, .iload 6, 96), (96, .bipush 64, 98), (98, .if_icmp .ge 17, 101), (101, .aload_n 0, 102), (102, .getfield 39, 105), (105, .iload 6, 107), (107, .iconst 0, 108), (108, .iastore, 109), (109, .iinc 6 1, 112), (112, .goto (-18), 115), (115, .iconst 0, 116), (116, .istore 6, 118), (118, .iload 6, 120), (120, .iload_n 3, 121), (121, .if_icmp .ge 132, 124), (124, .iconst 0, 125), (125, .istore 7, 127), (127, .iload 7, 129), (129, .iload_n 3, 130), (130, .if_icmp .ge 61, 133), (133, .aload_n 0, 134), (134, .getfield 39, 137), (137, .aload_n 0, 138), (138, .getfield 234, 141), (141, .iload 6, 143), (143, .imul, 144), (144, .iload 7, 146), (146, .iadd, 147), (147, .aload_n 0, 148), (148, .iload_n 1, 149), (149, .iload 6, 151), (151, .iload 7, 153), (153, .invokevirtual 107, 156), (156, .iastore, 157), (157, .aload_n 0, 158), (158, .getfield 39, 161), (161, .aload_n 0, 162), (162, .getfield 234, 165), (165, .iload_n 3, 166), (166, .iload 7, 168), (168, .iadd, 169), (169, .imul, 170), (170, .iload_n 3, 171), (171, .iadd, 172), (172, .iload 6, 174), (174, .iadd, 175), (175, .aload_n 0, 176), (176, .iload_n 1, 177), (177, .iload 6, 179), (179, .iload 7, 181), (181, .invokevirtual 107, 184), (184, .iastore, 185), (185, .iinc 7 1, 188), (188, .goto (-61), 191), (191, .aload_n 0, 192), (192, .getfield 39, 195), (195, .aload_n 0, 196), (196, .getfield 234, 199), (199, .iload 6, 201), (201, .imul, 202), (202, .iload_n 3, 203), (203, .iadd, 204), (204, .iload 6, 206), (206, .iadd, 207), (207, .lload 4, 209), (209, .aload_n 0, 210), (210, .iload_n 1, 211), (211, .iload 6, 213), (213, .invokevirtual 114, 216), (216, .lsub, 217), (217, .l2i, 218), (218, .iastore, 219), (219, .aload_n 0, 220), (220, .getfield 39, 223), (223, .aload_n 0, 224), (224, .getfield 234, 227), (227, .iload_n 3, 228), (228, .iload 6, 230), (230, .iadd, 231), (231, .imul, 232), (232, .iload 6, 234), (234, .iadd, 235), (235, .lload 4, 237), (237, .aload_n 0, 238), (238, .iload_n 1, 239), (239, .iload 6, 241), (241, .invokevirtual 122, 244), (244, .lsub, 245), (245, .l2i, 246), (246, .iastore, 247), (247, .iinc 6 1, 250), (250, .goto (-132), 253), (253, .aload_n 0, 254), (254, .iload_n 3, 255), (255, .putfield 363, 258), (258, .aload_n 0, 259), (259, .iload_n 2, 260), (260, .iconst 2, 261), (261, .lload 4, 263), (263, .l2i, 264), (264, .invokevirtual 297, 267), (267, .ireturn, 268)])
theorem okM_Mo_shop : okM M_Mo_shop := okM_of (by decide +kernel) cw_X12_shop rfl rfl rfl rfl
def M_Mo_isJob : eM := (RX12, yX12_isJob, cX12_isJob, 2, (some .boolean), { frames := 1, cells := 0, slots := 0, locals := 25 }, [(0, .aload_n 0, 1), (1, .getfield 282, 4), (4, .iconst 2, 5), (5, .if_icmp .ne 23, 8), (8, .iload_n 1, 9), (9, .i2l, 10), (10, .lconst 0, 11), (11, .aload_n 0, 12), (12, .getfield 363, 15), (15, .iconst 1, 16), (16, .isub, 17), (17, .i2l, 18), (18, .invokestatic 99, 21), (21, .ifCond .eq 7, 24), (24, .iconst 1, 25), (25, .goto 4, 28), (28, .iconst 0, 29), (29, .ireturn, 30)])
theorem okM_Mo_isJob : okM M_Mo_isJob := okM_of (by decide +kernel) cw_X12_isJob rfl rfl rfl rfl
def M_Mo_works : eM := (RX12, yX12_works, cX12_works, 4, (some .int), { frames := 2, cells := 0, slots := 0, locals := 48 }, [(0, .aload_n 0, 1), (1, .iload_n 1, 2), (2, .invokevirtual 366, 5), (5, .ifCond .eq 19, 8), (8, .iload_n 2, 9), (9, .i2l, 10), (10, .lconst 0, 11), (11, .aload_n 0, 12), (12, .getfield 279, 15), (15, .iconst 1, 16), (16, .isub, 17), (17, .i2l, 18), (18, .invokestatic 99, 21), (21, .ifCond .ne 5, 24), (24, .iconst (-1), 25), (25, .ireturn, 26), (26, .aload_n 0, 27), (27, .getfield 51, 30), (30, .bipush 8, 32), (32, .aload_n 0, 33), (33, .iload_n 2, 34), (34, .invokevirtual 369, 37), (37, .imul, 38), (38, .iload_n 1, 39), (39, .iadd, 40), (40, .iaload, 41), (41, .istore_n 3, 42), (42, .iload_n 3, 43), (43, .aload_n 0, 44), (44, .getfield 363, 47), (47, .if_icmp .ge 7, 50), (50, .iload_n 3, 51), (51, .goto 4, 54), (54, .iconst (-1), 55), (55, .ireturn, 56)])
theorem okM_Mo_works : okM M_Mo_works := okM_of (by decide +kernel) cw_X12_works rfl rfl rfl rfl
def M_Mo_job : eM := (RX12, yX12_job, cX12_job, 10, (some .int), { frames := 2, cells := 0, slots := 0, locals := 46 }, [(0, .aload_n 0, 1), (1, .iload_n 1, 2), (2, .invokevirtual 366, 5), (5, .ifCond .eq 15, 8), (8, .iload_n 2, 9), (9, .i2l, 10), (10, .lconst 0, 11), (11, .ldc2_w 306, 14), (14, .invokestatic 99, 17), (17, .ifCond .ne 5, 20), (20, .iconst (-1), 21), (21, .ireturn, 22), (22, .iconst 0, 23), (23, .istore_n 3, 24), (24, .iconst 0, 25), (25, .istore 4, 27), (27, .iconst 0, 28), (28, .istore 5, 30), (30, .iconst 0, 31), (31, .istore 6, 33), (33, .iconst (-1), 34), (34, .istore 7, 36), (36, .iconst 0, 37), (37, .istore 8, 39), (39, .iload 8, 41), (41, .aload_n 0, 42), (42, .getfield 273, 45), (45, .if_icmp .ge 81, 48), (48, .iload_n 3, 49), (49, .aload_n 0, 50), (50, .getfield 48, 53), (53, .iload 8, 55), (55, .iaload, 56), (56, .iadd, 57), (57, .istore_n 3, 58), (58, .aload_n 0, 59), (59, .getfield 51, 62), (62, .bipush 8, 64), (64, .iload 8, 66), (66, .imul, 67), (67, .iload_n 1, 68), (68, .iadd, 69), (69, .iaload, 70), (70, .istore 9, 72), (72, .iload 9, 74), (74, .aload_n 0, 75), (75, .getfield 363, 78), (78, .if_icmp .lt 6, 81), (81, .goto 39, 84), (84, .iload_n 3, 85), (85, .istore 4, 87), (87, .iinc 5 1, 90), (90, .iload 6, 92), (92, .iload 7, 94), (94, .iconst (-1), 95), (95, .if_icmp .eq 14, 98), (98, .iload 7, 100), (100, .iload 9, 102), (102, .if_icmp .eq 7, 105), (105, .iconst 1, 106), (106, .goto 4, 109), (109, .iconst 0, 110), (110, .invokestatic 192, 113), (113, .iadd, 114), (114, .istore 6, 116), (116, .iload 9, 118), (118, .istore 7, 120), (120, .iinc 8 1, 123), (123, .goto (-84), 126), (126, .iload_n 2, 127), (127, .ifCond .ne 8, 130), (130, .iload 4, 132), (132, .goto 15, 135), (135, .iload_n 2, 136), (136, .iconst 1, 137), (137, .if_icmp .ne 8, 140), (140, .iload 5, 142), (142, .goto 5, 145), (145, .iload 6, 147), (147, .ireturn, 148)])
theorem okM_Mo_job : okM M_Mo_job := okM_of (by decide +kernel) cw_X12_job rfl rfl rfl rfl
def M_Mo_kept : eM := (RX12, yX12_kept, cX12_kept, 2, (some .int), { frames := 0, cells := 0, slots := 0, locals := 0 }, [(0, .iload_n 1, 1), (1, .tableswitch 75 0 4 #[35, 40, 45, 50, 70], 36), (36, .aload_n 0, 37), (37, .getfield 282, 40), (40, .ireturn, 41), (41, .aload_n 0, 42), (42, .getfield 273, 45), (45, .ireturn, 46), (46, .aload_n 0, 47), (47, .getfield 279, 50), (50, .ireturn, 51), (51, .aload_n 0, 52), (52, .getfield 282, 55), (55, .iconst 2, 56), (56, .if_icmp .ne 10, 59), (59, .aload_n 0, 60), (60, .getfield 363, 63), (63, .goto 7, 66), (66, .aload_n 0, 67), (67, .getfield 276, 70), (70, .ireturn, 71), (71, .aload_n 0, 72), (72, .getfield 125, 75), (75, .ireturn, 76), (76, .iconst (-1), 77), (77, .ireturn, 78)])
theorem okM_Mo_kept : okM M_Mo_kept := okM_of (by decide +kernel) cw_X12_kept rfl rfl rfl rfl
end
section
/-! Math.max, Math.min, System.arraycopy -/
theorem mx_of {a b : Int} (ha : rg a) (hb : rg b) : (if Int32.ofInt a < Int32.ofInt b then Int32.ofInt b else Int32.ofInt a) = Int32.ofInt (max a b) ∧ rg (max a b) := by
  have e := rg_lt ha hb
  by_cases h : a < b
  · rw [if_pos (e.mpr h)]
    have : max a b = b := by omega
    rw [this]
    exact ⟨rfl, hb⟩
  · rw [if_neg (fun q => h (e.mp q))]
    have : max a b = a := by omega
    rw [this]
    exact ⟨rfl, ha⟩
theorem mn_of {a b : Int} (ha : rg a) (hb : rg b) : (if Int32.ofInt b < Int32.ofInt a then Int32.ofInt b else Int32.ofInt a) = Int32.ofInt (min a b) ∧ rg (min a b) := by
  have e := rg_lt hb ha
  by_cases h : b < a
  · rw [if_pos (e.mpr h)]
    have : min a b = b := by omega
    rw [this]
    exact ⟨rfl, hb⟩
  · rw [if_neg (fun q => h (e.mp q))]
    have : min a b = a := by omega
    rw [this]
    exact ⟨rfl, ha⟩
theorem mxL_of {a b : Int} (ha : rl a) (hb : rl b) : (if Int64.ofInt b < Int64.ofInt a then Int64.ofInt a else Int64.ofInt b) = Int64.ofInt (max a b) ∧ rl (max a b) := by
  have e := rl_lt hb ha
  by_cases h : b < a
  · rw [if_pos (e.mpr h)]
    have : max a b = a := by omega
    rw [this]
    exact ⟨rfl, ha⟩
  · rw [if_neg (fun q => h (e.mp q))]
    have : max a b = b := by omega
    rw [this]
    exact ⟨rfl, hb⟩
theorem mnL_of {a b : Int} (ha : rl a) (hb : rl b) : (if Int64.ofInt b < Int64.ofInt a then Int64.ofInt b else Int64.ofInt a) = Int64.ofInt (min a b) ∧ rl (min a b) := by
  have e := rl_lt hb ha
  by_cases h : b < a
  · rw [if_pos (e.mpr h)]
    have : min a b = b := by omega
    rw [this]
    exact ⟨rfl, hb⟩
  · rw [if_neg (fun q => h (e.mp q))]
    have : min a b = a := by omega
    rw [this]
    exact ⟨rfl, ha⟩
/-- part of a row of ints, copied -/
def cp (σ : eS) (c0 : Nat) (sp : Int) (c1 : Nat) (dp n : Int) : eS := fun c k => if c = c1 ∧ dp ≤ k ∧ k < dp + n then σ c0 (sp + (k - dp)) else σ c k
theorem eW_ch {sh : eSh} {dA : Nat → ClassId} {ad : Nat → Nat} {σ σ' : eS} {c : Nat} {r : Nat × Nat × List Nat} (h : sh[c]? = some r) (ho : ∀ c', c' ≠ c → ∀ k, σ' c' k = σ c' k) {x : va_E} (hx : eE dA ad σ' c r = x) : (eW sh dA ad σ).set c (ad c, x) = eW sh dA ad σ' := by
  subst hx
  apply List.ext_getElem?
  intro j
  by_cases hj : j = c
  · subst hj
    rw [eW_at h, List.getElem?_set_self]
    simp only [eW, List.length_mapIdx]
    exact (List.getElem?_eq_some_iff.mp h).1
  · rw [List.getElem?_set_ne (fun q => hj q.symm)]
    simp only [eW, List.getElem?_mapIdx]
    cases sh[j]? with
    | none => rfl
    | some r' =>
      simp only [Option.map_some]
      unfold eE
      simp only [ho j hj]
section E5
variable {sh : eSh} {M : eM} {pc pc' tgt : Nat} {ls : List (Option eV)} {st : List eV} {σ : eS} {Q : eS → Option eV → Prop}
theorem ok_mmax (i : Nat) {x : Nat} {a b : Int} (hd : nth (eTab M) i = some (pc, .invokestatic x, pc')) (hn : pc + 3 = pc') (hl : eLkS (eOwn M) x yJ9_max_7cf53 2) (hr : 1 ≤ (eRm M).frames ∧ (st.map eCat).sum + 13 ≤ (eRm M).locals) (K : Ok sh M pc' ls (vi (max a b) :: st) σ Q) : Ok sh M pc ls (vi b :: vi a :: st) σ Q := by
  intro l p e s m args below meth c D dA ad H locs la C hH hL hS
  obtain ⟨hb, ha, hs⟩ := hS
  obtain ⟨w1, w2, w3, -⟩ := hl
  refine va_mmax C.2.1 C.2.2.1 (by rw [C.2.2.2.1, hL.1]) C.2.2.2.2.2.2.1 (C.2.2.2.2.2.2.2.1 _ w1) (C.2.2.2.2.2.2.2.1 _ w3) (C.2.2.2.2.2.2.2.1 _ w2) (C.2.2.2.2.2.2.2.1 _ cw_J9_max_7cf53) hr.1 (by rw [cat_sum]; exact hr.2) (Nat.zero_le _) (Nat.zero_le _) (C.1.dec hd hn) (Ok.go K C hH hL ⟨(mx_of ha hb).2, hs⟩ hn ?_)
  show Value.int (Int32.ofInt (max a b)) :: _ = _
  rw [(mx_of ha hb).1]
theorem ok_mmin (i : Nat) {x : Nat} {a b : Int} (hd : nth (eTab M) i = some (pc, .invokestatic x, pc')) (hn : pc + 3 = pc') (hl : eLkS (eOwn M) x yJ9_min_7cf53 2) (hr : 1 ≤ (eRm M).frames ∧ (st.map eCat).sum + 13 ≤ (eRm M).locals) (K : Ok sh M pc' ls (vi (min a b) :: st) σ Q) : Ok sh M pc ls (vi b :: vi a :: st) σ Q := by
  intro l p e s m args below meth c D dA ad H locs la C hH hL hS
  obtain ⟨hb, ha, hs⟩ := hS
  obtain ⟨w1, w2, w3, -⟩ := hl
  refine va_mmin C.2.1 C.2.2.1 (by rw [C.2.2.2.1, hL.1]) C.2.2.2.2.2.2.1 (C.2.2.2.2.2.2.2.1 _ w1) (C.2.2.2.2.2.2.2.1 _ w3) (C.2.2.2.2.2.2.2.1 _ w2) (C.2.2.2.2.2.2.2.1 _ cw_J9_min_7cf53) hr.1 (by rw [cat_sum]; exact hr.2) (Nat.zero_le _) (Nat.zero_le _) (C.1.dec hd hn) (Ok.go K C hH hL ⟨(mn_of ha hb).2, hs⟩ hn ?_)
  show Value.int (Int32.ofInt (min a b)) :: _ = _
  rw [(mn_of ha hb).1]
theorem ok_mmaxL (i : Nat) {x : Nat} {a b : Int} (hd : nth (eTab M) i = some (pc, .invokestatic x, pc')) (hn : pc + 3 = pc') (hl : eLkS (eOwn M) x yJ9_max_f86c9 2) (hr : 1 ≤ (eRm M).frames ∧ (st.map eCat).sum + 15 ≤ (eRm M).locals) (K : Ok sh M pc' ls (vl (max a b) :: st) σ Q) : Ok sh M pc ls (vl b :: vl a :: st) σ Q := by
  intro l p e s m args below meth c D dA ad H locs la C hH hL hS
  obtain ⟨hb, ha, hs⟩ := hS
  obtain ⟨w1, w2, w3, -⟩ := hl
  refine va_mmax_long C.2.1 C.2.2.1 (by rw [C.2.2.2.1, hL.1]) C.2.2.2.2.2.2.1 (C.2.2.2.2.2.2.2.1 _ w1) (C.2.2.2.2.2.2.2.1 _ w3) (C.2.2.2.2.2.2.2.1 _ w2) (C.2.2.2.2.2.2.2.1 _ cw_J9_max_f86c9) hr.1 (by rw [cat_sum]; exact hr.2) (Nat.zero_le _) (Nat.zero_le _) (C.1.dec hd hn) (Ok.go K C hH hL ⟨(mxL_of ha hb).2, hs⟩ hn ?_)
  show Value.long (Int64.ofInt (max a b)) :: _ = _
  rw [(mxL_of ha hb).1]
theorem ok_mminL (i : Nat) {x : Nat} {a b : Int} (hd : nth (eTab M) i = some (pc, .invokestatic x, pc')) (hn : pc + 3 = pc') (hl : eLkS (eOwn M) x yJ9_min_f86c9 2) (hr : 1 ≤ (eRm M).frames ∧ (st.map eCat).sum + 15 ≤ (eRm M).locals) (K : Ok sh M pc' ls (vl (min a b) :: st) σ Q) : Ok sh M pc ls (vl b :: vl a :: st) σ Q := by
  intro l p e s m args below meth c D dA ad H locs la C hH hL hS
  obtain ⟨hb, ha, hs⟩ := hS
  obtain ⟨w1, w2, w3, -⟩ := hl
  refine va_mmin_long C.2.1 C.2.2.1 (by rw [C.2.2.2.1, hL.1]) C.2.2.2.2.2.2.1 (C.2.2.2.2.2.2.2.1 _ w1) (C.2.2.2.2.2.2.2.1 _ w3) (C.2.2.2.2.2.2.2.1 _ w2) (C.2.2.2.2.2.2.2.1 _ cw_J9_min_f86c9) hr.1 (by rw [cat_sum]; exact hr.2) (Nat.zero_le _) (Nat.zero_le _) (C.1.dec hd hn) (Ok.go K C hH hL ⟨(mnL_of ha hb).2, hs⟩ hn ?_)
  show Value.long (Int64.ofInt (min a b)) :: _ = _
  rw [(mnL_of ha hb).1]
theorem ok_copy (i : Nat) {x c0 c1 n0 n1 : Nat} {r0 r1 : List Nat} {sp dp n : Int} (hd : nth (eTab M) i = some (pc, .invokestatic x, pc')) (hn : pc + 3 = pc') (hl : Cond.methodLink (eOwn M) x arraycopyName ∈ eTbl) (hr : 1 ≤ (eRm M).frames ∧ (st.map eCat).sum + (nativeFrameWords "java/lang/System" "arraycopy" 5 + 11) ≤ (eRm M).locals) (hs0 : nth sh c0 = some (1, n0, r0)) (hs1 : nth sh c1 = some (1, n1, r1)) (h1 : 0 ≤ sp) (h2 : 0 ≤ dp) (h3 : 0 ≤ n) (h4 : sp + n ≤ n0) (h5 : dp + n ≤ n1) (K : Ok sh M pc' ls st (cp σ c0 sp c1 dp n) Q) : Ok sh M pc ls (vi n :: vi dp :: vr c1 :: vi sp :: vr c0 :: st) σ Q := by
  intro l p e s m args below meth c D dA ad H locs la C hH hL hS
  obtain ⟨kn, kd, -, ks, -, hs⟩ := hS
  have w0 := eW_at (dA := dA) (ad := ad) (σ := σ) (nth_get hs0)
  have w1 := eW_at (dA := dA) (ad := ad) (σ := σ) (nth_get hs1)
  have en : (Int32.ofInt n).toNatClampNeg = n.toNat := by show (Int32.ofInt n).toInt.toNat = _; rw [rg_in kn]
  have ed : (Int32.ofInt dp).toNatClampNeg = dp.toNat := by show (Int32.ofInt dp).toInt.toNat = _; rw [rg_in kd]
  have es : (Int32.ofInt sp).toNatClampNeg = sp.toNat := by show (Int32.ofInt sp).toInt.toNat = _; rw [rg_in ks]
  have nn : ∀ {z : Int}, rg z → 0 ≤ z → ¬ Int32.ofInt z < 0 := fun {z} hz h0 q => by
    have := (rg_lt hz rg_0).mp (by rw [of_0]; exact q)
    omega
  have hK2 : va_K D eCl [(dA c0, .int), (dA c1, .int)] s := by
    refine ⟨C.2.2.2.2.2.2.2.2.1.1, fun k q h => ?_⟩
    match k, h with
    | 0, h => cases h; exact C.2.2.2.2.2.2.2.2.2.1 c0 _ (nth_get hs0) (Nat.succ_ne_zero _)
    | 1, h => cases h; exact C.2.2.2.2.2.2.2.2.2.1 c1 _ (nth_get hs1) (Nat.succ_ne_zero _)
    | k + 2, h => simp at h
  refine va_copyi (a := ad c1) C.2.1 C.2.2.1 (by rw [C.2.2.2.1, hL.1]) C.2.2.2.2.2.2.1 (C.2.2.2.2.2.2.2.1 _ hl) (C.2.2.2.2.2.2.2.1 _ (wd3 106 rfl rfl)) (C.2.2.2.2.2.2.2.1 _ (wd3 105 rfl rfl)) (C.2.2.2.2.2.2.2.1 _ (wd1 17 rfl rfl)) hK2 hH.1 (eD C.2.2.2.2.2.2.2.2.2.2) hH.2.1 c0 c1 0 1 w0 w1 rfl rfl rfl (nn ks h1) (nn kd h2) (nn kn h3) (by show _ ≤ n0; rw [es, en]; omega) (by show _ ≤ n1; rw [ed, en]; omega) (fun i _ => rfl) hr.1 (by rw [cat_sum]; exact hr.2) (C.1.dec hd hn) (fun H1 locs1 hP1 _ hS1 => ?_)
  have he : eE dA ad (cp σ c0 sp c1 dp n) c1 (1, n1, r1) = .inl (dA c1, n1, .inl (va_cpy (fun k => Int32.ofInt (σ c0 ((k : Nat) : Int))) (fun k => Int32.ofInt (σ c1 ((k : Nat) : Int))) sp.toNat dp.toNat n.toNat)) := by
    show Sum.inl (dA c1, n1, Sum.inl (fun k : Nat => Int32.ofInt (cp σ c0 sp c1 dp n c1 (k : Int)))) = _
    congr 4
    funext k
    unfold va_cpy cp
    by_cases hk : dp.toNat ≤ k ∧ k < dp.toNat + n.toNat
    · rw [if_pos hk, if_pos ⟨rfl, by omega, by omega⟩]
      congr 2
      omega
    · rw [if_neg hk, if_neg (by omega)]
  rw [es, ed, en, eW_ch (nth_get hs1) (fun c' hc k => by simp [cp, hc]) he] at hP1
  refine Ok.go K C ⟨hP1, hS1, fun c' k' => ?_⟩ hL hs hn rfl
  have g0 := hH.2.2 c0 (sp + (k' - dp))
  have g1 := hH.2.2 c' k'
  have l0 : eLong sh c0 (sp + (k' - dp)) = false := by unfold eLong; rw [nth_get hs0]; rfl
  unfold cp
  by_cases hc : c' = c1 ∧ dp ≤ k' ∧ k' < dp + n
  · rw [if_pos hc]
    exact ⟨g0.1, fun _ => g0.2 l0⟩
  · rw [if_neg hc]
    exact g1
end E5
end
section
/-! the cells of the class (shA) and of the reference (shB): what each is -/
def shA : eSh := [(0, 9, [4, 13, 17, 19, 23, 25, 28, 43, 49]), (4, 4, [2, 3, 4, 5]),
  (0, 7, [9, 0, 0, 0, 2, 1, 2, 0, 0]), (0, 7, [10, 0, 0, 0, 2, 1, 2, 0, 0]), (0, 7, [11, 0, 0, 0, 2, 1, 2, 0, 0]), (0, 7, [12, 0, 0, 0, 2, 1, 2, 0, 0]),
  (1, 64, []), (1, 64, []), (1, 64, []), (1, 64, []),
  (0, 8, [14, 15, 16, 0, 0, 0, 0, 0, 0, 0]), (1, 600, []), (1, 64, []), (1, 64, []),
  (0, 1, [18]), (2, 64, []),
  (0, 0, [20, 21, 22, 0]), (1, 8, []), (2, 256, []), (1, 256, []),
  (0, 3, [19, 24, 0, 0, 0, 0]), (1, 64, []),
  (0, 2, [26, 27, 0, 0, 0, 0, 0]), (1, 64, []), (1, 512, []),
  (0, 5, [19, 29, 30, 31, 32]), (5, 5, [30, 31, 32, 33, 34]), (1, 16, []), (1, 3, []), (1, 3, []),
  (0, 3, [19, 38, 0, 0, 0, 0]), (0, 3, [19, 39, 0, 0, 0, 0]), (0, 3, [19, 40, 0, 0, 0, 0]), (0, 3, [19, 41, 0, 0, 0, 0]), (0, 3, [19, 42, 0, 0, 0, 0]),
  (1, 64, []), (1, 64, []), (1, 64, []), (1, 64, []), (1, 64, []),
  (0, 4, [44, 45, 46, 47, 48]), (1, 324, []), (1, 324, []), (1, 324, []), (1, 18, []), (1, 18, []),
  (0, 6, [50, 0]), (1, 1216, [])]
def shB : eSh := [(0, 10, [4, 5, 6, 7, 1, 8, 0, 0, 0, 0, 0, 0, 0, 0, 0, 0, 9, 10, 0, 0, 11, 12, 0, 13, 14, 15, 16, 0, 0, 0, 0, 0, 17, 18, 19, 20, 21, 22, 23, 24, 25, 26, 0]),
  (1, 4, []), (1, 4, []), (1, 256, []), (2, 64, []), (1, 600, []), (1, 64, []), (1, 64, []), (1, 16, []), (1, 64, []), (2, 256, []), (1, 8, []), (1, 64, []), (1, 512, []),
  (1, 64, []), (1, 17, []), (1, 17, []), (1, 400, []), (1, 20, []), (1, 20, []), (2, 256, []), (3, 64, []), (3, 64, []), (1, 1400, [])]
/-- a loop: with a measure that falls -/
theorem lp {α : Type} (G I : α → Prop) (μ : α → Nat) (hs : ∀ a, I a → (∀ b, I b → μ b < μ a → G b) → G a) : ∀ a, I a → G a := by
  intro a
  have key : ∀ (n : Nat) (a : α), μ a < n → I a → G a := by
    intro n
    induction n with
    | zero => intro a h; omega
    | succ n ih => intro a h hi; exact hs a hi fun b hb hm => ih b (by omega) hb
  exact key (μ a + 1) a (by omega)
end
section
/-- a loop whose head has an empty stack -/
theorem lpO {α : Type} {sh : eSh} {M : eM} {pc : Nat} {Q : eS → Option eV → Prop} (L : α → List (Option eV)) (S : α → eS) (I : α → Prop) (μ : α → Nat) (hs : ∀ a, I a → (∀ b, I b → μ b < μ a → Ok sh M pc (L b) [] (S b) Q) → Ok sh M pc (L a) [] (S a) Q) (a : α) (ha : I a) : Ok sh M pc (L a) [] (S a) Q :=
  lp (fun a => Ok sh M pc (L a) [] (S a) Q) I μ hs a ha
theorem lpO2 {α β : Type} {sh : eSh} {M : eM} {pc : Nat} {Q : eS → Option eV → Prop} (L : α → β → List (Option eV)) (S : α → β → eS) (I : α → β → Prop) (μ : α → β → Nat) (hs : ∀ a b, I a b → (∀ a' b', I a' b' → μ a' b' < μ a b → Ok sh M pc (L a' b') [] (S a' b') Q) → Ok sh M pc (L a b) [] (S a b) Q) (a : α) (b : β) (ha : I a b) : Ok sh M pc (L a b) [] (S a b) Q :=
  lp (fun q : α × β => Ok sh M pc (L q.1 q.2) [] (S q.1 q.2) Q) (fun q => I q.1 q.2) (fun q => μ q.1 q.2) (fun q hq ih => hs q.1 q.2 hq (fun a' b' h1 h2 => ih (a', b') h1 h2)) (a, b) ha
theorem lpO3 {α β γ : Type} {sh : eSh} {M : eM} {pc : Nat} {Q : eS → Option eV → Prop} (L : α → β → γ → List (Option eV)) (S : α → β → γ → eS) (I : α → β → γ → Prop) (μ : α → β → γ → Nat) (hs : ∀ a b c, I a b c → (∀ a' b' c', I a' b' c' → μ a' b' c' < μ a b c → Ok sh M pc (L a' b' c') [] (S a' b' c') Q) → Ok sh M pc (L a b c) [] (S a b c) Q) (a : α) (b : β) (c : γ) (ha : I a b c) : Ok sh M pc (L a b c) [] (S a b c) Q :=
  lp (fun q : α × β × γ => Ok sh M pc (L q.1 q.2.1 q.2.2) [] (S q.1 q.2.1 q.2.2) Q) (fun q => I q.1 q.2.1 q.2.2) (fun q => μ q.1 q.2.1 q.2.2) (fun q hq ih => hs q.1 q.2.1 q.2.2 hq (fun a' b' c' h1 h2 => ih (a', b', c') h1 h2)) (a, b, c) ha
theorem lpO4 {α β γ δ : Type} {sh : eSh} {M : eM} {pc : Nat} {Q : eS → Option eV → Prop} (L : α → β → γ → δ → List (Option eV)) (S : α → β → γ → δ → eS) (I : α → β → γ → δ → Prop) (μ : α → β → γ → δ → Nat) (hs : ∀ a b c d, I a b c d → (∀ a' b' c' d', I a' b' c' d' → μ a' b' c' d' < μ a b c d → Ok sh M pc (L a' b' c' d') [] (S a' b' c' d') Q) → Ok sh M pc (L a b c d) [] (S a b c d) Q) (a : α) (b : β) (c : γ) (d : δ) (ha : I a b c d) : Ok sh M pc (L a b c d) [] (S a b c d) Q :=
  lp (fun q : α × β × γ × δ => Ok sh M pc (L q.1 q.2.1 q.2.2.1 q.2.2.2) [] (S q.1 q.2.1 q.2.2.1 q.2.2.2) Q) (fun q => I q.1 q.2.1 q.2.2.1 q.2.2.2) (fun q => μ q.1 q.2.1 q.2.2.1 q.2.2.2) (fun q hq ih => hs q.1 q.2.1 q.2.2.1 q.2.2.2 hq (fun a' b' c' d' h1 h2 => ih (a', b', c', d') h1 h2)) (a, b, c, d) ha
/-- some locals forgotten -/
def eFg : List (Option eV) → List (Option eV) → Prop
  | [], [] => True
  | none :: l, _ :: l' => eFg l l'
  | some v :: l, x :: l' => x = some v ∧ eFg l l'
  | _, _ => False
theorem eFg_at : ∀ {l l' : List (Option eV)}, eFg l l' → l.length = l'.length ∧ ∀ (i : Nat) (v : eV), l[i]? = some (some v) → l'[i]? = some (some v)
  | [], [], _ => ⟨rfl, fun i v h => by simp at h⟩
  | none :: l, x :: l', h => by
    obtain ⟨h1, h2⟩ := eFg_at (l := l) (l' := l') h
    refine ⟨by simp [h1], fun i v q => ?_⟩
    cases i with
    | zero => simp at q
    | succ i => rw [List.getElem?_cons_succ] at q ⊢; exact h2 i v q
  | some w :: l, x :: l', h => by
    obtain ⟨h1, h2⟩ := eFg_at (l := l) (l' := l') h.2
    refine ⟨by simp [h1], fun i v q => ?_⟩
    cases i with
    | zero => rw [h.1]; exact q
    | succ i => rw [List.getElem?_cons_succ] at q ⊢; exact h2 i v q
  | [], _ :: _, h => h.elim
  | _ :: _, [], h => by cases ‹Option eV› <;> exact h.elim
theorem ok_fg {sh : eSh} {M : eM} {pc : Nat} {ls : List (Option eV)} {st : List eV} {σ : eS} {Q : eS → Option eV → Prop} (ls' : List (Option eV)) (h : eFg ls' ls) (k : Ok sh M pc ls' st σ Q) : Ok sh M pc ls st σ Q := fun l p e s m args below meth c D dA ad H locs la C hH hL hS => by
  obtain ⟨h1, h2⟩ := eFg_at h
  exact k l p e s m args below meth c D dA ad H locs la C hH ⟨hL.1, h1.trans hL.2.1, hL.2.2.1, fun i v q => hL.2.2.2 i v (h2 i v q)⟩ hS
/-- sums -/
def sm (f : Int → Int) : Nat → Int
  | 0 => 0
  | n + 1 => sm f n + f n
theorem sm_s (f : Int → Int) {j : Int} (h : 0 ≤ j) : sm f (j + 1).toNat = sm f j.toNat + f j := by
  have : (j + 1).toNat = j.toNat + 1 := by omega
  rw [this]
  show _ + f ((j.toNat : Nat) : Int) = _
  rw [Int.toNat_of_nonneg h]
theorem sm_cg {f g : Int → Int} : ∀ {n : Nat}, (∀ k : Int, 0 ≤ k → k < n → f k = g k) → sm f n = sm g n
  | 0, _ => rfl
  | n + 1, h => by
    show sm f n + f n = sm g n + g n
    rw [sm_cg (n := n) (fun k h1 h2 => h k h1 (by omega)), h n (by omega) (by omega)]
theorem sm_bd {f : Int → Int} {B : Int} (hB : 0 ≤ B) : ∀ {n : Nat}, (∀ k : Int, 0 ≤ k → k < n → 0 ≤ f k ∧ f k ≤ B) → 0 ≤ sm f n ∧ sm f n ≤ B * n
  | 0, _ => ⟨Int.le_refl _, by show (0 : Int) ≤ B * 0; omega⟩
  | n + 1, h => by
    have h1 := sm_bd hB (n := n) (fun k h1 h2 => h k h1 (by omega))
    have h2 := h n (by omega) (by omega)
    show 0 ≤ sm f n + f n ∧ sm f n + f n ≤ B * ((n + 1 : Nat) : Int)
    have e : B * ((n + 1 : Nat) : Int) = B * n + B := by rw [Int.natCast_add, Int.mul_add]; simp
    rw [e]
    omega
theorem sm_le {f : Int → Int} : ∀ {n : Nat}, (∀ k : Int, 0 ≤ k → k < n → 0 ≤ f k) → ∀ k : Int, 0 ≤ k → k < n → f k ≤ sm f n
  | 0, _, k, h1, h2 => by omega
  | n + 1, h, k, h1, h2 => by
    have h3 : 0 ≤ sm f n := by
      have : ∀ m : Nat, m ≤ n → 0 ≤ sm f m := by
        intro m hm
        induction m with
        | zero => exact Int.le_refl _
        | succ m ih =>
          have a := ih (by omega)
          have b := h m (by omega) (by omega)
          show 0 ≤ sm f m + f m
          omega
      exact this n (Nat.le_refl _)
    show f k ≤ sm f n + f n
    by_cases hk : k < n
    · have a := sm_le (n := n) (fun k h1 h2 => h k h1 (by omega)) k h1 hk
      have b := h n (by omega) (by omega)
      omega
    · have : k = n := by omega
      subst this
      omega
/-- products of small numbers -/
theorem ix8 {n i j : Int} (hn : 0 ≤ n ∧ n ≤ 8) (hi : 0 ≤ i ∧ i < n) (hj : 0 ≤ j ∧ j < n) : 0 ≤ n * i ∧ n * i ≤ 56 ∧ n * i + j < n * n ∧ n * n ≤ 64 := by
  have : n = 0 ∨ n = 1 ∨ n = 2 ∨ n = 3 ∨ n = 4 ∨ n = 5 ∨ n = 6 ∨ n = 7 ∨ n = 8 := by omega
  rcases this with rfl | rfl | rfl | rfl | rfl | rfl | rfl | rfl | rfl <;> omega
theorem sq8 {n : Int} (hn : 0 ≤ n ∧ n ≤ 8) : 0 ≤ n * n ∧ n * n ≤ 64 := by
  have : n = 0 ∨ n = 1 ∨ n = 2 ∨ n = 3 ∨ n = 4 ∨ n = 5 ∨ n = 6 ∨ n = 7 ∨ n = 8 := by omega
  rcases this with rfl | rfl | rfl | rfl | rfl | rfl | rfl | rfl | rfl <;> omega
theorem gcd_step {a b : Int} (ha : 0 ≤ a) (hb : 0 < b) : Int.gcd b (a % b) = Int.gcd a b := by
  obtain ⟨m, rfl⟩ := Int.eq_ofNat_of_zero_le ha
  obtain ⟨n, rfl⟩ := Int.eq_ofNat_of_zero_le (Int.le_of_lt hb)
  show Nat.gcd n (((m : Int) % (n : Int)).natAbs) = Nat.gcd m n
  rw [← Int.natCast_emod, Int.natAbs_natCast, Nat.gcd_comm n, ← Nat.gcd_rec, Nat.gcd_comm]
theorem gcd_0 {a : Int} (ha : 0 ≤ a) : (Int.gcd a 0 : Int) = a := by
  obtain ⟨m, rfl⟩ := Int.eq_ofNat_of_zero_le ha
  show ((Nat.gcd m 0 : Nat) : Int) = _
  rw [Nat.gcd_zero_right]
theorem gcd_pos {a b : Int} (ha : 0 < a) : 1 ≤ (Int.gcd a b : Int) ∧ (Int.gcd a b : Int) ≤ a := by
  have h1 : 0 < Int.gcd a b := Int.gcd_pos_of_ne_zero_left b (by omega)
  have h2 := Int.gcd_dvd_left a b
  have h3 := Int.le_of_dvd ha h2
  exact ⟨by omega, h3⟩
/-- states that are alike off a region -/
def fr (P : Nat → Int → Prop) (σ σ' : eS) : Prop := ∀ c k, ¬ P c k → σ' c k = σ c k
theorem fr.rf {P : Nat → Int → Prop} {σ : eS} : fr P σ σ := fun _ _ _ => rfl
theorem fr.tr {P : Nat → Int → Prop} {σ σ' σ'' : eS} (h : fr P σ σ') (h' : fr P σ' σ'') : fr P σ σ'' := fun c k hc => (h' c k hc).trans (h c k hc)
theorem fr.mono {P P' : Nat → Int → Prop} {σ σ' : eS} (h : fr P σ σ') (hl : ∀ c k, P c k → P' c k) : fr P' σ σ' := fun c k hc => h c k (fun q => hc (hl c k q))
theorem up_if (σ : eS) (c c' : Nat) (k k' z : Int) : up σ c k z c' k' = if c' = c ∧ k' = k then z else σ c' k' := rfl
theorem fr_up {P : Nat → Int → Prop} {σ σ' : eS} {c : Nat} {k z : Int} (h : fr P σ σ') (hc : P c k) : fr P σ (up σ' c k z) := by
  intro c' k' hc'
  rw [up_if, if_neg (fun q => hc' (by rw [q.1, q.2]; exact hc))]
  exact h c' k' hc'
section E6
variable {sh : eSh} {M : eM} {pc pc' : Nat} {st : List eV} {σ : eS} {Q : eS → Option eV → Prop}
theorem ok_lst18 (i : Nat) {r : List (Option eV)} {y2 : Option eV} {x0 x1 x2 x3 x4 x5 x6 x7 x8 x9 x10 x11 x12 x13 x14 x15 x16 x17 y : Option eV} {z : Int} (hd : nth (eTab M) i = some (pc, .lstore 18, pc')) (hn : pc + 2 = pc') (hp : eNl x17 = true) (k : Ok sh M pc' (x0 :: x1 :: x2 :: x3 :: x4 :: x5 :: x6 :: x7 :: x8 :: x9 :: x10 :: x11 :: x12 :: x13 :: x14 :: x15 :: x16 :: x17 :: some (vl z) :: none :: r) st σ Q) : Ok sh M pc (x0 :: x1 :: x2 :: x3 :: x4 :: x5 :: x6 :: x7 :: x8 :: x9 :: x10 :: x11 :: x12 :: x13 :: x14 :: x15 :: x16 :: x17 :: y :: y2 :: r) (vl z :: st) σ Q :=
  og_len fun h => og_lstore (k := 18) i hd hn (by rw [← h]; simp) (by show Ok sh M pc' (x0 :: x1 :: x2 :: x3 :: x4 :: x5 :: x6 :: x7 :: x8 :: x9 :: x10 :: x11 :: x12 :: x13 :: x14 :: x15 :: x16 :: eClr x17 :: some (vl z) :: none :: r) st σ Q; rw [eClr_id hp]; exact k)
end E6
theorem ok_pop2 {sh : eSh} {M : eM} {pc pc' : Nat} {ls : List (Option eV)} {st : List eV} {σ : eS} {Q : eS → Option eV → Prop} (i : Nat) {z : Int} (hd : nth (eTab M) i = some (pc, .pop2, pc')) (hn : pc + 1 = pc') (k : Ok sh M pc' ls st σ Q) : Ok sh M pc ls (vl z :: st) σ Q := by
  intro l p e s m args below meth c D dA ad H locs la C hH hL hS
  exact lv_pop2_2 C.2.1 C.2.2.1 (C.1.dec hd hn) rfl (Ok.go k C hH hL hS.2 hn rfl)
end
section
theorem s_Mo_one {σ : eS} {b : Int} : MtI shB M_Mo_one [vi b] σ (fun σ' z => σ' = σ ∧ z = if b = 0 then 0 else 1) := by
  refine Mt.of okM_Mo_one (Nat.le_of_ble_eq_true rfl) (fun hk hg => ?_)
  refine ok_iload_n 0 rfl rfl rfl (ok_if_eq 1 8 rfl rfl rfl (fun h1 => ?_) (fun h1 => ?_))
  · refine ok_iconst 4 rfl rfl (by decide) (ok_iret 5 rfl rfl rfl ?_)
    exact ⟨_, rfl, rfl, by simp [*]⟩
  · refine ok_iconst 2 rfl rfl (by decide) (ok_goto 3 9 rfl rfl rfl (ok_iret 5 rfl rfl rfl ?_))
    exact ⟨_, rfl, rfl, by simp [*]⟩
theorem s_Mo_isIn {σ : eS} {v a b : Int} : MtI shB M_Mo_isIn [vl v, vl a, vl b] σ (fun σ' z => σ' = σ ∧ z = if a ≤ v ∧ v ≤ b then 1 else 0) := by
  refine Mt.of okM_Mo_isIn (Nat.le_of_ble_eq_true rfl) (fun hk hg => ?_)
  refine ok_lload_n 0 rfl rfl rfl (ok_lload_n 1 rfl rfl rfl (ok_lcmp_lt 2 3 17 rfl rfl rfl rfl rfl (fun h2 => ?_) (fun h2 => ?_)))
  · refine ok_iconst 10 rfl rfl (by decide) (ok_zret 11 rfl rfl rfl (by first | omega | (simp [up_if]; omega) | (simp [up_if] at *; omega)) ?_)
    exact ⟨_, rfl, rfl, by first | rw [if_pos (by omega)] | rw [if_neg (by omega)]⟩
  · refine ok_lload_n 4 rfl rfl rfl (ok_lload 5 rfl rfl rfl (ok_lcmp_gt 6 7 17 rfl rfl rfl rfl rfl (fun h9 => ?_) (fun h9 => ?_)))
    · refine ok_iconst 10 rfl rfl (by decide) (ok_zret 11 rfl rfl rfl (by first | omega | (simp [up_if]; omega) | (simp [up_if] at *; omega)) ?_)
      exact ⟨_, rfl, rfl, by first | rw [if_pos (by omega)] | rw [if_neg (by omega)]⟩
    · refine ok_iconst 8 rfl rfl (by decide) (ok_goto 9 18 rfl rfl rfl (ok_zret 11 rfl rfl rfl (by first | omega | (simp [up_if]; omega) | (simp [up_if] at *; omega)) ?_))
      exact ⟨_, rfl, rfl, by first | rw [if_pos (by omega)] | rw [if_neg (by omega)]⟩
theorem s_Mo_isIn_y {σ : eS} {v a b : Int} (h : a ≤ v ∧ v ≤ b) : MtI shB M_Mo_isIn [vl v, vl a, vl b] σ (fun σ' z => σ' = σ ∧ z = 1) := by
  have := s_Mo_isIn (σ := σ) (v := v) (a := a) (b := b)
  simp only [if_pos h] at this
  exact this
theorem s_Mo_isIn_n {σ : eS} {v a b : Int} (h : ¬ (a ≤ v ∧ v ≤ b)) : MtI shB M_Mo_isIn [vl v, vl a, vl b] σ (fun σ' z => σ' = σ ∧ z = 0) := by
  have := s_Mo_isIn (σ := σ) (v := v) (a := a) (b := b)
  simp only [if_neg h] at this
  exact this
theorem s_Mo_common {σ : eS} {a b : Int} (ha : 0 ≤ a) (hb : 0 ≤ b) : MtL shB M_Mo_common [vl a, vl b] σ (fun σ' z => σ' = σ ∧ z = (Int.gcd a b : Int)) := by
  refine Mt.of okM_Mo_common (Nat.le_of_ble_eq_true rfl) (fun hk hg => ?_)
  refine ok_lload_n 0 rfl rfl rfl (ok_lst4 1 rfl rfl rfl (ok_lload_n 2 rfl rfl rfl (ok_lst6 3 rfl rfl rfl ?_)))
  refine lpO (fun q : Int × Int × Option eV => [some (vl a), none, some (vl b), none, some (vl q.1), none, some (vl q.2.1), none, q.2.2, none]) (fun _ => σ) (fun q => 0 ≤ q.1 ∧ 0 ≤ q.2.1 ∧ (Int.gcd q.1 q.2.1 : Int) = (Int.gcd a b : Int)) (fun q => q.2.1.toNat) ?_ (a, b, none) ⟨ha, hb, rfl⟩
  rintro ⟨x, y, w⟩ ⟨h1, h2, h3⟩ ih
  dsimp only at h1 h2 h3 ih ⊢
  refine ok_lload 4 rfl rfl rfl (ok_lconst (w := 0) 5 rfl rfl rfl (by decide) (ok_lcmp_eq 6 7 31 rfl rfl rfl rfl rfl (fun h9 => ?_) (fun h9 => ?_)))
  · refine ok_lload 17 rfl rfl rfl (ok_lret 18 rfl rfl rfl ?_)
    exact ⟨_, rfl, rfl, by rw [← h3, show y = 0 by omega, gcd_0 h1]⟩
  · have h4 := Int.emod_nonneg x (by omega : y ≠ 0)
    have h5 := Int.emod_lt_of_pos x (by omega : 0 < y)
    refine ok_lload 8 rfl rfl rfl (ok_lload 9 rfl rfl rfl (ok_lrem 10 rfl rfl (by first | omega | (simp [up_if]; omega) | (simp [up_if] at *; omega)) (by first | omega | (simp [up_if]; omega) | (simp [up_if] at *; omega)) (ok_lst8 11 rfl rfl rfl (ok_lload 12 rfl rfl rfl (ok_lst4 13 rfl rfl rfl (ok_lload 14 rfl rfl rfl (ok_lst6 15 rfl rfl rfl (ok_goto 16 6 rfl rfl rfl ?_))))))))
    exact ih (y, x % y, _) ⟨h2, h4, by rw [← h3, gcd_step h1 (by omega)]⟩ (by dsimp only; omega)
def iB1 (σ : eS) : Prop := (∀ s : Int, 0 ≤ s → s < 4 → 0 ≤ σ 1 s ∧ σ 1 s ≤ 8 ∧ (0 < σ 1 s → 1 ≤ σ 2 s ∧ σ 2 s ≤ 999999)) ∧ (∀ k : Int, 0 ≤ k → k < 256 → 0 ≤ σ 3 k ∧ σ 3 k ≤ 99999999) ∧ (∀ k : Int, 0 ≤ k → k < 64 → 0 ≤ σ 4 k)
def cB (σ : eS) (s i j : Int) : Int := σ 3 (64 * s + σ 1 s * i + j)
def rowB (σ : eS) (s i : Int) : Int := sm (fun j => cB σ s i j) (σ 1 s).toNat
def colB (σ : eS) (s j : Int) : Int := sm (fun i => cB σ s i j) (σ 1 s).toNat
theorem cB_bd {σ : eS} {s i j : Int} (hB : iB1 σ) (hs : 0 ≤ s ∧ s < 4) (hi : 0 ≤ i ∧ i < σ 1 s) (hj : 0 ≤ j ∧ j < σ 1 s) : 0 ≤ cB σ s i j ∧ cB σ s i j ≤ 99999999 := by
  obtain ⟨h1, h2, -⟩ := hB.1 s hs.1 hs.2
  obtain ⟨h3, h4, h5, h6⟩ := ix8 ⟨h1, h2⟩ hi hj
  exact hB.2.1 _ (by omega) (by omega)
theorem rowB_bd {σ : eS} {s i : Int} (hB : iB1 σ) (hs : 0 ≤ s ∧ s < 4) (hi : 0 ≤ i ∧ i < σ 1 s) : 0 ≤ rowB σ s i ∧ rowB σ s i ≤ 799999992 := by
  obtain ⟨h1, h2, -⟩ := hB.1 s hs.1 hs.2
  have h := sm_bd (f := fun j => cB σ s i j) (B := 99999999) (by decide) (n := (σ 1 s).toNat) (fun k a b => cB_bd hB hs hi ⟨a, by omega⟩)
  refine ⟨h.1, Int.le_trans h.2 ?_⟩
  omega
theorem colB_bd {σ : eS} {s j : Int} (hB : iB1 σ) (hs : 0 ≤ s ∧ s < 4) (hj : 0 ≤ j ∧ j < σ 1 s) : 0 ≤ colB σ s j ∧ colB σ s j ≤ 799999992 := by
  obtain ⟨h1, h2, -⟩ := hB.1 s hs.1 hs.2
  have h := sm_bd (f := fun i => cB σ s i j) (B := 99999999) (by decide) (n := (σ 1 s).toNat) (fun k a b => cB_bd hB hs ⟨a, by omega⟩ hj)
  refine ⟨h.1, Int.le_trans h.2 ?_⟩
  omega
theorem s_Mo_isSlot {σ : eS} {s : Int} : MtI shB M_Mo_isSlot [vi s] σ (fun σ' z => σ' = σ ∧ z = if 0 ≤ s ∧ s ≤ 3 then 1 else 0) := by
  refine Mt.of okM_Mo_isSlot (Nat.le_of_ble_eq_true rfl) (fun hk hg => ?_)
  refine ok_iload_n 0 rfl rfl rfl (ok_i2l 1 rfl rfl (ok_lconst (w := 0) 2 rfl rfl rfl (by decide) (ok_ldc2 3 (3) rfl rfl kc_X12_97 (by decide) (ok_callSI (M' := M_Mo_isIn) (as := [_, _, _]) 4 rfl rfl ml_X12_99 (s_Mo_isIn) ⟨Nat.le_of_ble_eq_true rfl, Nat.le_of_ble_eq_true rfl⟩ rfl (Nat.le_of_ble_eq_true rfl) (fun σ' z hz => ?_)))))
  rw [hz.1, hz.2]
  clear hz z σ'
  refine ok_zret 5 rfl rfl rfl (by split <;> omega) ?_
  exact ⟨_, rfl, rfl, rfl⟩
theorem s_Mo_isTable {σ : eS} {s : Int} : MtI shB M_Mo_isTable [vr 0, vi s] σ (fun σ' z => σ' = σ ∧ z = if 0 ≤ s ∧ s < 4 ∧ 0 < σ 1 s then 1 else 0) := by
  refine Mt.of okM_Mo_isTable (Nat.le_of_ble_eq_true rfl) (fun hk hg => ?_)
  refine ok_iload_n 0 rfl rfl rfl (ok_callSI (M' := M_Mo_isSlot) (as := [_]) 1 rfl rfl ml_X12_103 (s_Mo_isSlot) ⟨Nat.le_of_ble_eq_true rfl, Nat.le_of_ble_eq_true rfl⟩ rfl (Nat.le_of_ble_eq_true rfl) (fun σ' z hz => ?_))
  rw [hz.1, hz.2]
  clear hz z σ'
  refine ok_if_eq 2 20 rfl rfl rfl (fun h4 => ?_) (fun h4 => ?_)
  · have h4 : ¬ (0 ≤ s ∧ s ≤ 3) := fun q => by rw [if_pos q] at h4; omega
    refine ok_iconst 10 rfl rfl (by decide) (ok_zret 11 rfl rfl rfl (by first | omega | (simp [up_if]; omega) | (simp [up_if] at *; omega)) ?_)
    exact ⟨_, rfl, rfl, by rw [if_neg (by omega)]⟩
  · have h4 : 0 ≤ s ∧ s ≤ 3 := by
      by_cases q : 0 ≤ s ∧ s ≤ 3
      · exact q
      · rw [if_neg q] at h4; omega
    refine ok_aload_n 3 rfl rfl rfl (ok_getR 4 rfl rfl fl_X12_7 rfl rfl (ok_iload_n 5 rfl rfl rfl (ok_iald 6 rfl rfl rfl (by first | omega | (simp [up_if]; omega) | (simp [up_if] at *; omega)) (ok_if_le 7 20 rfl rfl rfl (fun h13 => ?_) (fun h13 => ?_)))))
    · refine ok_iconst 10 rfl rfl (by decide) (ok_zret 11 rfl rfl rfl (by first | omega | (simp [up_if]; omega) | (simp [up_if] at *; omega)) ?_)
      exact ⟨_, rfl, rfl, by first | rw [if_pos (by omega)] | rw [if_neg (by omega)]⟩
    · refine ok_iconst 8 rfl rfl (by decide) (ok_goto 9 21 rfl rfl rfl (ok_zret 11 rfl rfl rfl (by first | omega | (simp [up_if]; omega) | (simp [up_if] at *; omega)) ?_))
      exact ⟨_, rfl, rfl, by first | rw [if_pos (by omega)] | rw [if_neg (by omega)]⟩
def tabB (σ : eS) (s : Int) : Prop := 0 ≤ s ∧ s < 4 ∧ 0 < σ 1 s
theorem s_Mo_isTable_y {σ : eS} {s : Int} (h : tabB σ s) : MtI shB M_Mo_isTable [vr 0, vi s] σ (fun σ' z => σ' = σ ∧ z = 1) := by
  have h' : 0 ≤ s ∧ s < 4 ∧ 0 < σ 1 s := h
  have := s_Mo_isTable (σ := σ) (s := s)
  simp only [if_pos h'] at this
  exact this
theorem s_Mo_isTable_n {σ : eS} {s : Int} (h : ¬ tabB σ s) : MtI shB M_Mo_isTable [vr 0, vi s] σ (fun σ' z => σ' = σ ∧ z = 0) := by
  have h' : ¬ (0 ≤ s ∧ s < 4 ∧ 0 < σ 1 s) := h
  have := s_Mo_isTable (σ := σ) (s := s)
  simp only [if_neg h'] at this
  exact this
theorem s_Mo_isSlot_y {σ : eS} {s : Int} (h : 0 ≤ s ∧ s < 4) : MtI shB M_Mo_isSlot [vi s] σ (fun σ' z => σ' = σ ∧ z = 1) := by
  have h' : 0 ≤ s ∧ s ≤ 3 := by omega
  have := s_Mo_isSlot (σ := σ) (s := s)
  simp only [if_pos h'] at this
  exact this
theorem s_Mo_isSlot_n {σ : eS} {s : Int} (h : ¬ (0 ≤ s ∧ s < 4)) : MtI shB M_Mo_isSlot [vi s] σ (fun σ' z => σ' = σ ∧ z = 0) := by
  have h' : ¬ (0 ≤ s ∧ s ≤ 3) := by omega
  have := s_Mo_isSlot (σ := σ) (s := s)
  simp only [if_neg h'] at this
  exact this
theorem s_Mo_at {σ : eS} {s i j : Int} (hB : iB1 σ) (hs : 0 ≤ s ∧ s < 4) (hi : 0 ≤ i ∧ i < σ 1 s) (hj : 0 ≤ j ∧ j < σ 1 s) : MtI shB M_Mo_at [vr 0, vi s, vi i, vi j] σ (fun σ' z => σ' = σ ∧ z = cB σ s i j) := by
  refine Mt.of okM_Mo_at (Nat.le_of_ble_eq_true rfl) (fun hk hg => ?_)
  obtain ⟨h1, h2, -⟩ := hB.1 s hs.1 hs.2
  obtain ⟨h3, h4, h5, h6⟩ := ix8 ⟨h1, h2⟩ hi hj
  refine ok_aload_n 0 rfl rfl rfl (ok_getR 1 rfl rfl fl_X12_16 rfl rfl (ok_bipush 2 rfl rfl (by decide) (by decide) (ok_iload_n 3 rfl rfl rfl (ok_imul 4 rfl rfl (by first | omega | (simp [up_if]; omega) | (simp [up_if] at *; omega)) (ok_aload_n 5 rfl rfl rfl (ok_getR 6 rfl rfl fl_X12_7 rfl rfl (ok_iload_n 7 rfl rfl rfl (ok_iald 8 rfl rfl rfl (by first | omega | (simp [up_if]; omega) | (simp [up_if] at *; omega)) (ok_iload_n 9 rfl rfl rfl (ok_imul 10 rfl rfl (by first | omega | (simp [up_if]; omega) | (simp [up_if] at *; omega)) (ok_iadd 11 rfl rfl (by first | omega | (simp [up_if]; omega) | (simp [up_if] at *; omega)) (ok_iload_n 12 rfl rfl rfl (ok_iadd 13 rfl rfl (by first | omega | (simp [up_if]; omega) | (simp [up_if] at *; omega)) (ok_iald 14 rfl rfl rfl (by first | omega | (simp [up_if]; omega) | (simp [up_if] at *; omega)) (ok_iret 15 rfl rfl rfl ?_)))))))))))))))
  exact ⟨_, rfl, rfl, rfl⟩
theorem s_Mo_rowOf {σ : eS} {s i : Int} (hB : iB1 σ) (hs : 0 ≤ s ∧ s < 4) (hi : 0 ≤ i ∧ i < σ 1 s) : MtL shB M_Mo_rowOf [vr 0, vi s, vi i] σ (fun σ' z => σ' = σ ∧ z = rowB σ s i) := by
  refine Mt.of okM_Mo_rowOf (Nat.le_of_ble_eq_true rfl) (fun hk hg => ?_)
  obtain ⟨g1, g2, -⟩ := hB.1 s hs.1 hs.2
  refine ok_lconst (w := 0) 0 rfl rfl rfl (by decide) (ok_lst3 1 rfl rfl rfl (ok_iconst 2 rfl rfl (by decide) (ok_ist5 3 rfl rfl rfl ?_)))
  refine lpO (fun q : Int × Int => [some (vr 0), some (vi s), some (vi i), some (vl q.1), none, some (vi q.2)]) (fun _ => σ) (fun q => 0 ≤ q.2 ∧ q.2 ≤ σ 1 s ∧ q.1 = sm (fun j => cB σ s i j) q.2.toNat) (fun q => (σ 1 s - q.2).toNat) ?_ (0, 0) ⟨by omega, by omega, rfl⟩
  rintro ⟨v, j⟩ ⟨h1, h2, h3⟩ ih
  dsimp only at h1 h2 h3 ih ⊢
  have hb := sm_bd (f := fun j => cB σ s i j) (B := 99999999) (by decide) (n := j.toNat) (fun k a b => cB_bd hB hs hi ⟨a, by omega⟩)
  refine ok_iload 4 rfl rfl rfl (ok_aload_n 5 rfl rfl rfl (ok_getR 6 rfl rfl fl_X12_7 rfl rfl (ok_iload_n 7 rfl rfl rfl (ok_iald 8 rfl rfl rfl (by first | omega | (simp [up_if]; omega) | (simp [up_if] at *; omega)) (ok_icmp_ge 9 34 rfl rfl rfl (fun h13 => ?_) (fun h13 => ?_))))))
  · refine ok_lload_n 21 rfl rfl rfl (ok_lret 22 rfl rfl rfl ?_)
    exact ⟨_, rfl, rfl, by rw [h3, show j = σ 1 s by omega]; rfl⟩
  · refine ok_lload_n 10 rfl rfl rfl (ok_aload_n 11 rfl rfl rfl (ok_iload_n 12 rfl rfl rfl (ok_iload_n 13 rfl rfl rfl (ok_iload 14 rfl rfl rfl (ok_callVI (M' := M_Mo_at) (as := [_, _, _]) 15 rfl rfl ml_X12_107 (s_Mo_at hB hs hi ⟨by omega, by omega⟩) rfl rfl (Nat.le_of_ble_eq_true rfl) ⟨Nat.le_of_ble_eq_true rfl, Nat.le_of_ble_eq_true rfl⟩ rfl (Nat.le_of_ble_eq_true rfl) (fun σ' z hz => ?_))))))
    rw [hz.1, hz.2]; clear hz z σ'
    have hc := cB_bd hB hs hi (j := j) ⟨by omega, by omega⟩
    refine ok_i2l 16 rfl rfl (ok_ladd 17 rfl rfl (by first | omega | (simp [up_if]; omega) | (simp [up_if] at *; omega)) (ok_lst3 18 rfl rfl rfl (ok_inc5 19 rfl rfl rfl (by first | omega | (simp [up_if]; omega) | (simp [up_if] at *; omega)) (ok_goto 20 5 rfl rfl rfl ?_))))
    exact ih (_, _) ⟨by dsimp only; omega, by dsimp only; omega, by dsimp only; rw [sm_s _ h1, h3]⟩ (by dsimp only; omega)
theorem s_Mo_columnOf {σ : eS} {s j : Int} (hB : iB1 σ) (hs : 0 ≤ s ∧ s < 4) (hj : 0 ≤ j ∧ j < σ 1 s) : MtL shB M_Mo_columnOf [vr 0, vi s, vi j] σ (fun σ' z => σ' = σ ∧ z = colB σ s j) := by
  refine Mt.of okM_Mo_columnOf (Nat.le_of_ble_eq_true rfl) (fun hk hg => ?_)
  obtain ⟨g1, g2, -⟩ := hB.1 s hs.1 hs.2
  refine ok_lconst (w := 0) 0 rfl rfl rfl (by decide) (ok_lst3 1 rfl rfl rfl (ok_iconst 2 rfl rfl (by decide) (ok_ist5 3 rfl rfl rfl ?_)))
  refine lpO (fun q : Int × Int => [some (vr 0), some (vi s), some (vi j), some (vl q.1), none, some (vi q.2)]) (fun _ => σ) (fun q => 0 ≤ q.2 ∧ q.2 ≤ σ 1 s ∧ q.1 = sm (fun i => cB σ s i j) q.2.toNat) (fun q => (σ 1 s - q.2).toNat) ?_ (0, 0) ⟨by omega, by omega, rfl⟩
  rintro ⟨v, i⟩ ⟨h1, h2, h3⟩ ih
  dsimp only at h1 h2 h3 ih ⊢
  have hb := sm_bd (f := fun i => cB σ s i j) (B := 99999999) (by decide) (n := i.toNat) (fun k a b => cB_bd hB hs ⟨a, by omega⟩ hj)
  refine ok_iload 4 rfl rfl rfl (ok_aload_n 5 rfl rfl rfl (ok_getR 6 rfl rfl fl_X12_7 rfl rfl (ok_iload_n 7 rfl rfl rfl (ok_iald 8 rfl rfl rfl (by first | omega | (simp [up_if]; omega) | (simp [up_if] at *; omega)) (ok_icmp_ge 9 34 rfl rfl rfl (fun h13 => ?_) (fun h13 => ?_))))))
  · refine ok_lload_n 21 rfl rfl rfl (ok_lret 22 rfl rfl rfl ?_)
    exact ⟨_, rfl, rfl, by rw [h3, show i = σ 1 s by omega]; rfl⟩
  · refine ok_lload_n 10 rfl rfl rfl (ok_aload_n 11 rfl rfl rfl (ok_iload_n 12 rfl rfl rfl (ok_iload 13 rfl rfl rfl (ok_iload_n 14 rfl rfl rfl (ok_callVI (M' := M_Mo_at) (as := [_, _, _]) 15 rfl rfl ml_X12_107 (s_Mo_at hB hs ⟨by omega, by omega⟩ hj) rfl rfl (Nat.le_of_ble_eq_true rfl) ⟨Nat.le_of_ble_eq_true rfl, Nat.le_of_ble_eq_true rfl⟩ rfl (Nat.le_of_ble_eq_true rfl) (fun σ' z hz => ?_))))))
    rw [hz.1, hz.2]; clear hz z σ'
    have hc := cB_bd hB hs (i := i) ⟨by omega, by omega⟩ hj
    refine ok_i2l 16 rfl rfl (ok_ladd 17 rfl rfl (by first | omega | (simp [up_if]; omega) | (simp [up_if] at *; omega)) (ok_lst3 18 rfl rfl rfl (ok_inc5 19 rfl rfl rfl (by first | omega | (simp [up_if]; omega) | (simp [up_if] at *; omega)) (ok_goto 20 5 rfl rfl rfl ?_))))
    exact ih (_, _) ⟨by dsimp only; omega, by dsimp only; omega, by dsimp only; rw [sm_s _ h1, h3]⟩ (by dsimp only; omega)
end
section
theorem lt_ext {P : Int → Prop} {a i : Int} (h : ∀ k, a ≤ k → k < i → P k) (hi : P i) : ∀ k, a ≤ k → k < i + 1 → P k := fun k h1 h2 => by
  by_cases q : k = i
  · rw [q]; exact hi
  · exact h k h1 (by omega)
def unev (row col : Int → Int) (n z : Int) : Prop :=
  (∃ i, 1 ≤ i ∧ i < n ∧ z = i ∧ row i ≠ row 0 ∧ ∀ k, 1 ≤ k → k < i → row k = row 0) ∨
  ((∀ k, 1 ≤ k → k < n → row k = row 0) ∧ ((∃ j, 0 ≤ j ∧ j < n ∧ z = 8 + j ∧ col j ≠ row 0 ∧ ∀ k, 0 ≤ k → k < j → col k = row 0) ∨ (z = -1 ∧ ∀ k, 0 ≤ k → k < n → col k = row 0)))
theorem s_Mo_uneven {σ : eS} {s : Int} (hB : iB1 σ) : MtI shB M_Mo_uneven [vr 0, vi s] σ (fun σ' z => σ' = σ ∧ ((¬ tabB σ s ∧ z = -1) ∨ (tabB σ s ∧ unev (rowB σ s) (colB σ s) (σ 1 s) z))) := by
  refine Mt.of okM_Mo_uneven (Nat.le_of_ble_eq_true rfl) (fun hk hg => ?_)
  by_cases ht : tabB σ s
  · obtain ⟨t1, t2, t3⟩ := id ht
    obtain ⟨g1, g2, -⟩ := hB.1 s t1 t2
    refine ok_aload_n 0 rfl rfl rfl (ok_iload_n 1 rfl rfl rfl (ok_callVI (M' := M_Mo_isTable) (as := [_]) 2 rfl rfl ml_X12_111 (s_Mo_isTable_y ht) rfl rfl (Nat.le_of_ble_eq_true rfl) ⟨Nat.le_of_ble_eq_true rfl, Nat.le_of_ble_eq_true rfl⟩ rfl (Nat.le_of_ble_eq_true rfl) (fun σ' z hz => ?_)))
    rw [hz.1, hz.2]
    clear hz z σ'
    refine ok_if_ne 3 10 rfl rfl rfl (fun h5 => ?_) (fun h5 => ?_)
    · refine ok_iconst 6 rfl rfl (by decide) (ok_ist2 7 rfl rfl rfl ?_)
      refine lpO (fun q : Int => [some (vr 0), some (vi s), some (vi q)]) (fun _ => σ) (fun q => 1 ≤ q ∧ q ≤ σ 1 s ∧ ∀ k, 1 ≤ k → k < q → rowB σ s k = rowB σ s 0) (fun q => (σ 1 s - q).toNat) ?_ 1 ⟨by omega, by omega, fun k a b => by omega⟩
      rintro i ⟨h1, h2, h3⟩ ih
      refine ok_iload_n 8 rfl rfl rfl (ok_aload_n 9 rfl rfl rfl (ok_getR 10 rfl rfl fl_X12_7 rfl rfl (ok_iload_n 11 rfl rfl rfl (ok_iald 12 rfl rfl rfl (by first | omega | (simp [up_if]; omega) | (simp [up_if] at *; omega)) (ok_icmp_ge 13 46 rfl rfl rfl (fun h19 => ?_) (fun h19 => ?_))))))
      · refine ok_iconst 28 rfl rfl (by decide) (ok_ist2 29 rfl rfl rfl ?_)
        have hr : ∀ k, 1 ≤ k → k < σ 1 s → rowB σ s k = rowB σ s 0 := fun k a b => h3 k a (by omega)
        refine lpO (fun q : Int => [some (vr 0), some (vi s), some (vi q)]) (fun _ => σ) (fun q => 0 ≤ q ∧ q ≤ σ 1 s ∧ ∀ k, 0 ≤ k → k < q → colB σ s k = rowB σ s 0) (fun q => (σ 1 s - q).toNat) ?_ 0 ⟨by omega, by omega, fun k a b => by omega⟩
        rintro j ⟨h1, h2, h3⟩ ih
        refine ok_iload_n 30 rfl rfl rfl (ok_aload_n 31 rfl rfl rfl (ok_getR 32 rfl rfl fl_X12_7 rfl rfl (ok_iload_n 33 rfl rfl rfl (ok_iald 34 rfl rfl rfl (by first | omega | (simp [up_if]; omega) | (simp [up_if] at *; omega)) (ok_icmp_ge 35 85 rfl rfl rfl (fun h55 => ?_) (fun h55 => ?_))))))
        · refine ok_iconst 52 rfl rfl (by decide) (ok_iret 53 rfl rfl rfl ?_)
          exact ⟨_, rfl, rfl, Or.inr ⟨ht, Or.inr ⟨hr, Or.inr ⟨rfl, fun k a b => h3 k a (by omega)⟩⟩⟩⟩
        · refine ok_aload_n 36 rfl rfl rfl (ok_iload_n 37 rfl rfl rfl (ok_iload_n 38 rfl rfl rfl (ok_callVL (M' := M_Mo_columnOf) (as := [_, _]) 39 rfl rfl ml_X12_122 (s_Mo_columnOf hB ⟨t1, t2⟩ ⟨by omega, by omega⟩) rfl rfl (Nat.le_of_ble_eq_true rfl) ⟨Nat.le_of_ble_eq_true rfl, Nat.le_of_ble_eq_true rfl⟩ rfl (Nat.le_of_ble_eq_true rfl) (fun σ' z hz => ?_))))
          rw [hz.1, hz.2]
          clear hz z σ'
          refine ok_aload_n 40 rfl rfl rfl (ok_iload_n 41 rfl rfl rfl (ok_iconst 42 rfl rfl (by decide) (ok_callVL (M' := M_Mo_rowOf) (as := [_, _]) 43 rfl rfl ml_X12_114 (s_Mo_rowOf hB ⟨t1, t2⟩ ⟨by omega, by omega⟩) rfl rfl (Nat.le_of_ble_eq_true rfl) ⟨Nat.le_of_ble_eq_true rfl, Nat.le_of_ble_eq_true rfl⟩ rfl (Nat.le_of_ble_eq_true rfl) (fun σ' z hz => ?_))))
          rw [hz.1, hz.2]
          clear hz z σ'
          refine ok_lcmp_eq 44 45 79 rfl rfl rfl rfl rfl (fun h70 => ?_) (fun h70 => ?_)
          · refine ok_inc2 50 rfl rfl rfl (by first | omega | (simp [up_if]; omega) | (simp [up_if] at *; omega)) (ok_goto 51 48 rfl rfl rfl ?_)
            exact ih (j + 1) ⟨by omega, by omega, lt_ext h3 h70⟩ (by omega)
          · refine ok_bipush 46 rfl rfl (by decide) (by decide) (ok_iload_n 47 rfl rfl rfl (ok_iadd 48 rfl rfl (by first | omega | (simp [up_if]; omega) | (simp [up_if] at *; omega)) (ok_iret 49 rfl rfl rfl ?_)))
            exact ⟨_, rfl, rfl, Or.inr ⟨ht, Or.inr ⟨hr, Or.inl ⟨j, h1, by omega, rfl, h70, h3⟩⟩⟩⟩
      · refine ok_aload_n 14 rfl rfl rfl (ok_iload_n 15 rfl rfl rfl (ok_iload_n 16 rfl rfl rfl (ok_callVL (M' := M_Mo_rowOf) (as := [_, _]) 17 rfl rfl ml_X12_114 (s_Mo_rowOf hB ⟨t1, t2⟩ ⟨by omega, by omega⟩) rfl rfl (Nat.le_of_ble_eq_true rfl) ⟨Nat.le_of_ble_eq_true rfl, Nat.le_of_ble_eq_true rfl⟩ rfl (Nat.le_of_ble_eq_true rfl) (fun σ' z hz => ?_))))
        rw [hz.1, hz.2]
        clear hz z σ'
        refine ok_aload_n 18 rfl rfl rfl (ok_iload_n 19 rfl rfl rfl (ok_iconst 20 rfl rfl (by decide) (ok_callVL (M' := M_Mo_rowOf) (as := [_, _]) 21 rfl rfl ml_X12_114 (s_Mo_rowOf hB ⟨t1, t2⟩ ⟨by omega, by omega⟩) rfl rfl (Nat.le_of_ble_eq_true rfl) ⟨Nat.le_of_ble_eq_true rfl, Nat.le_of_ble_eq_true rfl⟩ rfl (Nat.le_of_ble_eq_true rfl) (fun σ' z hz => ?_))))
        rw [hz.1, hz.2]
        clear hz z σ'
        refine ok_lcmp_eq 22 23 40 rfl rfl rfl rfl rfl (fun h34 => ?_) (fun h34 => ?_)
        · refine ok_inc2 26 rfl rfl rfl (by first | omega | (simp [up_if]; omega) | (simp [up_if] at *; omega)) (ok_goto 27 12 rfl rfl rfl ?_)
          exact ih (i + 1) ⟨by omega, by omega, lt_ext h3 h34⟩ (by omega)
        · refine ok_iload_n 24 rfl rfl rfl (ok_iret 25 rfl rfl rfl ?_)
          exact ⟨_, rfl, rfl, Or.inr ⟨ht, Or.inl ⟨i, h1, by omega, rfl, h34, h3⟩⟩⟩
    · omega
  · refine ok_aload_n 0 rfl rfl rfl (ok_iload_n 1 rfl rfl rfl (ok_callVI (M' := M_Mo_isTable) (as := [_]) 2 rfl rfl ml_X12_111 (s_Mo_isTable_n ht) rfl rfl (Nat.le_of_ble_eq_true rfl) ⟨Nat.le_of_ble_eq_true rfl, Nat.le_of_ble_eq_true rfl⟩ rfl (Nat.le_of_ble_eq_true rfl) (fun σ' z hz => ?_)))
    rw [hz.1, hz.2]
    clear hz z σ'
    refine ok_if_ne 3 10 rfl rfl rfl (fun h5 => ?_) (fun h5 => ?_)
    · omega
    · refine ok_iconst 4 rfl rfl (by decide) (ok_iret 5 rfl rfl rfl ?_)
      exact ⟨_, rfl, rfl, Or.inl ⟨ht, rfl⟩⟩
def evB (σ : eS) (s : Int) : Prop := tabB σ s ∧ 0 < rowB σ s 0 ∧ (∀ k, 0 ≤ k → k < σ 1 s → rowB σ s k = rowB σ s 0) ∧ (∀ k, 0 ≤ k → k < σ 1 s → colB σ s k = rowB σ s 0)
theorem unev_m1 {row col : Int → Int} {n z : Int} (h : unev row col n z) : z = -1 ↔ ((∀ k, 0 ≤ k → k < n → row k = row 0) ∧ ∀ k, 0 ≤ k → k < n → col k = row 0) := by
  rcases h with ⟨i, h1, h2, rfl, h4, h5⟩ | ⟨h1, ⟨j, h2, h3, rfl, h5, h6⟩ | ⟨rfl, h3⟩⟩
  · exact ⟨fun q => by omega, fun q => absurd (q.1 z (by omega) h2) h4⟩
  · exact ⟨fun q => by omega, fun q => absurd (q.2 j h2 h3) h5⟩
  · refine ⟨fun _ => ⟨fun k a b => ?_, h3⟩, fun _ => rfl⟩
    by_cases q : k = 0
    · rw [q]
    · exact h1 k (by omega) b
theorem s_Mo_isEven {σ : eS} {s : Int} (hB : iB1 σ) : MtI shB M_Mo_isEven [vr 0, vi s] σ (fun σ' z => σ' = σ ∧ ((z = 1 ∧ evB σ s) ∨ (z = 0 ∧ ¬ evB σ s))) := by
  refine Mt.of okM_Mo_isEven (Nat.le_of_ble_eq_true rfl) (fun hk hg => ?_)
  by_cases ht : tabB σ s
  · obtain ⟨t1, t2, t3⟩ := id ht
    refine ok_aload_n 0 rfl rfl rfl (ok_iload_n 1 rfl rfl rfl (ok_callVI (M' := M_Mo_isTable) (as := [_]) 2 rfl rfl ml_X12_111 (s_Mo_isTable_y ht) rfl rfl (Nat.le_of_ble_eq_true rfl) ⟨Nat.le_of_ble_eq_true rfl, Nat.le_of_ble_eq_true rfl⟩ rfl (Nat.le_of_ble_eq_true rfl) (fun σ' z hz => ?_)))
    rw [hz.1, hz.2]
    clear hz z σ'
    refine ok_if_eq 3 32 rfl rfl rfl (fun h5 => ?_) (fun h5 => ?_)
    · omega
    · refine ok_aload_n 4 rfl rfl rfl (ok_iload_n 5 rfl rfl rfl (ok_iconst 6 rfl rfl (by decide) (ok_callVL (M' := M_Mo_rowOf) (as := [_, _]) 7 rfl rfl ml_X12_114 (s_Mo_rowOf hB ⟨t1, t2⟩ ⟨by omega, by omega⟩) rfl rfl (Nat.le_of_ble_eq_true rfl) ⟨Nat.le_of_ble_eq_true rfl, Nat.le_of_ble_eq_true rfl⟩ rfl (Nat.le_of_ble_eq_true rfl) (fun σ' z hz => ?_))))
      rw [hz.1, hz.2]
      clear hz z σ'
      refine ok_lconst (w := 0) 8 rfl rfl rfl (by decide) (ok_lcmp_le 9 10 32 rfl rfl rfl rfl rfl (fun h15 => ?_) (fun h15 => ?_))
      · refine ok_iconst 18 rfl rfl (by decide) (ok_zret 19 rfl rfl rfl (by omega) ?_)
        exact ⟨_, rfl, rfl, Or.inr ⟨rfl, fun q => by have := q.2.1; omega⟩⟩
      · refine ok_aload_n 11 rfl rfl rfl (ok_iload_n 12 rfl rfl rfl (ok_callVI (M' := M_Mo_uneven) (as := [_]) 13 rfl rfl ml_X12_118 (s_Mo_uneven hB) rfl rfl (Nat.le_of_ble_eq_true rfl) ⟨Nat.le_of_ble_eq_true rfl, Nat.le_of_ble_eq_true rfl⟩ rfl (Nat.le_of_ble_eq_true rfl) (fun σ' z hz => ?_)))
        obtain ⟨hs, hz⟩ := hz
        rw [hs]; clear hs σ'
        have hu : unev (rowB σ s) (colB σ s) (σ 1 s) z := by
          rcases hz with ⟨q, -⟩ | ⟨-, q⟩
          · exact absurd ht q
          · exact q
        have hm := unev_m1 hu
        refine ok_iconst 14 rfl rfl (by decide) (ok_icmp_ne 15 32 rfl rfl rfl (fun h25 => ?_) (fun h25 => ?_))
        · refine ok_iconst 18 rfl rfl (by decide) (ok_zret 19 rfl rfl rfl (by omega) ?_)
          exact ⟨_, rfl, rfl, Or.inr ⟨rfl, fun q => h25 (hm.mpr q.2.2)⟩⟩
        · refine ok_iconst 16 rfl rfl (by decide) (ok_goto 17 33 rfl rfl rfl (ok_zret 19 rfl rfl rfl (by first | omega | (simp [up_if]; omega) | (simp [up_if] at *; omega)) ?_))
          exact ⟨_, rfl, rfl, Or.inl ⟨rfl, ht, by omega, hm.mp h25⟩⟩
  · refine ok_aload_n 0 rfl rfl rfl (ok_iload_n 1 rfl rfl rfl (ok_callVI (M' := M_Mo_isTable) (as := [_]) 2 rfl rfl ml_X12_111 (s_Mo_isTable_n ht) rfl rfl (Nat.le_of_ble_eq_true rfl) ⟨Nat.le_of_ble_eq_true rfl, Nat.le_of_ble_eq_true rfl⟩ rfl (Nat.le_of_ble_eq_true rfl) (fun σ' z hz => ?_)))
    rw [hz.1, hz.2]
    clear hz z σ'
    refine ok_if_eq 3 32 rfl rfl rfl (fun h5 => ?_) (fun h5 => ?_)
    · refine ok_iconst 18 rfl rfl (by decide) (ok_zret 19 rfl rfl rfl (by first | omega | (simp [up_if]; omega) | (simp [up_if] at *; omega)) ?_)
      exact ⟨_, rfl, rfl, Or.inr ⟨rfl, fun q => ht q.1⟩⟩
    · omega
/-! the tape -/
def by4 (v k : Int) : Int := iand (ishr v (24 - 8 * k)) 255
def fo (σ : eS) (t v i : Int) : eS := fun c k => if c = 0 ∧ k = 6 then t + i else if c = 5 ∧ t ≤ k ∧ k < t + i then by4 v (k - t) else σ c k
theorem fo_0 {σ : eS} {t v : Int} (h : σ 0 6 = t) : fo σ t v 0 = σ := by
  funext c k
  unfold fo
  split
  · next q => rw [q.1, q.2]; omega
  · rw [if_neg (by omega)]
theorem fo_s {σ : eS} {t v i : Int} (h : 0 ≤ i) : up (up (fo σ t v i) 5 (t + i) (by4 v i)) 0 6 (t + i + 1) = fo σ t v (i + 1) := by
  funext c k
  simp only [up_if, fo]
  by_cases h1 : c = 0 ∧ k = 6
  · simp only [if_pos h1]
    omega
  · simp only [if_neg h1]
    by_cases h2 : c = 5 ∧ k = t + i
    · simp only [if_pos h2]
      rw [if_pos ⟨h2.1, by omega, by omega⟩, h2.2]
      congr 1
      omega
    · simp only [if_neg h2]
      by_cases h3 : c = 5 ∧ t ≤ k ∧ k < t + i
      · rw [if_pos h3, if_pos ⟨h3.1, by omega, by omega⟩]
      · rw [if_neg h3, if_neg (by omega)]
theorem fo_6 (σ : eS) (t v i : Int) : fo σ t v i 0 6 = t + i := by simp [fo]
theorem s_Mo_four {σ : eS} {v t : Int} (ht : σ 0 6 = t) (h0 : 0 ≤ t ∧ t ≤ 596) : MtV shB M_Mo_four [vr 0, vi v] σ (fun σ' => σ' = fo σ t v 4) := by
  refine Mt.of okM_Mo_four (Nat.le_of_ble_eq_true rfl) (fun hk hg => ?_)
  refine ok_bipush 0 rfl rfl (by decide) (by decide) (ok_ist2 1 rfl rfl rfl ?_)
  have e := fo_0 (v := v) ht
  suffices h : ∀ i : Int, 0 ≤ i ∧ i ≤ 4 → Ok shB M_Mo_four 3 [some (vr 0), some (vi v), some (vi (24 - 8 * i))] [] (fo σ t v i) (fun σ' w => w = none ∧ σ' = fo σ t v 4) by
    have := h 0 (by omega)
    rw [e] at this
    exact this
  refine fun i hi => lpO (fun i : Int => [some (vr 0), some (vi v), some (vi (24 - 8 * i))]) (fun i => fo σ t v i) (fun i => 0 ≤ i ∧ i ≤ 4) (fun i => (4 - i).toNat) ?_ i hi
  rintro i ⟨h1, h2⟩ ih
  have e6 := fo_6 σ t v i
  refine ok_iload_n 2 rfl rfl rfl (ok_if_lt 3 39 rfl rfl rfl (fun h4 => ?_) (fun h4 => ?_))
  · refine ok_vret 22 rfl rfl rfl ?_
    exact ⟨rfl, by rw [show i = 4 by omega]⟩
  · refine ok_aload_n 4 rfl rfl rfl (ok_getR 5 rfl rfl fl_X12_23 rfl rfl (ok_aload_n 6 rfl rfl rfl (ok_getI 7 rfl rfl fl_X12_125 rfl rfl (Or.inl rfl) (ok_iload_n 8 rfl rfl rfl (ok_iload_n 9 rfl rfl rfl (ok_ishr 10 rfl rfl (ok_sipush 11 rfl rfl (by decide) (by decide) (ok_iand 12 rfl rfl (ok_iast 13 rfl rfl rfl (by omega) (ok_aload_n 14 rfl rfl rfl (ok_dup 15 rfl rfl rfl (ok_getI 16 rfl rfl fl_X12_125 rfl rfl (Or.inl rfl) (ok_iconst 17 rfl rfl (by decide) (ok_iadd 18 rfl rfl (by rw [up_ne _ _ _ _ (by decide), e6]; omega) (ok_putI 19 rfl rfl fl_X12_125 rfl rfl rfl rfl (ok_inc2 20 rfl rfl rfl (by first | omega | (simp [up_if]; omega) | (simp [up_if] at *; omega)) (ok_goto 21 3 rfl rfl rfl ?_)))))))))))))))))
    have hh := ih (i + 1) ⟨by omega, by omega⟩ (by omega)
    rw [← fo_s h1] at hh
    rw [up_ne _ _ _ _ (by decide), e6]
    rw [show (24 : Int) - 8 * i + -8 = 24 - 8 * (i + 1) by omega]
    exact hh
def fd (σ : eS) (t a b c d e : Int) : eS := fo (fo (fo (fo (fo σ t a 4) (t + 4) b 4) (t + 8) c 4) (t + 12) d 4) (t + 16) e 4
theorem s_Mo_feed {σ : eS} {a b c d e : Int} (h0 : 0 ≤ σ 0 6 ∧ σ 0 6 ≤ 600) : MtI shB M_Mo_feed [vr 0, vi a, vi b, vi c, vi d, vi e] σ (fun σ' z => (σ 0 6 + 20 ≤ 600 ∧ σ' = fd σ (σ 0 6) a b c d e ∧ z = σ 0 6 + 20) ∨ (600 < σ 0 6 + 20 ∧ σ' = σ ∧ z = -1)) := by
  refine Mt.of okM_Mo_feed (Nat.le_of_ble_eq_true rfl) (fun hk hg => ?_)
  refine ok_aload_n 0 rfl rfl rfl (ok_getI 1 rfl rfl fl_X12_125 rfl rfl (Or.inl rfl) (ok_bipush 2 rfl rfl (by decide) (by decide) (ok_iadd 3 rfl rfl (by first | omega | (simp [up_if]; omega) | (simp [up_if] at *; omega)) (ok_sipush 4 rfl rfl (by decide) (by decide) (ok_icmp_le 5 15 rfl rfl rfl (fun h10 => ?_) (fun h10 => ?_))))))
  · refine ok_aload_n 8 rfl rfl rfl (ok_iload_n 9 rfl rfl rfl (ok_callVV (M' := M_Mo_four) (as := [_]) 10 rfl rfl ml_X12_128 (s_Mo_four rfl ⟨by omega, by omega⟩) rfl rfl (Nat.le_of_ble_eq_true rfl) ⟨Nat.le_of_ble_eq_true rfl, Nat.le_of_ble_eq_true rfl⟩ rfl (Nat.le_of_ble_eq_true rfl) (fun σ' hz => ?_)))
    rw [hz]
    clear hz σ'
    refine ok_aload_n 11 rfl rfl rfl (ok_iload_n 12 rfl rfl rfl (ok_callVV (M' := M_Mo_four) (as := [_]) 13 rfl rfl ml_X12_128 (s_Mo_four (t := σ 0 6 + 4) (fo_6 _ _ _ _) ⟨by omega, by omega⟩) rfl rfl (Nat.le_of_ble_eq_true rfl) ⟨Nat.le_of_ble_eq_true rfl, Nat.le_of_ble_eq_true rfl⟩ rfl (Nat.le_of_ble_eq_true rfl) (fun σ' hz => ?_)))
    rw [hz]
    clear hz σ'
    refine ok_aload_n 14 rfl rfl rfl (ok_iload_n 15 rfl rfl rfl (ok_callVV (M' := M_Mo_four) (as := [_]) 16 rfl rfl ml_X12_128 (s_Mo_four (t := σ 0 6 + 8) (by rw [fo_6]; omega) ⟨by omega, by omega⟩) rfl rfl (Nat.le_of_ble_eq_true rfl) ⟨Nat.le_of_ble_eq_true rfl, Nat.le_of_ble_eq_true rfl⟩ rfl (Nat.le_of_ble_eq_true rfl) (fun σ' hz => ?_)))
    rw [hz]
    clear hz σ'
    refine ok_aload_n 17 rfl rfl rfl (ok_iload 18 rfl rfl rfl (ok_callVV (M' := M_Mo_four) (as := [_]) 19 rfl rfl ml_X12_128 (s_Mo_four (t := σ 0 6 + 12) (by rw [fo_6]; omega) ⟨by omega, by omega⟩) rfl rfl (Nat.le_of_ble_eq_true rfl) ⟨Nat.le_of_ble_eq_true rfl, Nat.le_of_ble_eq_true rfl⟩ rfl (Nat.le_of_ble_eq_true rfl) (fun σ' hz => ?_)))
    rw [hz]
    clear hz σ'
    refine ok_aload_n 20 rfl rfl rfl (ok_iload 21 rfl rfl rfl (ok_callVV (M' := M_Mo_four) (as := [_]) 22 rfl rfl ml_X12_128 (s_Mo_four (t := σ 0 6 + 16) (by rw [fo_6]; omega) ⟨by omega, by omega⟩) rfl rfl (Nat.le_of_ble_eq_true rfl) ⟨Nat.le_of_ble_eq_true rfl, Nat.le_of_ble_eq_true rfl⟩ rfl (Nat.le_of_ble_eq_true rfl) (fun σ' hz => ?_)))
    rw [hz]
    clear hz σ'
    refine ok_aload_n 23 rfl rfl rfl (ok_getI 24 rfl rfl fl_X12_125 rfl rfl (Or.inl rfl) (ok_iret 25 rfl rfl rfl ?_))
    exact ⟨_, rfl, Or.inl ⟨by omega, rfl, by rw [fo_6]; omega⟩⟩
  · refine ok_iconst 6 rfl rfl (by decide) (ok_iret 7 rfl rfl rfl ?_)
    exact ⟨_, rfl, Or.inr ⟨by omega, rfl, rfl⟩⟩
theorem s_Mo_end {σ : eS} {n : Int} : MtI shB M_Mo_end [vr 0, vi n] σ (fun σ' z => (0 ≤ n ∧ n ≤ σ 0 6 ∧ σ' = up σ 0 6 n ∧ z = 1) ∨ (¬ (0 ≤ n ∧ n ≤ σ 0 6) ∧ σ' = σ ∧ z = 0)) := by
  refine Mt.of okM_Mo_end (Nat.le_of_ble_eq_true rfl) (fun hk hg => ?_)
  by_cases h : 0 ≤ n ∧ n ≤ σ 0 6
  · refine ok_iload_n 0 rfl rfl rfl (ok_i2l 1 rfl rfl (ok_lconst (w := 0) 2 rfl rfl rfl (by decide) (ok_aload_n 3 rfl rfl rfl (ok_getI 4 rfl rfl fl_X12_125 rfl rfl (Or.inl rfl) (ok_i2l 5 rfl rfl (ok_callSI (M' := M_Mo_isIn) (as := [_, _, _]) 6 rfl rfl ml_X12_99 (s_Mo_isIn) ⟨Nat.le_of_ble_eq_true rfl, Nat.le_of_ble_eq_true rfl⟩ rfl (Nat.le_of_ble_eq_true rfl) (fun σ' z hz => ?_)))))))
    rw [hz.1, hz.2]; clear hz z σ'
    rw [if_pos h]
    refine ok_if_ne 7 16 rfl rfl rfl (fun h11 => ?_) (fun h11 => ?_)
    · refine ok_aload_n 10 rfl rfl rfl (ok_iload_n 11 rfl rfl rfl (ok_putI 12 rfl rfl fl_X12_125 rfl rfl rfl rfl (ok_iconst 13 rfl rfl (by decide) (ok_zret 14 rfl rfl rfl (by first | omega | (simp [up_if]; omega) | (simp [up_if] at *; omega)) ?_))))
      exact ⟨_, rfl, Or.inl ⟨h.1, h.2, rfl, rfl⟩⟩
    · omega
  · refine ok_iload_n 0 rfl rfl rfl (ok_i2l 1 rfl rfl (ok_lconst (w := 0) 2 rfl rfl rfl (by decide) (ok_aload_n 3 rfl rfl rfl (ok_getI 4 rfl rfl fl_X12_125 rfl rfl (Or.inl rfl) (ok_i2l 5 rfl rfl (ok_callSI (M' := M_Mo_isIn) (as := [_, _, _]) 6 rfl rfl ml_X12_99 (s_Mo_isIn) ⟨Nat.le_of_ble_eq_true rfl, Nat.le_of_ble_eq_true rfl⟩ rfl (Nat.le_of_ble_eq_true rfl) (fun σ' z hz => ?_)))))))
    rw [hz.1, hz.2]; clear hz z σ'
    rw [if_neg h]
    refine ok_if_ne 7 16 rfl rfl rfl (fun h11 => ?_) (fun h11 => ?_)
    · omega
    · refine ok_iconst 8 rfl rfl (by decide) (ok_zret 9 rfl rfl rfl (by first | omega | (simp [up_if]; omega) | (simp [up_if] at *; omega)) ?_)
      exact ⟨_, rfl, Or.inr ⟨h, rfl, rfl⟩⟩
def seeB (σ : eS) (k : Int) : Int := if k < σ 0 6 then σ 5 k else -1
theorem s_Mo_see {σ : eS} {k : Int} (h0 : 0 ≤ k) (h6 : σ 0 6 ≤ 600) : MtI shB M_Mo_see [vr 0, vi k] σ (fun σ' z => σ' = σ ∧ z = seeB σ k) := by
  refine Mt.of okM_Mo_see (Nat.le_of_ble_eq_true rfl) (fun hk hg => ?_)
  refine ok_iload_n 0 rfl rfl rfl (ok_aload_n 1 rfl rfl rfl (ok_getI 2 rfl rfl fl_X12_125 rfl rfl (Or.inl rfl) (ok_icmp_ge 3 17 rfl rfl rfl (fun h5 => ?_) (fun h5 => ?_))))
  · refine ok_iconst 9 rfl rfl (by decide) (ok_iret 10 rfl rfl rfl ?_)
    exact ⟨_, rfl, rfl, by unfold seeB; first | rw [if_pos (by omega)] | rw [if_neg (by omega)]⟩
  · refine ok_aload_n 4 rfl rfl rfl (ok_getR 5 rfl rfl fl_X12_23 rfl rfl (ok_iload_n 6 rfl rfl rfl (ok_iald 7 rfl rfl rfl (by first | omega | (simp [up_if]; omega) | (simp [up_if] at *; omega)) (ok_goto 8 18 rfl rfl rfl (ok_iret 10 rfl rfl rfl ?_)))))
    exact ⟨_, rfl, rfl, by unfold seeB; first | rw [if_pos (by omega)] | rw [if_neg (by omega)]⟩
end
section
/-! reading: what each step keeps -/
def P0 (σ : eS) : Prop := 0 ≤ σ 0 13 ∧ σ 0 13 ≤ σ 0 6 ∧ σ 0 6 ≤ 600
def lex (σ σ' : eS) : Prop := fr (fun c k => c = 0 ∧ 11 ≤ k ∧ k ≤ 15) σ σ' ∧ σ 0 13 ≤ σ' 0 12 ∧ σ' 0 12 ≤ σ' 0 13 ∧ σ' 0 13 ≤ σ 0 6 ∧ (σ' 0 11 = 0 ∨ σ' 0 11 = 2 ∨ σ' 0 11 = 3) ∧ (σ' 0 11 ≠ 0 → σ' 0 12 < σ' 0 13) ∧ 0 ≤ σ' 0 14 ∧ σ' 0 14 ≤ 999999
theorem seeB_lt {σ : eS} {k : Int} (h : seeB σ k ≠ -1) : k < σ 0 6 := by
  unfold seeB at h
  split at h
  · next q => exact q
  · exact absurd rfl h
def p10 (d : Int) : Int := if d ≤ 0 then 0 else if d = 1 then 9 else if d = 2 then 99 else if d = 3 then 999 else if d = 4 then 9999 else if d = 5 then 99999 else 999999
theorem p10_s {d x c : Int} (h0 : 0 ≤ d) (h1 : d < 6) (hx : x ≤ p10 d) (hc : c ≤ 9) : 10 * x + c ≤ p10 (d + 1) := by
  have : d = 0 ∨ d = 1 ∨ d = 2 ∨ d = 3 ∨ d = 4 ∨ d = 5 := by omega
  rcases this with rfl | rfl | rfl | rfl | rfl | rfl <;> simp [p10] at hx ⊢ <;> omega
theorem p10_m {d : Int} (h0 : 6 ≤ d) : p10 d = 999999 := by
  unfold p10
  repeat rw [if_neg (by omega)]
theorem p10_le (d : Int) : p10 d ≤ 999999 := by
  unfold p10
  repeat (split; omega)
  omega
theorem s_Mo_next {σ : eS} (h : P0 σ) : MtV shB M_Mo_next [vr 0] σ (fun σ' => lex σ σ') := by
  refine Mt.of okM_Mo_next (Nat.le_of_ble_eq_true rfl) (fun hk hg => ?_)
  obtain ⟨p1, p2, p3⟩ := h
  refine lpO (fun _ : eS => [some (vr 0), none]) (fun τ => τ) (fun τ => fr (fun c k => c = 0 ∧ k = 13) σ τ ∧ σ 0 13 ≤ τ 0 13 ∧ τ 0 13 ≤ σ 0 6) (fun τ => (600 - τ 0 13).toNat) ?_ σ ⟨fr.rf, by omega, by omega⟩
  rintro τ ⟨f, h1, h2⟩ ih
  have f6 : τ 0 6 = σ 0 6 := f 0 6 (by omega)
  refine ok_aload_n 0 rfl rfl rfl (ok_aload_n 1 rfl rfl rfl (ok_getI 2 rfl rfl fl_X12_132 rfl rfl (Or.inl rfl) (ok_callVI (M' := M_Mo_see) (as := [_]) 3 rfl rfl ml_X12_135 (s_Mo_see (by omega) (by omega)) rfl rfl (Nat.le_of_ble_eq_true rfl) ⟨Nat.le_of_ble_eq_true rfl, Nat.le_of_ble_eq_true rfl⟩ rfl (Nat.le_of_ble_eq_true rfl) (fun σ' z hz => ?_))))
  rw [hz.1, hz.2]
  clear hz z σ'
  refine ok_bipush 4 rfl rfl (by decide) (by decide) (ok_icmp_eq 5 26 rfl rfl rfl (fun h10 => ?_) (fun h10 => ?_))
  · have hl : τ 0 13 < τ 0 6 := seeB_lt (by omega)
    refine ok_aload_n 12 rfl rfl rfl (ok_dup 13 rfl rfl rfl (ok_getI 14 rfl rfl fl_X12_132 rfl rfl (Or.inl rfl) (ok_iconst 15 rfl rfl (by decide) (ok_iadd 16 rfl rfl (by first | omega | (simp [up_if]; omega) | (simp [up_if] at *; omega)) (ok_putI 17 rfl rfl fl_X12_132 rfl rfl rfl rfl (ok_goto 18 0 rfl rfl rfl ?_))))))
    exact ih _ ⟨fr_up f ⟨rfl, rfl⟩, by rw [up_same]; omega, by rw [up_same]; omega⟩ (by rw [up_same]; omega)
  · refine ok_aload_n 6 rfl rfl rfl (ok_aload_n 7 rfl rfl rfl (ok_getI 8 rfl rfl fl_X12_132 rfl rfl (Or.inl rfl) (ok_callVI (M' := M_Mo_see) (as := [_]) 9 rfl rfl ml_X12_135 (s_Mo_see (by omega) (by omega)) rfl rfl (Nat.le_of_ble_eq_true rfl) ⟨Nat.le_of_ble_eq_true rfl, Nat.le_of_ble_eq_true rfl⟩ rfl (Nat.le_of_ble_eq_true rfl) (fun σ' z hz => ?_))))
    rw [hz.1, hz.2]
    clear hz z σ'
    refine ok_bipush 10 rfl rfl (by decide) (by decide) (ok_icmp_ne 11 39 rfl rfl rfl (fun h23 => ?_) (fun h23 => ?_))
    · obtain ⟨τ1, e1⟩ : ∃ x, x = up (up (up τ 0 12 (τ 0 13)) 0 14 0) 0 15 0 := ⟨_, rfl⟩
      have g1 : fr (fun c k => c = 0 ∧ 11 ≤ k ∧ k ≤ 15) σ τ1 := by
        rw [e1]
        exact fr_up (fr_up (fr_up (f.mono (fun c k q => by omega)) (by omega)) (by omega)) (by omega)
      have g12 : τ1 0 12 = τ 0 13 := by rw [e1]; simp [up_if]
      have g13 : τ1 0 13 = τ 0 13 := by rw [e1]; simp [up_if]
      have g14 : τ1 0 14 = 0 := by rw [e1]; simp [up_if]
      have g6 : τ1 0 6 = σ 0 6 := by rw [e1]; simp [up_if, f6]
      refine ok_aload_n 19 rfl rfl rfl (ok_aload_n 20 rfl rfl rfl (ok_getI 21 rfl rfl fl_X12_132 rfl rfl (Or.inl rfl) (ok_putI 22 rfl rfl fl_X12_138 rfl rfl rfl rfl (ok_aload_n 23 rfl rfl rfl (ok_aload_n 24 rfl rfl rfl (ok_getI 25 rfl rfl fl_X12_132 rfl rfl (Or.inl rfl) (ok_callVI (M' := M_Mo_see) (as := [_]) 26 rfl rfl ml_X12_135 (s_Mo_see (by simp [up_if]; omega) (by simp [up_if]; omega)) rfl rfl (Nat.le_of_ble_eq_true rfl) ⟨Nat.le_of_ble_eq_true rfl, Nat.le_of_ble_eq_true rfl⟩ rfl (Nat.le_of_ble_eq_true rfl) (fun σ' z hz => ?_))))))))
      obtain ⟨hs_, hz⟩ := hz
      rw [hs_]; clear hs_ σ'
      refine ok_ist1 27 rfl rfl rfl (ok_aload_n 28 rfl rfl rfl (ok_iconst 29 rfl rfl (by decide) (ok_putI 30 rfl rfl fl_X12_141 rfl rfl rfl rfl (ok_aload_n 31 rfl rfl rfl (ok_iconst 32 rfl rfl (by decide) (ok_putI 33 rfl rfl fl_X12_144 rfl rfl rfl rfl ?_))))))
      rw [← e1]
      refine ok_iload_n 34 rfl rfl rfl (ok_iconst 35 rfl rfl (by decide) (ok_icmp_ne 36 79 rfl rfl rfl (fun h68 => ?_) (fun h68 => ?_)))
      · refine ok_iload_n 41 rfl rfl rfl (ok_i2l 42 rfl rfl (ok_ldc2 43 (48) rfl rfl kc_X12_150 (by decide) (ok_ldc2 44 (57) rfl rfl kc_X12_152 (by decide) (ok_callSI (M' := M_Mo_isIn) (as := [_, _, _]) 45 rfl rfl ml_X12_99 (s_Mo_isIn) ⟨Nat.le_of_ble_eq_true rfl, Nat.le_of_ble_eq_true rfl⟩ rfl (Nat.le_of_ble_eq_true rfl) (fun σ' w hw => ?_)))))
        obtain ⟨hs_, hw⟩ := hw
        rw [hs_]; clear hs_ σ'
        refine ok_if_eq 46 169 rfl rfl rfl (fun h90 => ?_) (fun h90 => ?_)
        · refine ok_aload_n 86 rfl rfl rfl (ok_iconst 87 rfl rfl (by decide) (ok_putI 88 rfl rfl fl_X12_147 rfl rfl rfl rfl (ok_aload_n 89 rfl rfl rfl (ok_iload_n 90 rfl rfl rfl (ok_putI 91 rfl rfl fl_X12_144 rfl rfl rfl rfl (ok_aload_n 92 rfl rfl rfl (ok_dup 93 rfl rfl rfl (ok_getI 94 rfl rfl fl_X12_132 rfl rfl (Or.inl rfl) (ok_iconst 95 rfl rfl (by decide) (ok_iadd 96 rfl rfl (by first | omega | (simp [up_if]; omega) | (simp [up_if] at *; omega)) (ok_putI 97 rfl rfl fl_X12_132 rfl rfl rfl rfl (ok_vret 98 rfl rfl rfl ?_))))))))))))
          have hq : z = seeB τ (τ 0 13) := by rw [hz]; simp [seeB, up_if]
          first
            | exact ⟨rfl, fr_up g1 (by omega), by simp [up_if]; omega, by simp [up_if]; omega, by simp [up_if]; omega, by simp [up_if], by simp [up_if], by simp [up_if]; omega, by simp [up_if]; omega⟩
            | (have hl : τ 0 13 < τ 0 6 := seeB_lt (by omega)
               exact ⟨rfl, fr_up (fr_up (fr_up g1 (by omega)) (by omega)) (by omega), by simp [up_if]; omega, by simp [up_if]; omega, by simp [up_if]; omega, by simp [up_if], by simp [up_if]; omega, by simp [up_if]; omega, by simp [up_if]; omega⟩)
        · refine ok_aload_n 47 rfl rfl rfl (ok_iconst 48 rfl rfl (by decide) (ok_putI 49 rfl rfl fl_X12_147 rfl rfl rfl rfl ?_))
          have hd : 48 ≤ z ∧ z ≤ 57 := by
            by_cases q : 48 ≤ z ∧ z ≤ 57
            · exact q
            · rw [if_neg q] at hw; omega
          have hz13 : z = seeB (up τ1 0 11 2) (τ 0 13) := by
            rw [hz, e1]; simp [seeB, up_if]
          refine lpO (fun _ : eS => [some (vr 0), some (vi z)]) (fun τ => τ) (fun ρ => fr (fun c k => c = 0 ∧ 11 ≤ k ∧ k ≤ 15) σ ρ ∧ ρ 0 11 = 2 ∧ ρ 0 12 = τ 0 13 ∧ (τ 0 13 < ρ 0 13 ∨ (ρ 0 13 = τ 0 13 ∧ 48 ≤ seeB ρ (ρ 0 13) ∧ seeB ρ (ρ 0 13) ≤ 57)) ∧ ρ 0 13 ≤ σ 0 6 ∧ 0 ≤ ρ 0 14 ∧ ρ 0 14 ≤ p10 (ρ 0 13 - ρ 0 12)) (fun ρ => (600 - ρ 0 13).toNat) ?_ (up τ1 0 11 2) ⟨fr_up g1 (by omega), by simp [up_if], by simp [up_if]; omega, Or.inr ⟨by simp [up_if]; omega, by rw [up_nk _ _ _ _ (by decide), g13, ← hz13]; exact hd⟩, by simp [up_if]; omega, by simp [up_if]; omega, by simp [up_if, g12, g13, g14, p10]⟩
          rintro ρ ⟨r1, r2, r3, r4, r5, r6, r7⟩ ihh
          have r0 : ρ 0 6 = σ 0 6 := r1 0 6 (by omega)
          have rp := p10_le (ρ 0 13 - ρ 0 12)
          refine ok_aload_n 50 rfl rfl rfl (ok_aload_n 51 rfl rfl rfl (ok_getI 52 rfl rfl fl_X12_132 rfl rfl (Or.inl rfl) (ok_callVI (M' := M_Mo_see) (as := [_]) 53 rfl rfl ml_X12_135 (s_Mo_see (by omega) (by omega)) rfl rfl (Nat.le_of_ble_eq_true rfl) ⟨Nat.le_of_ble_eq_true rfl, Nat.le_of_ble_eq_true rfl⟩ rfl (Nat.le_of_ble_eq_true rfl) (fun σ' z hz => ?_))))
          rw [hz.1, hz.2]
          clear hz z σ'
          refine ok_i2l 54 rfl rfl (ok_ldc2 55 (48) rfl rfl kc_X12_150 (by decide) (ok_ldc2 56 (57) rfl rfl kc_X12_152 (by decide) (ok_callSI (M' := M_Mo_isIn) (as := [_, _, _]) 57 rfl rfl ml_X12_99 (s_Mo_isIn) ⟨Nat.le_of_ble_eq_true rfl, Nat.le_of_ble_eq_true rfl⟩ rfl (Nat.le_of_ble_eq_true rfl) (fun σ' w hw => ?_))))
          obtain ⟨hs_, hw⟩ := hw
          rw [hs_]; clear hs_ σ'
          refine ok_if_eq 58 189 rfl rfl rfl (fun h116 => ?_) (fun h116 => ?_)
          · refine ok_vret 98 rfl rfl rfl ?_
            have hn : ¬ (48 ≤ seeB ρ (ρ 0 13) ∧ seeB ρ (ρ 0 13) ≤ 57) := fun q => by rw [if_pos q] at hw; omega
            exact ⟨rfl, r1, by omega, by omega, by omega, by omega, fun _ => by omega, by omega, by omega⟩
          · have hd : 48 ≤ seeB ρ (ρ 0 13) ∧ seeB ρ (ρ 0 13) ≤ 57 := by
              by_cases q : 48 ≤ seeB ρ (ρ 0 13) ∧ seeB ρ (ρ 0 13) ≤ 57
              · exact q
              · rw [if_neg q] at hw; omega
            have hl : ρ 0 13 < ρ 0 6 := seeB_lt (by omega)
            refine ok_aload_n 59 rfl rfl rfl (ok_getI 60 rfl rfl fl_X12_132 rfl rfl (Or.inl rfl) (ok_aload_n 61 rfl rfl rfl (ok_getI 62 rfl rfl fl_X12_138 rfl rfl (Or.inl rfl) (ok_isub 63 rfl rfl (by first | omega | (simp [up_if]; omega) | (simp [up_if] at *; omega)) (ok_bipush 64 rfl rfl (by decide) (by decide) (ok_icmp_ge 65 156 rfl rfl rfl (fun h130 => ?_) (fun h130 => ?_)))))))
            · refine ok_aload_n 79 rfl rfl rfl (ok_dup 80 rfl rfl rfl (ok_getI 81 rfl rfl fl_X12_132 rfl rfl (Or.inl rfl) (ok_iconst 82 rfl rfl (by decide) (ok_iadd 83 rfl rfl (by first | omega | (simp [up_if]; omega) | (simp [up_if] at *; omega)) (ok_putI 84 rfl rfl fl_X12_132 rfl rfl rfl rfl (ok_goto 85 98 rfl rfl rfl ?_))))))
              refine ihh _ ⟨fr_up r1 (by omega), by simp [up_if]; omega, by simp [up_if]; omega, Or.inl (by rw [up_same]; omega), by rw [up_same]; omega, by simp [up_if]; omega, ?_⟩ (by rw [up_same]; omega)
              rw [up_same, up_nk _ _ _ _ (by decide), up_nk _ _ _ _ (by decide), p10_m (by omega)]
              rw [p10_m (by omega)] at r7
              exact r7
            · refine ok_aload_n 66 rfl rfl rfl (ok_bipush 67 rfl rfl (by decide) (by decide) (ok_aload_n 68 rfl rfl rfl (ok_getI 69 rfl rfl fl_X12_141 rfl rfl (Or.inl rfl) (ok_imul 70 rfl rfl (by first | omega | (simp [up_if]; omega) | (simp [up_if] at *; omega)) (ok_aload_n 71 rfl rfl rfl (ok_aload_n 72 rfl rfl rfl (ok_getI 73 rfl rfl fl_X12_132 rfl rfl (Or.inl rfl) (ok_callVI (M' := M_Mo_see) (as := [_]) 74 rfl rfl ml_X12_135 (s_Mo_see (by omega) (by omega)) rfl rfl (Nat.le_of_ble_eq_true rfl) ⟨Nat.le_of_ble_eq_true rfl, Nat.le_of_ble_eq_true rfl⟩ rfl (Nat.le_of_ble_eq_true rfl) (fun σ' z hz => ?_)))))))))
              rw [hz.1, hz.2]
              clear hz z σ'
              refine ok_iadd 75 rfl rfl (by first | omega | (simp [up_if]; omega) | (simp [up_if] at *; omega)) (ok_bipush 76 rfl rfl (by decide) (by decide) (ok_isub 77 rfl rfl (by first | omega | (simp [up_if]; omega) | (simp [up_if] at *; omega)) (ok_putI 78 rfl rfl fl_X12_141 rfl rfl rfl rfl (ok_aload_n 79 rfl rfl rfl (ok_dup 80 rfl rfl rfl (ok_getI 81 rfl rfl fl_X12_132 rfl rfl (Or.inl rfl) (ok_iconst 82 rfl rfl (by decide) (ok_iadd 83 rfl rfl (by first | omega | (simp [up_if]; omega) | (simp [up_if] at *; omega)) (ok_putI 84 rfl rfl fl_X12_132 rfl rfl rfl rfl (ok_goto 85 98 rfl rfl rfl ?_))))))))))
              have hp := p10_s (d := ρ 0 13 - ρ 0 12) (x := ρ 0 14) (c := seeB ρ (ρ 0 13) - 48) (by omega) (by omega) r7 (by omega)
              refine ihh _ ⟨fr_up (fr_up r1 (by omega)) (by omega), by simp [up_if]; omega, by simp [up_if]; omega, Or.inl (by simp [up_if]; omega), by simp [up_if]; omega, by simp [up_if]; omega, ?_⟩ (by simp [up_if]; omega)
              have e : ρ 0 13 + 1 - ρ 0 12 = ρ 0 13 - ρ 0 12 + 1 := by omega
              simp [up_if, e]
              omega
      · refine ok_aload_n 37 rfl rfl rfl (ok_iconst 38 rfl rfl (by decide) (ok_putI 39 rfl rfl fl_X12_147 rfl rfl rfl rfl (ok_goto 40 189 rfl rfl rfl (ok_vret 98 rfl rfl rfl ?_))))
        have hq : z = seeB τ (τ 0 13) := by rw [hz]; simp [seeB, up_if]
        first
          | exact ⟨rfl, fr_up g1 (by omega), by simp [up_if]; omega, by simp [up_if]; omega, by simp [up_if]; omega, by simp [up_if], by simp [up_if], by simp [up_if]; omega, by simp [up_if]; omega⟩
          | (have hl : τ 0 13 < τ 0 6 := seeB_lt (by omega)
             exact ⟨rfl, fr_up (fr_up (fr_up g1 (by omega)) (by omega)) (by omega), by simp [up_if]; omega, by simp [up_if]; omega, by simp [up_if]; omega, by simp [up_if], by simp [up_if]; omega, by simp [up_if]; omega, by simp [up_if]; omega⟩)
    · have hl : τ 0 13 < τ 0 6 := seeB_lt (by omega)
      refine ok_aload_n 12 rfl rfl rfl (ok_dup 13 rfl rfl rfl (ok_getI 14 rfl rfl fl_X12_132 rfl rfl (Or.inl rfl) (ok_iconst 15 rfl rfl (by decide) (ok_iadd 16 rfl rfl (by first | omega | (simp [up_if]; omega) | (simp [up_if] at *; omega)) (ok_putI 17 rfl rfl fl_X12_132 rfl rfl rfl rfl (ok_goto 18 0 rfl rfl rfl ?_))))))
      exact ih _ ⟨fr_up f ⟨rfl, rfl⟩, by rw [up_same]; omega, by rw [up_same]; omega⟩ (by rw [up_same]; omega)
end
section
theorem s_Mo_fails {σ : eS} {k : Int} (hk0 : k ≠ 0) : MtI shB M_Mo_fails [vr 0, vi k] σ (fun σ' z => z = 0 ∧ fr (fun c k => c = 0 ∧ (k = 9 ∨ k = 10)) σ σ' ∧ σ' 0 9 ≠ 0) := by
  refine Mt.of okM_Mo_fails (Nat.le_of_ble_eq_true rfl) (fun hk hg => ?_)
  refine ok_aload_n 0 rfl rfl rfl (ok_getI 1 rfl rfl fl_X12_154 rfl rfl (Or.inl rfl) (ok_if_ne 2 20 rfl rfl rfl (fun h4 => ?_) (fun h4 => ?_)))
  · refine ok_iconst 10 rfl rfl (by decide) (ok_zret 11 rfl rfl rfl (by first | omega | (simp [up_if]; omega) | (simp [up_if] at *; omega)) ?_)
    exact ⟨_, rfl, rfl, fr.rf, h4⟩
  · refine ok_aload_n 3 rfl rfl rfl (ok_iload_n 4 rfl rfl rfl (ok_putI 5 rfl rfl fl_X12_154 rfl rfl rfl rfl (ok_aload_n 6 rfl rfl rfl (ok_aload_n 7 rfl rfl rfl (ok_getI 8 rfl rfl fl_X12_138 rfl rfl (Or.inl rfl) (ok_putI 9 rfl rfl fl_X12_157 rfl rfl rfl rfl (ok_iconst 10 rfl rfl (by decide) (ok_zret 11 rfl rfl rfl (by first | omega | (simp [up_if]; omega) | (simp [up_if] at *; omega)) ?_))))))))
    exact ⟨_, rfl, rfl, fr_up (fr_up fr.rf (by omega)) (by omega), by simp [up_if]; exact hk0⟩
def Pz (σ : eS) : Prop := 0 ≤ σ 0 12 ∧ σ 0 12 ≤ σ 0 13 ∧ σ 0 13 ≤ σ 0 6 ∧ σ 0 6 ≤ 600 ∧ (σ 0 11 = 0 ∨ σ 0 11 = 2 ∨ σ 0 11 = 3) ∧ (σ 0 11 ≠ 0 → σ 0 12 < σ 0 13) ∧ 0 ≤ σ 0 14 ∧ σ 0 14 ≤ 999999
theorem Pz.of {σ σ' : eS} (h : P0 σ) (hl : lex σ σ') : Pz σ' := by
  obtain ⟨h1, h2, h3⟩ := h
  obtain ⟨f, l1, l2, l3, l4, l5, l6⟩ := hl
  have f6 := f 0 6 (by omega)
  exact ⟨by omega, by omega, by omega, by omega, l4, l5, l6⟩
theorem Pz.P0 {σ : eS} (h : Pz σ) : P0 σ := ⟨by have := h.1; have := h.2.1; omega, h.2.2.1, h.2.2.2.1⟩
theorem Pz.fr {σ σ' : eS} (h : Pz σ) (f : fr (fun c k => c ≠ 0 ∨ (k < 6 ∨ (6 < k ∧ k < 11) ∨ 15 < k)) σ σ') : Pz σ' := by
  unfold Pz
  rw [f 0 12 (by omega), f 0 13 (by omega), f 0 6 (by omega), f 0 11 (by omega), f 0 14 (by omega)]
  exact h
def numB (σ : eS) : Prop := σ 0 11 = 2 ∧ σ 0 13 - σ 0 12 ≤ 6
theorem s_Mo_isNumber {σ : eS} (h : Pz σ) : MtI shB M_Mo_isNumber [vr 0] σ (fun σ' z => σ' = σ ∧ ((z = 1 ∧ numB σ) ∨ (z = 0 ∧ ¬ numB σ))) := by
  refine Mt.of okM_Mo_isNumber (Nat.le_of_ble_eq_true rfl) (fun hk hg => ?_)
  obtain ⟨h1, h2, h3, h4, -⟩ := h
  refine ok_aload_n 0 rfl rfl rfl (ok_getI 1 rfl rfl fl_X12_147 rfl rfl (Or.inl rfl) (ok_iconst 2 rfl rfl (by decide) (ok_icmp_ne 3 26 rfl rfl rfl (fun h5 => ?_) (fun h5 => ?_))))
  · refine ok_iconst 13 rfl rfl (by decide) (ok_zret 14 rfl rfl rfl (by first | omega | (simp [up_if]; omega) | (simp [up_if] at *; omega)) ?_)
    exact ⟨_, rfl, rfl, by unfold numB; omega⟩
  · refine ok_aload_n 4 rfl rfl rfl (ok_getI 5 rfl rfl fl_X12_132 rfl rfl (Or.inl rfl) (ok_aload_n 6 rfl rfl rfl (ok_getI 7 rfl rfl fl_X12_138 rfl rfl (Or.inl rfl) (ok_isub 8 rfl rfl (by first | omega | (simp [up_if]; omega) | (simp [up_if] at *; omega)) (ok_bipush 9 rfl rfl (by decide) (by decide) (ok_icmp_gt 10 26 rfl rfl rfl (fun h19 => ?_) (fun h19 => ?_)))))))
    · refine ok_iconst 13 rfl rfl (by decide) (ok_zret 14 rfl rfl rfl (by first | omega | (simp [up_if]; omega) | (simp [up_if] at *; omega)) ?_)
      exact ⟨_, rfl, rfl, by unfold numB; omega⟩
    · refine ok_iconst 11 rfl rfl (by decide) (ok_goto 12 27 rfl rfl rfl (ok_zret 14 rfl rfl rfl (by first | omega | (simp [up_if]; omega) | (simp [up_if] at *; omega)) ?_))
      exact ⟨_, rfl, rfl, by unfold numB; omega⟩
def uOk (σ : eS) (k : Int) : Prop := 1 ≤ σ 7 k ∧ σ 7 k ≤ 999999 ∧ 0 ≤ σ 6 k ∧ σ 6 k ≤ 999999
abbrev rgF : Nat → Int → Prop := fun c k => (c = 0 ∧ 9 ≤ k ∧ k ≤ 15) ∨ c = 6 ∨ c = 7
def QrF (σ : eS) (k : Int) (σ' : eS) (z : Int) : Prop := fr rgF σ σ' ∧ Pz σ' ∧ ((z = 0 ∧ σ' 0 9 ≠ 0) ∨ (z = 1 ∧ σ 0 12 < σ' 0 12 ∧ σ' 0 9 = σ 0 9 ∧ k < 8 ∧ (0 < σ 0 18 → k ≠ σ 0 19) ∧ uOk σ' (8 * σ 0 18 + k) ∧ ∀ j, j ≠ 8 * σ 0 18 + k → σ' 6 j = σ 6 j ∧ σ' 7 j = σ 7 j))
theorem s_Mo_readFraction {σ : eS} {k : Int} (h : Pz σ) (hk0 : 0 ≤ k ∧ k ≤ 8) (hr : 0 ≤ σ 0 18 ∧ σ 0 18 ≤ 7) : MtI shB M_Mo_readFraction [vr 0, vi k] σ (QrF σ k) := by
  refine Mt.of okM_Mo_readFraction (Nat.le_of_ble_eq_true rfl) (fun hk hg => ?_)
  have hfail : ∀ (τ σ' : eS) (z : Int), fr rgF σ τ → Pz τ → z = 0 ∧ fr (fun c k => c = 0 ∧ (k = 9 ∨ k = 10)) τ σ' ∧ σ' 0 9 ≠ 0 → QrF σ k σ' z := fun τ σ' z f0 p0 hz =>
    ⟨f0.tr (hz.2.1.mono (fun c k q => by simp only [rgF]; omega)), p0.fr (hz.2.1.mono (fun c k q => by omega)), Or.inl ⟨hz.1, hz.2.2⟩⟩
  obtain ⟨h1, h2, h3, h4, h5, h6, h7, h8⟩ := id h
  refine ok_aload_n 0 rfl rfl rfl (ok_callVI (M' := M_Mo_isNumber) (as := []) 1 rfl rfl ml_X12_160 (s_Mo_isNumber h) rfl rfl (Nat.le_of_ble_eq_true rfl) ⟨Nat.le_of_ble_eq_true rfl, Nat.le_of_ble_eq_true rfl⟩ rfl (Nat.le_of_ble_eq_true rfl) (fun σ' z hz => ?_))
  obtain ⟨hs_, hz⟩ := hz
  rw [hs_]; clear hs_ σ'
  refine ok_if_ne 2 13 rfl rfl rfl (fun h4 => ?_) (fun h4 => ?_)
  · refine ok_iload_n 7 rfl rfl rfl (ok_bipush 8 rfl rfl (by decide) (by decide) (ok_icmp_ne 9 25 rfl rfl rfl (fun h16 => ?_) (fun h16 => ?_)))
    · refine ok_aload_n 14 rfl rfl rfl (ok_getI 15 rfl rfl fl_X12_167 rfl rfl (Or.inl rfl) (ok_if_le 16 46 rfl rfl rfl (fun h29 => ?_) (fun h29 => ?_)))
      · have hn : numB σ := by
          rcases hz with q | q
          · exact q.2
          · omega
        have hw : 0 < σ 0 18 → k ≠ σ 0 19 := by omega
        clear z hz h4 
        refine ok_bipush 25 rfl rfl (by decide) (by decide) (ok_aload_n 26 rfl rfl rfl (ok_getI 27 rfl rfl fl_X12_167 rfl rfl (Or.inl rfl) (ok_imul 28 rfl rfl (by first | omega | (have q1 := f2 0 18; have q2 := f2 0 19; omega)) (ok_iload_n 29 rfl rfl rfl (ok_iadd 30 rfl rfl (by first | omega | (have q1 := f2 0 18; have q2 := f2 0 19; omega)) (ok_ist2 31 rfl rfl rfl (ok_aload_n 32 rfl rfl rfl (ok_getR 33 rfl rfl fl_X12_30 rfl rfl (ok_iload_n 34 rfl rfl rfl (ok_aload_n 35 rfl rfl rfl (ok_getI 36 rfl rfl fl_X12_141 rfl rfl (Or.inl rfl) (ok_iast 37 rfl rfl rfl (by first | omega | (have q1 := f2 0 18; have q2 := f2 0 19; omega)) (ok_aload_n 38 rfl rfl rfl (ok_getR 39 rfl rfl fl_X12_33 rfl rfl (ok_iload_n 40 rfl rfl rfl (ok_iconst 41 rfl rfl (by decide) (ok_iast 42 rfl rfl rfl (by first | omega | (have q1 := f2 0 18; have q2 := f2 0 19; omega)) ?_)))))))))))))))))
        obtain ⟨τ, e1⟩ : ∃ x, x = up (up σ 6 (8 * σ 0 18 + k) (σ 0 14)) 7 (8 * σ 0 18 + k) 1 := ⟨_, rfl⟩
        have f1 : fr rgF σ τ := by rw [e1]; exact fr_up (fr_up fr.rf (by simp [rgF])) (by simp [rgF])
        have pt : Pz τ := h.fr (by rw [e1]; exact fr_up (fr_up fr.rf (by omega)) (by omega))
        have u1 : uOk τ (8 * σ 0 18 + k) := by rw [e1]; unfold uOk; simp [up_if]; omega
        have o1 : ∀ j, j ≠ 8 * σ 0 18 + k → τ 6 j = σ 6 j ∧ τ 7 j = σ 7 j := fun j hj => by rw [e1]; simp [up_if, hj]
        have t12 : τ 0 12 = σ 0 12 := by rw [e1]; simp [up_if]
        have t13 : τ 0 13 = σ 0 13 := by rw [e1]; simp [up_if]
        have t9 : τ 0 9 = σ 0 9 := by rw [e1]; simp [up_if]
        clear h
        first | (simp only [up_ne _ _ _ _ (show (0 : Nat) ≠ 6 by decide)]; rw [← e1]) | rw [← e1]
        clear e1
        refine ok_aload_n 43 rfl rfl rfl (ok_callVV (M' := M_Mo_next) (as := []) 44 rfl rfl ml_X12_173 (s_Mo_next pt.P0) rfl rfl (Nat.le_of_ble_eq_true rfl) ⟨Nat.le_of_ble_eq_true rfl, Nat.le_of_ble_eq_true rfl⟩ rfl (Nat.le_of_ble_eq_true rfl) (fun τ1 hl => ?_))
        have p1 := Pz.of pt.P0 hl
        have f2 : fr rgF σ τ1 := f1.tr (hl.1.mono (fun c k q => by simp only [rgF]; omega))
        have l9 := hl.1 0 9 (by omega)
        have l12 := hl.2.1
        have l7 : ∀ j, τ1 7 j = τ 7 j := fun j => hl.1 7 j (by omega)
        have l6 : ∀ j, τ1 6 j = τ 6 j := fun j => hl.1 6 j (by omega)
        have hfrom : σ 0 12 < σ 0 13 := h6 (by have := hn.1; omega)
        refine ok_aload_n 45 rfl rfl rfl (ok_getI 46 rfl rfl fl_X12_147 rfl rfl (Or.inl rfl) (ok_iconst 47 rfl rfl (by decide) (ok_icmp_ne 48 94 rfl rfl rfl (fun h82 => ?_) (fun h82 => ?_))))
        · refine ok_iconst 53 rfl rfl (by decide) (ok_zret 54 rfl rfl rfl (by first | omega | (simp [up_if]; omega) | (simp [up_if] at *; omega)) ?_)
          refine ⟨_, rfl, f2, p1, Or.inr ⟨rfl, by omega, by omega, by omega, hw, ?_, fun j hj => ?_⟩⟩
          · unfold uOk; rw [l7, l6]; exact u1
          · rw [l7, l6]; exact o1 j hj
        · refine ok_aload_n 49 rfl rfl rfl (ok_getI 50 rfl rfl fl_X12_144 rfl rfl (Or.inl rfl) (ok_bipush 51 rfl rfl (by decide) (by decide) (ok_icmp_eq 52 96 rfl rfl rfl (fun h91 => ?_) (fun h91 => ?_))))
          · refine ok_aload_n 55 rfl rfl rfl (ok_callVV (M' := M_Mo_next) (as := []) 56 rfl rfl ml_X12_173 (s_Mo_next p1.P0) rfl rfl (Nat.le_of_ble_eq_true rfl) ⟨Nat.le_of_ble_eq_true rfl, Nat.le_of_ble_eq_true rfl⟩ rfl (Nat.le_of_ble_eq_true rfl) (fun τ2 hl2 => ?_))
            have p2 := Pz.of p1.P0 hl2
            have f3 : fr rgF σ τ2 := f2.tr (hl2.1.mono (fun c k q => by simp only [rgF]; omega))
            have m9 := hl2.1 0 9 (by omega)
            have m7 : ∀ j, τ2 7 j = τ1 7 j := fun j => hl2.1 7 j (by omega)
            have m6 : ∀ j, τ2 6 j = τ1 6 j := fun j => hl2.1 6 j (by omega)
            have m12 := hl2.2.1
            have k12 := p1.2.1
            have q14 : 0 ≤ τ2 0 14 ∧ τ2 0 14 ≤ 999999 := hl2.2.2.2.2.2.2
            refine ok_aload_n 57 rfl rfl rfl (ok_callVI (M' := M_Mo_isNumber) (as := []) 58 rfl rfl ml_X12_160 (s_Mo_isNumber p2) rfl rfl (Nat.le_of_ble_eq_true rfl) ⟨Nat.le_of_ble_eq_true rfl, Nat.le_of_ble_eq_true rfl⟩ rfl (Nat.le_of_ble_eq_true rfl) (fun σ' z hz => ?_))
            obtain ⟨hs_, hz⟩ := hz
            rw [hs_]; clear hs_ σ'
            refine ok_if_ne 59 113 rfl rfl rfl (fun h104 => ?_) (fun h104 => ?_)
            · refine ok_aload_n 64 rfl rfl rfl (ok_getI 65 rfl rfl fl_X12_141 rfl rfl (Or.inl rfl) (ok_if_ne 66 126 rfl rfl rfl (fun h117 => ?_) (fun h117 => ?_)))
              · refine ok_aload_n 71 rfl rfl rfl (ok_getR 72 rfl rfl fl_X12_33 rfl rfl (ok_iload_n 73 rfl rfl rfl (ok_aload_n 74 rfl rfl rfl (ok_getI 75 rfl rfl fl_X12_141 rfl rfl (Or.inl rfl) (ok_iast 76 rfl rfl rfl (by first | omega | (have q1 := f2 0 18; have q2 := f2 0 19; omega)) ?_)))))
                obtain ⟨τ3, e3⟩ : ∃ x, x = up τ2 7 (8 * σ 0 18 + k) (τ2 0 14) := ⟨_, rfl⟩
                have p3 : Pz τ3 := p2.fr (by rw [e3]; exact fr_up fr.rf (by omega))
                have f4 : fr rgF σ τ3 := by rw [e3]; exact fr_up f3 (by simp [rgF])
                have u3 : uOk τ3 (8 * σ 0 18 + k) := by
                  rw [e3]; unfold uOk; simp [up_if]; rw [m6, l6]; have := u1; unfold uOk at this; omega
                have o3 : ∀ j, j ≠ 8 * σ 0 18 + k → τ3 6 j = σ 6 j ∧ τ3 7 j = σ 7 j := fun j hj => by
                  rw [e3]; simp [up_if, hj]; rw [m6, m7, l6, l7]; exact o1 j hj
                have t39 : τ3 0 9 = τ2 0 9 := by rw [e3]; simp [up_if]
                have t313 : τ3 0 13 = τ2 0 13 := by rw [e3]; simp [up_if]
                rw [← e3]
                refine ok_aload_n 77 rfl rfl rfl (ok_callVV (M' := M_Mo_next) (as := []) 78 rfl rfl ml_X12_173 (s_Mo_next p3.P0) rfl rfl (Nat.le_of_ble_eq_true rfl) ⟨Nat.le_of_ble_eq_true rfl, Nat.le_of_ble_eq_true rfl⟩ rfl (Nat.le_of_ble_eq_true rfl) (fun τ4 hl4 => ?_))
                have p4 := Pz.of p3.P0 hl4
                have n9 := hl4.1 0 9 (by omega)
                have n12 := hl4.2.1
                have k22 := p2.2.1
                refine ok_iconst 79 rfl rfl (by decide) (ok_zret 80 rfl rfl rfl (by first | omega | (simp [up_if]; omega) | (simp [up_if] at *; omega)) ?_)
                refine ⟨_, rfl, f4.tr (hl4.1.mono (fun c k q => by simp only [rgF]; omega)), p4, Or.inr ⟨rfl, by omega, by omega, by omega, hw, ?_, fun j hj => ?_⟩⟩
                · unfold uOk; rw [hl4.1 7 _ (by omega), hl4.1 6 _ (by omega)]; exact u3
                · rw [hl4.1 7 _ (by omega), hl4.1 6 _ (by omega)]; exact o3 j hj
              · refine ok_aload_n 67 rfl rfl rfl (ok_iconst 68 rfl rfl (by decide) (ok_callVI (M' := M_Mo_fails) (as := [_]) 69 rfl rfl ml_X12_164 (s_Mo_fails (by decide)) rfl rfl (Nat.le_of_ble_eq_true rfl) ⟨Nat.le_of_ble_eq_true rfl, Nat.le_of_ble_eq_true rfl⟩ rfl (Nat.le_of_ble_eq_true rfl) (fun σ' z hz => ?_)))
                have hq := hfail τ2 σ' z f3 p2 hz
                refine ok_zret 70 rfl rfl rfl (by have := hz.1; omega) ?_
                exact ⟨_, rfl, hq⟩
            · refine ok_aload_n 60 rfl rfl rfl (ok_iconst 61 rfl rfl (by decide) (ok_callVI (M' := M_Mo_fails) (as := [_]) 62 rfl rfl ml_X12_164 (s_Mo_fails (by decide)) rfl rfl (Nat.le_of_ble_eq_true rfl) ⟨Nat.le_of_ble_eq_true rfl, Nat.le_of_ble_eq_true rfl⟩ rfl (Nat.le_of_ble_eq_true rfl) (fun σ' z hz => ?_)))
              have hq := hfail τ2 σ' z f3 p2 hz
              refine ok_zret 63 rfl rfl rfl (by have := hz.1; omega) ?_
              exact ⟨_, rfl, hq⟩
          · refine ok_iconst 53 rfl rfl (by decide) (ok_zret 54 rfl rfl rfl (by first | omega | (simp [up_if]; omega) | (simp [up_if] at *; omega)) ?_)
            refine ⟨_, rfl, f2, p1, Or.inr ⟨rfl, by omega, by omega, by omega, hw, ?_, fun j hj => ?_⟩⟩
            · unfold uOk; rw [l7, l6]; exact u1
            · rw [l7, l6]; exact o1 j hj
      · refine ok_iload_n 17 rfl rfl rfl (ok_aload_n 18 rfl rfl rfl (ok_getI 19 rfl rfl fl_X12_170 rfl rfl (Or.inl rfl) (ok_icmp_ne 20 46 rfl rfl rfl (fun h37 => ?_) (fun h37 => ?_))))
        · have hn : numB σ := by
            rcases hz with q | q
            · exact q.2
            · omega
          have hw : 0 < σ 0 18 → k ≠ σ 0 19 := by omega
          clear z hz h4 
          refine ok_bipush 25 rfl rfl (by decide) (by decide) (ok_aload_n 26 rfl rfl rfl (ok_getI 27 rfl rfl fl_X12_167 rfl rfl (Or.inl rfl) (ok_imul 28 rfl rfl (by first | omega | (have q1 := f2 0 18; have q2 := f2 0 19; omega)) (ok_iload_n 29 rfl rfl rfl (ok_iadd 30 rfl rfl (by first | omega | (have q1 := f2 0 18; have q2 := f2 0 19; omega)) (ok_ist2 31 rfl rfl rfl (ok_aload_n 32 rfl rfl rfl (ok_getR 33 rfl rfl fl_X12_30 rfl rfl (ok_iload_n 34 rfl rfl rfl (ok_aload_n 35 rfl rfl rfl (ok_getI 36 rfl rfl fl_X12_141 rfl rfl (Or.inl rfl) (ok_iast 37 rfl rfl rfl (by first | omega | (have q1 := f2 0 18; have q2 := f2 0 19; omega)) (ok_aload_n 38 rfl rfl rfl (ok_getR 39 rfl rfl fl_X12_33 rfl rfl (ok_iload_n 40 rfl rfl rfl (ok_iconst 41 rfl rfl (by decide) (ok_iast 42 rfl rfl rfl (by first | omega | (have q1 := f2 0 18; have q2 := f2 0 19; omega)) ?_)))))))))))))))))
          obtain ⟨τ, e1⟩ : ∃ x, x = up (up σ 6 (8 * σ 0 18 + k) (σ 0 14)) 7 (8 * σ 0 18 + k) 1 := ⟨_, rfl⟩
          have f1 : fr rgF σ τ := by rw [e1]; exact fr_up (fr_up fr.rf (by simp [rgF])) (by simp [rgF])
          have pt : Pz τ := h.fr (by rw [e1]; exact fr_up (fr_up fr.rf (by omega)) (by omega))
          have u1 : uOk τ (8 * σ 0 18 + k) := by rw [e1]; unfold uOk; simp [up_if]; omega
          have o1 : ∀ j, j ≠ 8 * σ 0 18 + k → τ 6 j = σ 6 j ∧ τ 7 j = σ 7 j := fun j hj => by rw [e1]; simp [up_if, hj]
          have t12 : τ 0 12 = σ 0 12 := by rw [e1]; simp [up_if]
          have t13 : τ 0 13 = σ 0 13 := by rw [e1]; simp [up_if]
          have t9 : τ 0 9 = σ 0 9 := by rw [e1]; simp [up_if]
          clear h
          first | (simp only [up_ne _ _ _ _ (show (0 : Nat) ≠ 6 by decide)]; rw [← e1]) | rw [← e1]
          clear e1
          refine ok_aload_n 43 rfl rfl rfl (ok_callVV (M' := M_Mo_next) (as := []) 44 rfl rfl ml_X12_173 (s_Mo_next pt.P0) rfl rfl (Nat.le_of_ble_eq_true rfl) ⟨Nat.le_of_ble_eq_true rfl, Nat.le_of_ble_eq_true rfl⟩ rfl (Nat.le_of_ble_eq_true rfl) (fun τ1 hl => ?_))
          have p1 := Pz.of pt.P0 hl
          have f2 : fr rgF σ τ1 := f1.tr (hl.1.mono (fun c k q => by simp only [rgF]; omega))
          have l9 := hl.1 0 9 (by omega)
          have l12 := hl.2.1
          have l7 : ∀ j, τ1 7 j = τ 7 j := fun j => hl.1 7 j (by omega)
          have l6 : ∀ j, τ1 6 j = τ 6 j := fun j => hl.1 6 j (by omega)
          have hfrom : σ 0 12 < σ 0 13 := h6 (by have := hn.1; omega)
          refine ok_aload_n 45 rfl rfl rfl (ok_getI 46 rfl rfl fl_X12_147 rfl rfl (Or.inl rfl) (ok_iconst 47 rfl rfl (by decide) (ok_icmp_ne 48 94 rfl rfl rfl (fun h82 => ?_) (fun h82 => ?_))))
          · refine ok_iconst 53 rfl rfl (by decide) (ok_zret 54 rfl rfl rfl (by first | omega | (simp [up_if]; omega) | (simp [up_if] at *; omega)) ?_)
            refine ⟨_, rfl, f2, p1, Or.inr ⟨rfl, by omega, by omega, by omega, hw, ?_, fun j hj => ?_⟩⟩
            · unfold uOk; rw [l7, l6]; exact u1
            · rw [l7, l6]; exact o1 j hj
          · refine ok_aload_n 49 rfl rfl rfl (ok_getI 50 rfl rfl fl_X12_144 rfl rfl (Or.inl rfl) (ok_bipush 51 rfl rfl (by decide) (by decide) (ok_icmp_eq 52 96 rfl rfl rfl (fun h91 => ?_) (fun h91 => ?_))))
            · refine ok_aload_n 55 rfl rfl rfl (ok_callVV (M' := M_Mo_next) (as := []) 56 rfl rfl ml_X12_173 (s_Mo_next p1.P0) rfl rfl (Nat.le_of_ble_eq_true rfl) ⟨Nat.le_of_ble_eq_true rfl, Nat.le_of_ble_eq_true rfl⟩ rfl (Nat.le_of_ble_eq_true rfl) (fun τ2 hl2 => ?_))
              have p2 := Pz.of p1.P0 hl2
              have f3 : fr rgF σ τ2 := f2.tr (hl2.1.mono (fun c k q => by simp only [rgF]; omega))
              have m9 := hl2.1 0 9 (by omega)
              have m7 : ∀ j, τ2 7 j = τ1 7 j := fun j => hl2.1 7 j (by omega)
              have m6 : ∀ j, τ2 6 j = τ1 6 j := fun j => hl2.1 6 j (by omega)
              have m12 := hl2.2.1
              have k12 := p1.2.1
              have q14 : 0 ≤ τ2 0 14 ∧ τ2 0 14 ≤ 999999 := hl2.2.2.2.2.2.2
              refine ok_aload_n 57 rfl rfl rfl (ok_callVI (M' := M_Mo_isNumber) (as := []) 58 rfl rfl ml_X12_160 (s_Mo_isNumber p2) rfl rfl (Nat.le_of_ble_eq_true rfl) ⟨Nat.le_of_ble_eq_true rfl, Nat.le_of_ble_eq_true rfl⟩ rfl (Nat.le_of_ble_eq_true rfl) (fun σ' z hz => ?_))
              obtain ⟨hs_, hz⟩ := hz
              rw [hs_]; clear hs_ σ'
              refine ok_if_ne 59 113 rfl rfl rfl (fun h104 => ?_) (fun h104 => ?_)
              · refine ok_aload_n 64 rfl rfl rfl (ok_getI 65 rfl rfl fl_X12_141 rfl rfl (Or.inl rfl) (ok_if_ne 66 126 rfl rfl rfl (fun h117 => ?_) (fun h117 => ?_)))
                · refine ok_aload_n 71 rfl rfl rfl (ok_getR 72 rfl rfl fl_X12_33 rfl rfl (ok_iload_n 73 rfl rfl rfl (ok_aload_n 74 rfl rfl rfl (ok_getI 75 rfl rfl fl_X12_141 rfl rfl (Or.inl rfl) (ok_iast 76 rfl rfl rfl (by first | omega | (have q1 := f2 0 18; have q2 := f2 0 19; omega)) ?_)))))
                  obtain ⟨τ3, e3⟩ : ∃ x, x = up τ2 7 (8 * σ 0 18 + k) (τ2 0 14) := ⟨_, rfl⟩
                  have p3 : Pz τ3 := p2.fr (by rw [e3]; exact fr_up fr.rf (by omega))
                  have f4 : fr rgF σ τ3 := by rw [e3]; exact fr_up f3 (by simp [rgF])
                  have u3 : uOk τ3 (8 * σ 0 18 + k) := by
                    rw [e3]; unfold uOk; simp [up_if]; rw [m6, l6]; have := u1; unfold uOk at this; omega
                  have o3 : ∀ j, j ≠ 8 * σ 0 18 + k → τ3 6 j = σ 6 j ∧ τ3 7 j = σ 7 j := fun j hj => by
                    rw [e3]; simp [up_if, hj]; rw [m6, m7, l6, l7]; exact o1 j hj
                  have t39 : τ3 0 9 = τ2 0 9 := by rw [e3]; simp [up_if]
                  have t313 : τ3 0 13 = τ2 0 13 := by rw [e3]; simp [up_if]
                  rw [← e3]
                  refine ok_aload_n 77 rfl rfl rfl (ok_callVV (M' := M_Mo_next) (as := []) 78 rfl rfl ml_X12_173 (s_Mo_next p3.P0) rfl rfl (Nat.le_of_ble_eq_true rfl) ⟨Nat.le_of_ble_eq_true rfl, Nat.le_of_ble_eq_true rfl⟩ rfl (Nat.le_of_ble_eq_true rfl) (fun τ4 hl4 => ?_))
                  have p4 := Pz.of p3.P0 hl4
                  have n9 := hl4.1 0 9 (by omega)
                  have n12 := hl4.2.1
                  have k22 := p2.2.1
                  refine ok_iconst 79 rfl rfl (by decide) (ok_zret 80 rfl rfl rfl (by first | omega | (simp [up_if]; omega) | (simp [up_if] at *; omega)) ?_)
                  refine ⟨_, rfl, f4.tr (hl4.1.mono (fun c k q => by simp only [rgF]; omega)), p4, Or.inr ⟨rfl, by omega, by omega, by omega, hw, ?_, fun j hj => ?_⟩⟩
                  · unfold uOk; rw [hl4.1 7 _ (by omega), hl4.1 6 _ (by omega)]; exact u3
                  · rw [hl4.1 7 _ (by omega), hl4.1 6 _ (by omega)]; exact o3 j hj
                · refine ok_aload_n 67 rfl rfl rfl (ok_iconst 68 rfl rfl (by decide) (ok_callVI (M' := M_Mo_fails) (as := [_]) 69 rfl rfl ml_X12_164 (s_Mo_fails (by decide)) rfl rfl (Nat.le_of_ble_eq_true rfl) ⟨Nat.le_of_ble_eq_true rfl, Nat.le_of_ble_eq_true rfl⟩ rfl (Nat.le_of_ble_eq_true rfl) (fun σ' z hz => ?_)))
                  have hq := hfail τ2 σ' z f3 p2 hz
                  refine ok_zret 70 rfl rfl rfl (by have := hz.1; omega) ?_
                  exact ⟨_, rfl, hq⟩
              · refine ok_aload_n 60 rfl rfl rfl (ok_iconst 61 rfl rfl (by decide) (ok_callVI (M' := M_Mo_fails) (as := [_]) 62 rfl rfl ml_X12_164 (s_Mo_fails (by decide)) rfl rfl (Nat.le_of_ble_eq_true rfl) ⟨Nat.le_of_ble_eq_true rfl, Nat.le_of_ble_eq_true rfl⟩ rfl (Nat.le_of_ble_eq_true rfl) (fun σ' z hz => ?_)))
                have hq := hfail τ2 σ' z f3 p2 hz
                refine ok_zret 63 rfl rfl rfl (by have := hz.1; omega) ?_
                exact ⟨_, rfl, hq⟩
            · refine ok_iconst 53 rfl rfl (by decide) (ok_zret 54 rfl rfl rfl (by first | omega | (simp [up_if]; omega) | (simp [up_if] at *; omega)) ?_)
              refine ⟨_, rfl, f2, p1, Or.inr ⟨rfl, by omega, by omega, by omega, hw, ?_, fun j hj => ?_⟩⟩
              · unfold uOk; rw [l7, l6]; exact u1
              · rw [l7, l6]; exact o1 j hj
        · refine ok_aload_n 21 rfl rfl rfl (ok_iconst 22 rfl rfl (by decide) (ok_callVI (M' := M_Mo_fails) (as := [_]) 23 rfl rfl ml_X12_164 (s_Mo_fails (by decide)) rfl rfl (Nat.le_of_ble_eq_true rfl) ⟨Nat.le_of_ble_eq_true rfl, Nat.le_of_ble_eq_true rfl⟩ rfl (Nat.le_of_ble_eq_true rfl) (fun σ' z hz => ?_)))
          have hq := hfail σ σ' z fr.rf h hz
          refine ok_zret 24 rfl rfl rfl (by have := hz.1; omega) ?_
          exact ⟨_, rfl, hq⟩
    · refine ok_aload_n 10 rfl rfl rfl (ok_iconst 11 rfl rfl (by decide) (ok_callVI (M' := M_Mo_fails) (as := [_]) 12 rfl rfl ml_X12_164 (s_Mo_fails (by decide)) rfl rfl (Nat.le_of_ble_eq_true rfl) ⟨Nat.le_of_ble_eq_true rfl, Nat.le_of_ble_eq_true rfl⟩ rfl (Nat.le_of_ble_eq_true rfl) (fun σ' z hz => ?_)))
      have hq := hfail σ σ' z fr.rf h hz
      refine ok_zret 13 rfl rfl rfl (by have := hz.1; omega) ?_
      exact ⟨_, rfl, hq⟩
  · refine ok_aload_n 3 rfl rfl rfl (ok_iconst 4 rfl rfl (by decide) (ok_callVI (M' := M_Mo_fails) (as := [_]) 5 rfl rfl ml_X12_164 (s_Mo_fails (by decide)) rfl rfl (Nat.le_of_ble_eq_true rfl) ⟨Nat.le_of_ble_eq_true rfl, Nat.le_of_ble_eq_true rfl⟩ rfl (Nat.le_of_ble_eq_true rfl) (fun σ' z hz => ?_)))
    have hq := hfail σ σ' z fr.rf h hz
    refine ok_zret 6 rfl rfl rfl (by have := hz.1; omega) ?_
    exact ⟨_, rfl, hq⟩
end
section
abbrev rgR : Nat → Int → Prop := fun c k => (c = 0 ∧ 9 ≤ k ∧ k ≤ 19) ∨ c = 6 ∨ c = 7
/-- the rows read so far -/
def uRows (σ : eS) (r w : Int) : Prop := ∀ i j, 0 ≤ i → i < r → 0 ≤ j → j < w → uOk σ (8 * i + j)
def RR (σ : eS) : Prop := 0 ≤ σ 0 18 ∧ σ 0 18 ≤ 8 ∧ 0 ≤ σ 0 19 ∧ σ 0 19 ≤ 8 ∧ uRows σ (σ 0 18) (σ 0 19)
def QrR (σ : eS) (σ' : eS) (z : Int) : Prop := fr rgR σ σ' ∧ Pz σ' ∧ ((z = 0 ∧ σ' 0 9 ≠ 0) ∨ (z = 1 ∧ σ 0 12 < σ' 0 12 ∧ RR σ' ∧ σ' 0 9 = σ 0 9))
theorem s_Mo_readRow {σ : eS} (h : Pz σ) (hr : RR σ) : MtI shB M_Mo_readRow [vr 0] σ (QrR σ) := by
  refine Mt.of okM_Mo_readRow (Nat.le_of_ble_eq_true rfl) (fun hk hg => ?_)
  have hfail : ∀ (τ σ' : eS) (z : Int), fr rgR σ τ → Pz τ → z = 0 ∧ fr (fun c k => c = 0 ∧ (k = 9 ∨ k = 10)) τ σ' ∧ σ' 0 9 ≠ 0 → QrR σ σ' z := fun τ σ' z f0 p0 hz =>
    ⟨f0.tr (hz.2.1.mono (fun c k q => by simp only [rgR]; omega)), p0.fr (hz.2.1.mono (fun c k q => by omega)), Or.inl ⟨hz.1, hz.2.2⟩⟩
  obtain ⟨h1, h2, h3, h4, h5, h6, h7, h8⟩ := id h
  obtain ⟨r1, r2, r3, r4, r5⟩ := id hr
  have tail : σ 0 11 ≠ 0 → ∀ b : Int, Ok shB M_Mo_readRow 40 [some (vr 0), some (vi b), none] [] σ (fun σ' v => ∃ z, v = some (vi z) ∧ QrR σ σ' z) := by
    intro hs b
    have hlt := h6 hs
    refine ok_aload_n 21 rfl rfl rfl (ok_getI 22 rfl rfl fl_X12_167 rfl rfl (Or.inl rfl) (ok_bipush 23 rfl rfl (by decide) (by decide) (ok_icmp_ne 24 55 rfl rfl rfl (fun h46 => ?_) (fun h46 => ?_))))
    · refine ok_iconst 29 rfl rfl (by decide) (ok_ist2 30 rfl rfl rfl ?_)
      refine lpO (fun q : Int × eS => [some (vr 0), some (vi b), some (vi q.1)]) (fun q => q.2) (fun q => 0 ≤ q.1 ∧ q.1 ≤ 8 ∧ fr rgF σ q.2 ∧ Pz q.2 ∧ (0 < q.1 → σ 0 12 < q.2 0 12) ∧ q.2 0 9 = σ 0 9 ∧ σ 0 12 ≤ q.2 0 12 ∧ (∀ j, 0 ≤ j → j < q.1 → uOk q.2 (8 * σ 0 18 + j)) ∧ (0 < σ 0 18 → q.1 ≤ σ 0 19) ∧ (∀ j, j < 8 * σ 0 18 → q.2 6 j = σ 6 j ∧ q.2 7 j = σ 7 j)) (fun q => (700 - q.2 0 12).toNat) ?_ (0, σ) ⟨by omega, by omega, fr.rf, h, fun q => by omega, rfl, Int.le_refl _, fun j a b => by omega, fun _ => by omega, fun j _ => ⟨rfl, rfl⟩⟩
      rintro ⟨n, τ⟩ ⟨i1, i2, i3, i4, i5, i6, i7, i8, i9, i10⟩ ih
      dsimp only at i1 i2 i3 i4 i5 i6 i7 i8 i9 i10 ih ⊢
      have e18 : τ 0 18 = σ 0 18 := i3 0 18 (by simp only [rgF]; omega)
      have e19 : τ 0 19 = σ 0 19 := i3 0 19 (by simp only [rgF]; omega)
      have e6 : τ 0 6 = σ 0 6 := i3 0 6 (by simp only [rgF]; omega)
      have f1 : fr rgR σ τ := i3.mono (fun c k q => by simp only [rgF] at q; simp only [rgR]; omega)
      refine ok_aload_n 31 rfl rfl rfl (ok_getI 32 rfl rfl fl_X12_147 rfl rfl (Or.inl rfl) (ok_iconst 33 rfl rfl (by decide) (ok_icmp_ne 34 74 rfl rfl rfl (fun h62 => ?_) (fun h62 => ?_))))
      · refine ok_aload_n 39 rfl rfl rfl (ok_iload_n 40 rfl rfl rfl (ok_callVI (M' := M_Mo_readFraction) (as := [_]) 41 rfl rfl ml_X12_176 (s_Mo_readFraction i4 ⟨i1, i2⟩ ⟨by omega, by omega⟩) rfl rfl (Nat.le_of_ble_eq_true rfl) ⟨Nat.le_of_ble_eq_true rfl, Nat.le_of_ble_eq_true rfl⟩ rfl (Nat.le_of_ble_eq_true rfl) (fun τ1 z hz => ?_)))
        obtain ⟨z1, z2, z3⟩ := hz
        have p12 := i4.1
        have p24 := z2.2.1
        have p25 := z2.2.2.1
        have g6 : τ1 0 6 = τ 0 6 := z1 0 6 (by simp only [rgF]; omega)
        refine ok_if_ne 42 84 rfl rfl rfl (fun h79 => ?_) (fun h79 => ?_)
        · refine ok_inc2 45 rfl rfl rfl (by first | omega | (simp [up_if]; omega) | (simp [up_if] at *; omega)) (ok_goto 46 57 rfl rfl rfl ?_)
          rcases z3 with ⟨q, -⟩ | ⟨-, y1, y2, y3, y4, y5, y6⟩
          · omega
          rw [e18] at y4 y5 y6
          rw [e19] at y4
          refine ih (n + 1, τ1) ⟨by dsimp only; omega, by dsimp only; omega, i3.tr z1, z2, fun _ => by dsimp only; omega, by dsimp only; omega, by dsimp only; omega, lt_ext (fun j a c => ?_) y5, fun q => by have := i9 q; have := y4 q; dsimp only; omega, fun j hj => ?_⟩ (by dsimp only; omega)
          · have := y6 (8 * σ 0 18 + j) (by omega)
            unfold uOk
            dsimp only
            rw [this.1, this.2]
            exact i8 j a c
          · have := y6 j (by omega)
            dsimp only
            rw [this.1, this.2]
            exact i10 j hj
        · refine ok_iconst 43 rfl rfl (by decide) (ok_zret 44 rfl rfl rfl (by first | omega | (simp [up_if]; omega) | (simp [up_if] at *; omega)) ?_)
          refine ⟨_, rfl, f1.tr (z1.mono (fun c k q => by simp only [rgF] at q; simp only [rgR]; omega)), z2, Or.inl ⟨rfl, ?_⟩⟩
          omega
      · refine ok_aload_n 35 rfl rfl rfl (ok_getI 36 rfl rfl fl_X12_144 rfl rfl (Or.inl rfl) (ok_bipush 37 rfl rfl (by decide) (by decide) (ok_icmp_eq 38 90 rfl rfl rfl (fun h71 => ?_) (fun h71 => ?_))))
        · refine ok_aload_n 47 rfl rfl rfl (ok_getI 48 rfl rfl fl_X12_167 rfl rfl (Or.inl rfl) (ok_if_ne 49 105 rfl rfl rfl (fun h94 => ?_) (fun h94 => ?_)))
          · refine ok_iload_n 54 rfl rfl rfl (ok_aload_n 55 rfl rfl rfl (ok_getI 56 rfl rfl fl_X12_170 rfl rfl (Or.inl rfl) (ok_icmp_eq 57 119 rfl rfl rfl (fun h110 => ?_) (fun h110 => ?_))))
            · obtain ⟨ρ, er⟩ : ∃ x : eS, x = (if σ 0 18 = 0 then up τ 0 19 n else τ) := ⟨_, rfl⟩
              have fρ : fr rgR σ ρ := by
                rw [er]; split
                · exact fr_up f1 (by simp [rgR])
                · exact f1
              have pρ : Pz ρ := by
                rw [er]; split
                · exact i4.fr (fr_up fr.rf (by omega))
                · exact i4
              have w19 : ρ 0 19 = n := by
                rw [er]; split
                · simp [up_if]
                · omega
              have w18 : ρ 0 18 = σ 0 18 := by
                rw [er]; split
                · simp [up_if]; exact e18
                · exact e18
              have w9 : ρ 0 9 = σ 0 9 := by
                rw [er]; split
                · simp [up_if]; exact i6
                · exact i6
              have w12 : ρ 0 12 = τ 0 12 := by
                rw [er]; split
                · simp [up_if]
                · rfl
              have w13 : ρ 0 13 = τ 0 13 := by
                rw [er]; split
                · simp [up_if]
                · rfl
              have w67 : ∀ j, ρ 6 j = τ 6 j ∧ ρ 7 j = τ 7 j := fun j => by
                rw [er]; split
                · simp [up_if]
                · exact ⟨rfl, rfl⟩
              have uu : uRows ρ (σ 0 18 + 1) n := by
                intro i j a1 a2 a3 a4
                unfold uOk
                rw [(w67 _).1, (w67 _).2]
                by_cases q : i = σ 0 18
                · rw [q]; exact i8 j a3 a4
                · have := i10 (8 * i + j) (by omega)
                  rw [this.1, this.2]
                  exact r5 i j a1 (by omega) a3 (by have := i9 (by omega); omega)
              have t12 := i4.1
              have t13 : τ 0 12 < τ 0 13 := i4.2.2.2.2.2.1 (by omega)
              first | (have er' : up τ 0 19 n = ρ := by rw [er, if_pos (by omega)]
                       rw [er']) | (have er' : τ = ρ := by rw [er, if_neg (by omega)]
                                    rw [er'])
              clear er er'
              refine ok_aload_n 62 rfl rfl rfl (ok_callVV (M' := M_Mo_next) (as := []) 63 rfl rfl ml_X12_173 (s_Mo_next pρ.P0) rfl rfl (Nat.le_of_ble_eq_true rfl) ⟨Nat.le_of_ble_eq_true rfl, Nat.le_of_ble_eq_true rfl⟩ rfl (Nat.le_of_ble_eq_true rfl) (fun τ1 hl => ?_))
              have p1 := Pz.of pρ.P0 hl
              have l18 := hl.1 0 18 (by omega)
              have l19 := hl.1 0 19 (by omega)
              have l9 := hl.1 0 9 (by omega)
              have l12 := hl.2.1
              refine ok_aload_n 64 rfl rfl rfl (ok_dup 65 rfl rfl rfl (ok_getI 66 rfl rfl fl_X12_167 rfl rfl (Or.inl rfl) (ok_iconst 67 rfl rfl (by decide) (ok_iadd 68 rfl rfl (by first | omega | (simp [up_if]; omega) | (simp [up_if] at *; omega)) (ok_putI 69 rfl rfl fl_X12_167 rfl rfl rfl rfl (ok_iconst 70 rfl rfl (by decide) (ok_zret 71 rfl rfl rfl (by first | omega | (simp [up_if]; omega) | (simp [up_if] at *; omega)) ?_)))))))
              refine ⟨_, rfl, fr_up (fρ.tr (hl.1.mono (fun c k q => by simp only [rgR]; omega))) (by simp [rgR]), p1.fr (fr_up fr.rf (by omega)), Or.inr ⟨rfl, by simp [up_if]; omega, ?_, by simp [up_if]; omega⟩⟩
              refine ⟨by simp [up_if]; omega, by simp [up_if]; omega, by simp [up_if]; omega, by simp [up_if]; omega, ?_⟩
              intro i j a1 a2 a3 a4
              simp [up_if] at a2 a4
              unfold uOk
              rw [up_ne _ _ _ _ (by decide), up_ne _ _ _ _ (by decide), hl.1 7 _ (by omega), hl.1 6 _ (by omega)]
              exact uu i j a1 (by omega) a3 (by omega)
            · refine ok_aload_n 58 rfl rfl rfl (ok_iconst 59 rfl rfl (by decide) (ok_callVI (M' := M_Mo_fails) (as := [_]) 60 rfl rfl ml_X12_164 (s_Mo_fails (by decide)) rfl rfl (Nat.le_of_ble_eq_true rfl) ⟨Nat.le_of_ble_eq_true rfl, Nat.le_of_ble_eq_true rfl⟩ rfl (Nat.le_of_ble_eq_true rfl) (fun σ' z hz => ?_)))
              have hq := hfail τ σ' z f1 i4 hz
              refine ok_zret 61 rfl rfl rfl (by have := hz.1; omega) ?_
              exact ⟨_, rfl, hq⟩
          · refine ok_aload_n 50 rfl rfl rfl (ok_iload_n 51 rfl rfl rfl (ok_putI 52 rfl rfl fl_X12_170 rfl rfl rfl rfl (ok_goto 53 119 rfl rfl rfl ?_)))
            obtain ⟨ρ, er⟩ : ∃ x : eS, x = (if σ 0 18 = 0 then up τ 0 19 n else τ) := ⟨_, rfl⟩
            have fρ : fr rgR σ ρ := by
              rw [er]; split
              · exact fr_up f1 (by simp [rgR])
              · exact f1
            have pρ : Pz ρ := by
              rw [er]; split
              · exact i4.fr (fr_up fr.rf (by omega))
              · exact i4
            have w19 : ρ 0 19 = n := by
              rw [er]; split
              · simp [up_if]
              · omega
            have w18 : ρ 0 18 = σ 0 18 := by
              rw [er]; split
              · simp [up_if]; exact e18
              · exact e18
            have w9 : ρ 0 9 = σ 0 9 := by
              rw [er]; split
              · simp [up_if]; exact i6
              · exact i6
            have w12 : ρ 0 12 = τ 0 12 := by
              rw [er]; split
              · simp [up_if]
              · rfl
            have w13 : ρ 0 13 = τ 0 13 := by
              rw [er]; split
              · simp [up_if]
              · rfl
            have w67 : ∀ j, ρ 6 j = τ 6 j ∧ ρ 7 j = τ 7 j := fun j => by
              rw [er]; split
              · simp [up_if]
              · exact ⟨rfl, rfl⟩
            have uu : uRows ρ (σ 0 18 + 1) n := by
              intro i j a1 a2 a3 a4
              unfold uOk
              rw [(w67 _).1, (w67 _).2]
              by_cases q : i = σ 0 18
              · rw [q]; exact i8 j a3 a4
              · have := i10 (8 * i + j) (by omega)
                rw [this.1, this.2]
                exact r5 i j a1 (by omega) a3 (by have := i9 (by omega); omega)
            have t12 := i4.1
            have t13 : τ 0 12 < τ 0 13 := i4.2.2.2.2.2.1 (by omega)
            first | (have er' : up τ 0 19 n = ρ := by rw [er, if_pos (by omega)]
                     rw [er']) | (have er' : τ = ρ := by rw [er, if_neg (by omega)]
                                  rw [er'])
            clear er er'
            refine ok_aload_n 62 rfl rfl rfl (ok_callVV (M' := M_Mo_next) (as := []) 63 rfl rfl ml_X12_173 (s_Mo_next pρ.P0) rfl rfl (Nat.le_of_ble_eq_true rfl) ⟨Nat.le_of_ble_eq_true rfl, Nat.le_of_ble_eq_true rfl⟩ rfl (Nat.le_of_ble_eq_true rfl) (fun τ1 hl => ?_))
            have p1 := Pz.of pρ.P0 hl
            have l18 := hl.1 0 18 (by omega)
            have l19 := hl.1 0 19 (by omega)
            have l9 := hl.1 0 9 (by omega)
            have l12 := hl.2.1
            refine ok_aload_n 64 rfl rfl rfl (ok_dup 65 rfl rfl rfl (ok_getI 66 rfl rfl fl_X12_167 rfl rfl (Or.inl rfl) (ok_iconst 67 rfl rfl (by decide) (ok_iadd 68 rfl rfl (by first | omega | (simp [up_if]; omega) | (simp [up_if] at *; omega)) (ok_putI 69 rfl rfl fl_X12_167 rfl rfl rfl rfl (ok_iconst 70 rfl rfl (by decide) (ok_zret 71 rfl rfl rfl (by first | omega | (simp [up_if]; omega) | (simp [up_if] at *; omega)) ?_)))))))
            refine ⟨_, rfl, fr_up (fρ.tr (hl.1.mono (fun c k q => by simp only [rgR]; omega))) (by simp [rgR]), p1.fr (fr_up fr.rf (by omega)), Or.inr ⟨rfl, by simp [up_if]; omega, ?_, by simp [up_if]; omega⟩⟩
            refine ⟨by simp [up_if]; omega, by simp [up_if]; omega, by simp [up_if]; omega, by simp [up_if]; omega, ?_⟩
            intro i j a1 a2 a3 a4
            simp [up_if] at a2 a4
            unfold uOk
            rw [up_ne _ _ _ _ (by decide), up_ne _ _ _ _ (by decide), hl.1 7 _ (by omega), hl.1 6 _ (by omega)]
            exact uu i j a1 (by omega) a3 (by omega)
        · refine ok_aload_n 39 rfl rfl rfl (ok_iload_n 40 rfl rfl rfl (ok_callVI (M' := M_Mo_readFraction) (as := [_]) 41 rfl rfl ml_X12_176 (s_Mo_readFraction i4 ⟨i1, i2⟩ ⟨by omega, by omega⟩) rfl rfl (Nat.le_of_ble_eq_true rfl) ⟨Nat.le_of_ble_eq_true rfl, Nat.le_of_ble_eq_true rfl⟩ rfl (Nat.le_of_ble_eq_true rfl) (fun τ1 z hz => ?_)))
          obtain ⟨z1, z2, z3⟩ := hz
          have p12 := i4.1
          have p24 := z2.2.1
          have p25 := z2.2.2.1
          have g6 : τ1 0 6 = τ 0 6 := z1 0 6 (by simp only [rgF]; omega)
          refine ok_if_ne 42 84 rfl rfl rfl (fun h79 => ?_) (fun h79 => ?_)
          · refine ok_inc2 45 rfl rfl rfl (by first | omega | (simp [up_if]; omega) | (simp [up_if] at *; omega)) (ok_goto 46 57 rfl rfl rfl ?_)
            rcases z3 with ⟨q, -⟩ | ⟨-, y1, y2, y3, y4, y5, y6⟩
            · omega
            rw [e18] at y4 y5 y6
            rw [e19] at y4
            refine ih (n + 1, τ1) ⟨by dsimp only; omega, by dsimp only; omega, i3.tr z1, z2, fun _ => by dsimp only; omega, by dsimp only; omega, by dsimp only; omega, lt_ext (fun j a c => ?_) y5, fun q => by have := i9 q; have := y4 q; dsimp only; omega, fun j hj => ?_⟩ (by dsimp only; omega)
            · have := y6 (8 * σ 0 18 + j) (by omega)
              unfold uOk
              dsimp only
              rw [this.1, this.2]
              exact i8 j a c
            · have := y6 j (by omega)
              dsimp only
              rw [this.1, this.2]
              exact i10 j hj
          · refine ok_iconst 43 rfl rfl (by decide) (ok_zret 44 rfl rfl rfl (by first | omega | (simp [up_if]; omega) | (simp [up_if] at *; omega)) ?_)
            refine ⟨_, rfl, f1.tr (z1.mono (fun c k q => by simp only [rgF] at q; simp only [rgR]; omega)), z2, Or.inl ⟨rfl, ?_⟩⟩
            omega
    · refine ok_aload_n 25 rfl rfl rfl (ok_iconst 26 rfl rfl (by decide) (ok_callVI (M' := M_Mo_fails) (as := [_]) 27 rfl rfl ml_X12_164 (s_Mo_fails (by decide)) rfl rfl (Nat.le_of_ble_eq_true rfl) ⟨Nat.le_of_ble_eq_true rfl, Nat.le_of_ble_eq_true rfl⟩ rfl (Nat.le_of_ble_eq_true rfl) (fun σ' z hz => ?_)))
      have hq := hfail σ σ' z fr.rf h hz
      refine ok_zret 28 rfl rfl rfl (by have := hz.1; omega) ?_
      exact ⟨_, rfl, hq⟩
  refine ok_aload_n 0 rfl rfl rfl (ok_callVI (M' := M_Mo_isNumber) (as := []) 1 rfl rfl ml_X12_160 (s_Mo_isNumber h) rfl rfl (Nat.le_of_ble_eq_true rfl) ⟨Nat.le_of_ble_eq_true rfl, Nat.le_of_ble_eq_true rfl⟩ rfl (Nat.le_of_ble_eq_true rfl) (fun σ' z hz => ?_))
  obtain ⟨hs_, hz⟩ := hz
  rw [hs_]; clear hs_ σ'
  refine ok_if_ne 2 24 rfl rfl rfl (fun h4 => ?_) (fun h4 => ?_)
  · refine ok_iconst 11 rfl rfl (by decide) (ok_goto 12 29 rfl rfl rfl (ok_ist1 14 rfl rfl rfl (ok_iload_n 15 rfl rfl rfl (ok_if_ne 16 40 rfl rfl rfl (fun h31 => ?_) (fun h31 => ?_)))))
    · refine tail ?_ _
      rcases hz with ⟨-, q⟩ | ⟨q, -⟩
      · have := q.1; omega
      · omega
    · refine ok_aload_n 17 rfl rfl rfl (ok_iconst 18 rfl rfl (by decide) (ok_callVI (M' := M_Mo_fails) (as := [_]) 19 rfl rfl ml_X12_164 (s_Mo_fails (by decide)) rfl rfl (Nat.le_of_ble_eq_true rfl) ⟨Nat.le_of_ble_eq_true rfl, Nat.le_of_ble_eq_true rfl⟩ rfl (Nat.le_of_ble_eq_true rfl) (fun σ' z hz => ?_)))
      have hq := hfail σ σ' z fr.rf h hz
      refine ok_zret 20 rfl rfl rfl (by have := hz.1; omega) ?_
      exact ⟨_, rfl, hq⟩
  · refine ok_aload_n 3 rfl rfl rfl (ok_getI 4 rfl rfl fl_X12_147 rfl rfl (Or.inl rfl) (ok_iconst 5 rfl rfl (by decide) (ok_icmp_ne 6 28 rfl rfl rfl (fun h12 => ?_) (fun h12 => ?_))))
    · refine ok_iconst 13 rfl rfl (by decide) (ok_ist1 14 rfl rfl rfl (ok_iload_n 15 rfl rfl rfl (ok_if_ne 16 40 rfl rfl rfl (fun h31 => ?_) (fun h31 => ?_))))
      · refine tail ?_ _
        rcases hz with ⟨-, q⟩ | ⟨q, -⟩
        · have := q.1; omega
        · omega
      · refine ok_aload_n 17 rfl rfl rfl (ok_iconst 18 rfl rfl (by decide) (ok_callVI (M' := M_Mo_fails) (as := [_]) 19 rfl rfl ml_X12_164 (s_Mo_fails (by decide)) rfl rfl (Nat.le_of_ble_eq_true rfl) ⟨Nat.le_of_ble_eq_true rfl, Nat.le_of_ble_eq_true rfl⟩ rfl (Nat.le_of_ble_eq_true rfl) (fun σ' z hz => ?_)))
        have hq := hfail σ σ' z fr.rf h hz
        refine ok_zret 20 rfl rfl rfl (by have := hz.1; omega) ?_
        exact ⟨_, rfl, hq⟩
    · refine ok_aload_n 7 rfl rfl rfl (ok_getI 8 rfl rfl fl_X12_144 rfl rfl (Or.inl rfl) (ok_bipush 9 rfl rfl (by decide) (by decide) (ok_icmp_ne 10 28 rfl rfl rfl (fun h21 => ?_) (fun h21 => ?_))))
      · refine ok_iconst 13 rfl rfl (by decide) (ok_ist1 14 rfl rfl rfl (ok_iload_n 15 rfl rfl rfl (ok_if_ne 16 40 rfl rfl rfl (fun h31 => ?_) (fun h31 => ?_))))
        · refine tail ?_ _
          rcases hz with ⟨-, q⟩ | ⟨q, -⟩
          · have := q.1; omega
          · omega
        · refine ok_aload_n 17 rfl rfl rfl (ok_iconst 18 rfl rfl (by decide) (ok_callVI (M' := M_Mo_fails) (as := [_]) 19 rfl rfl ml_X12_164 (s_Mo_fails (by decide)) rfl rfl (Nat.le_of_ble_eq_true rfl) ⟨Nat.le_of_ble_eq_true rfl, Nat.le_of_ble_eq_true rfl⟩ rfl (Nat.le_of_ble_eq_true rfl) (fun σ' z hz => ?_)))
          have hq := hfail σ σ' z fr.rf h hz
          refine ok_zret 20 rfl rfl rfl (by have := hz.1; omega) ?_
          exact ⟨_, rfl, hq⟩
      · refine ok_iconst 11 rfl rfl (by decide) (ok_goto 12 29 rfl rfl rfl (ok_ist1 14 rfl rfl rfl (ok_iload_n 15 rfl rfl rfl (ok_if_ne 16 40 rfl rfl rfl (fun h31 => ?_) (fun h31 => ?_)))))
        · refine tail ?_ _
          rcases hz with ⟨-, q⟩ | ⟨q, -⟩
          · have := q.1; omega
          · omega
        · refine ok_aload_n 17 rfl rfl rfl (ok_iconst 18 rfl rfl (by decide) (ok_callVI (M' := M_Mo_fails) (as := [_]) 19 rfl rfl ml_X12_164 (s_Mo_fails (by decide)) rfl rfl (Nat.le_of_ble_eq_true rfl) ⟨Nat.le_of_ble_eq_true rfl, Nat.le_of_ble_eq_true rfl⟩ rfl (Nat.le_of_ble_eq_true rfl) (fun σ' z hz => ?_)))
          have hq := hfail σ σ' z fr.rf h hz
          refine ok_zret 20 rfl rfl rfl (by have := hz.1; omega) ?_
          exact ⟨_, rfl, hq⟩
end
section
def gF (σ : eS) : Nat → Int
  | 0 => σ 0 4
  | k + 1 => (Int.gcd (gF σ k) (σ 4 k) : Int)
theorem gF_s (σ : eS) {k : Int} (h : 0 ≤ k) : gF σ (k + 1).toNat = (Int.gcd (gF σ k.toNat) (σ 4 k) : Int) := by
  have : (k + 1).toNat = k.toNat + 1 := by omega
  rw [this]
  show ((Int.gcd (gF σ k.toNat) (σ 4 ((k.toNat : Nat) : Int)) : Nat) : Int) = _
  rw [Int.toNat_of_nonneg h]
theorem gF_bd {σ : eS} (h : 1 ≤ σ 0 4) : ∀ k : Nat, 1 ≤ gF σ k ∧ gF σ k ≤ σ 0 4
  | 0 => ⟨h, Int.le_refl _⟩
  | k + 1 => by
    have h1 := gF_bd h k
    have h2 := gcd_pos (a := gF σ k) (b := σ 4 k) (by omega)
    show 1 ≤ (Int.gcd (gF σ k) (σ 4 k) : Int) ∧ _
    exact ⟨h2.1, Int.le_trans h2.2 h1.2⟩
/-- a table written into a slot: size, below, and the first j cells -/
def tw (σ : eS) (s n b g j : Int) : eS := fun c k => if c = 1 ∧ k = s then n else if c = 2 ∧ k = s then b else if c = 3 ∧ 64 * s ≤ k ∧ k < 64 * s + j then σ 4 (k - 64 * s) / g else σ c k
theorem tw_0 (σ : eS) (s n b g : Int) : up (up σ 1 s n) 2 s b = tw σ s n b g 0 := by
  funext c k
  simp only [up_if, tw]
  by_cases h1 : c = 1 ∧ k = s
  · rw [if_neg (by omega), if_pos h1, if_pos h1]
  · by_cases h2 : c = 2 ∧ k = s
    · rw [if_pos h2, if_neg h1, if_pos h2]
    · rw [if_neg h2, if_neg h1, if_neg h1, if_neg h2, if_neg (by omega)]
theorem tw_s {σ : eS} {s n b g j : Int} (h : 0 ≤ j) : up (tw σ s n b g j) 3 (64 * s + j) (σ 4 j / g) = tw σ s n b g (j + 1) := by
  funext c k
  simp only [up_if, tw]
  by_cases h1 : c = 3 ∧ k = 64 * s + j
  · rw [if_pos h1, if_neg (by omega), if_neg (by omega), if_pos ⟨h1.1, by omega, by omega⟩, h1.2]
    congr 2
    omega
  · rw [if_neg h1]
    by_cases h2 : c = 1 ∧ k = s
    · rw [if_pos h2, if_pos h2]
    · rw [if_neg h2, if_neg h2]
      by_cases h3 : c = 2 ∧ k = s
      · rw [if_pos h3, if_pos h3]
      · rw [if_neg h3, if_neg h3]
        by_cases h4 : c = 3 ∧ 64 * s ≤ k ∧ k < 64 * s + j
        · rw [if_pos h4, if_pos ⟨h4.1, by omega, by omega⟩]
        · rw [if_neg h4, if_neg (by omega)]
def fitT (σ : eS) (n : Int) : Prop := σ 0 4 / gF σ (n * n).toNat ≤ 999999 ∧ ∀ k, 0 ≤ k → k < n * n → σ 4 k / gF σ (n * n).toNat ≤ 99999999
def Qtk (σ : eS) (s n : Int) (σ' : eS) (z : Int) : Prop := (z = 0 ∧ σ' = σ ∧ ¬ fitT σ n) ∨ (z = 1 ∧ σ' = tw σ s n (if n = 0 then 0 else σ 0 4 / gF σ (n * n).toNat) (gF σ (n * n).toNat) (n * n) ∧ fitT σ n)
theorem s_Mo_takes {σ : eS} {s n : Int} (hs : 0 ≤ s ∧ s < 4) (hn : 0 ≤ n ∧ n ≤ 8) (hb : 1 ≤ σ 0 4) (hf : ∀ k, 0 ≤ k → k < n * n → 0 ≤ σ 4 k) : MtI shB M_Mo_takes [vr 0, vi s, vi n] σ (Qtk σ s n) := by
  refine Mt.of okM_Mo_takes (Nat.le_of_ble_eq_true rfl) (fun hk hg => ?_)
  obtain ⟨q1, q2⟩ := sq8 hn
  obtain ⟨G, eG⟩ : ∃ x, x = gF σ (n * n).toNat := ⟨_, rfl⟩
  obtain ⟨gp, gl⟩ := gF_bd hb (n * n).toNat
  rw [← eG] at gp gl
  have tail : ∀ b : Int, b = (if n = 0 then 0 else σ 0 4 / G) → fitT σ n → Ok shB M_Mo_takes 112 [some (vr 0), some (vi s), some (vi n), some (vl G), none, some (vi (n * n))] [] (tw σ s n b G 0) (fun σ' v => ∃ z, v = some (vi z) ∧ Qtk σ s n σ' z) := by
    intro b hbb hft
    refine ok_iconst 66 rfl rfl (by decide) (ok_ist5 67 rfl rfl rfl ?_)
    refine lpO (fun j : Int => [some (vr 0), some (vi s), some (vi n), some (vl G), none, some (vi j)]) (fun j => tw σ s n b G j) (fun j => 0 ≤ j ∧ j ≤ n * n) (fun j => (n * n - j).toNat) ?_ 0 ⟨by omega, by omega⟩
    rintro j ⟨h1, h2⟩ ih
    have e4 : ∀ k, tw σ s n b G j 4 k = σ 4 k := fun k => by simp [tw]
    refine ok_iload 68 rfl rfl rfl (ok_iload_n 69 rfl rfl rfl (ok_iload_n 70 rfl rfl rfl (ok_imul 71 rfl rfl (by first | omega | (simp [up_if]; omega) | (simp [up_if] at *; omega)) (ok_icmp_ge 72 151 rfl rfl rfl (fun h120 => ?_) (fun h120 => ?_)))))
    · refine ok_iconst 90 rfl rfl (by decide) (ok_zret 91 rfl rfl rfl (by first | omega | (simp [up_if]; omega) | (simp [up_if] at *; omega)) ?_)
      exact ⟨_, rfl, Or.inr ⟨rfl, by rw [← eG, ← hbb, show j = n * n by omega], hft⟩⟩
    · have d1 := hf j h1 h120
      have d2 := Int.ediv_nonneg d1 (by omega : 0 ≤ G)
      have d3 := hft.2 j h1 h120
      rw [← eG] at d3
      refine ok_aload_n 73 rfl rfl rfl (ok_getR 74 rfl rfl fl_X12_16 rfl rfl (ok_bipush 75 rfl rfl (by decide) (by decide) (ok_iload_n 76 rfl rfl rfl (ok_imul 77 rfl rfl (by first | omega | (simp [up_if]; omega) | (simp [up_if] at *; omega)) (ok_iload 78 rfl rfl rfl (ok_iadd 79 rfl rfl (by first | omega | (simp [up_if]; omega) | (simp [up_if] at *; omega)) (ok_aload_n 80 rfl rfl rfl (ok_getR 81 rfl rfl fl_X12_19 rfl rfl (ok_iload 82 rfl rfl rfl (ok_lald 83 rfl rfl rfl (by first | omega | (simp [up_if]; omega) | (simp [up_if] at *; omega)) (ok_lload_n 84 rfl rfl rfl (ok_ldiv 85 rfl rfl (by rw [e4]; omega) (by omega) (ok_l2i 86 rfl rfl (by rw [e4]; omega) (ok_iast 87 rfl rfl rfl (by first | omega | (simp [up_if]; omega) | (simp [up_if] at *; omega)) (ok_inc5 88 rfl rfl rfl (by first | omega | (simp [up_if]; omega) | (simp [up_if] at *; omega)) (ok_goto 89 115 rfl rfl rfl ?_))))))))))))))))
      rw [e4, tw_s h1]
      exact ih (j + 1) ⟨by omega, by omega⟩ (by omega)
  refine ok_aload_n 0 rfl rfl rfl (ok_getL 1 rfl rfl fl_X12_85 rfl rfl (ok_lst3 2 rfl rfl rfl (ok_iconst 3 rfl rfl (by decide) (ok_ist5 4 rfl rfl rfl ?_))))
  refine lpO (fun j : Int => [some (vr 0), some (vi s), some (vi n), some (vl (gF σ j.toNat)), none, some (vi j)]) (fun _ => σ) (fun j => 0 ≤ j ∧ j ≤ n * n) (fun j => (n * n - j).toNat) ?_ 0 ⟨by omega, by omega⟩
  rintro j ⟨h1, h2⟩ ih
  obtain ⟨gp', gl'⟩ := gF_bd hb j.toNat
  refine ok_iload 5 rfl rfl rfl (ok_iload_n 6 rfl rfl rfl (ok_iload_n 7 rfl rfl rfl (ok_imul 8 rfl rfl (by first | omega | (simp [up_if]; omega) | (simp [up_if] at *; omega)) (ok_icmp_ge 9 34 rfl rfl rfl (fun h13 => ?_) (fun h13 => ?_)))))
  · rw [show j = n * n by omega, ← eG]
    have b0 := Int.ediv_nonneg (by omega : 0 ≤ σ 0 4) (by omega : 0 ≤ G)
    refine ok_aload_n 19 rfl rfl rfl (ok_getL 20 rfl rfl fl_X12_85 rfl rfl (ok_lload_n 21 rfl rfl rfl (ok_ldiv 22 rfl rfl (by first | omega | (simp [up_if]; omega) | (simp [up_if] at *; omega)) (by first | omega | (simp [up_if]; omega) | (simp [up_if] at *; omega)) (ok_ldc2 23 (999999) rfl rfl kc_X12_93 (by decide) (ok_lcmp_le 24 25 49 rfl rfl rfl rfl rfl (fun h43 => ?_) (fun h43 => ?_))))))
    · refine ok_iconst 28 rfl rfl (by decide) (ok_ist5 29 rfl rfl rfl ?_)
      refine lpO (fun j : Int => [some (vr 0), some (vi s), some (vi n), some (vl G), none, some (vi j)]) (fun _ => σ) (fun j => 0 ≤ j ∧ j ≤ n * n ∧ ∀ k, 0 ≤ k → k < j → σ 4 k / G ≤ 99999999) (fun j => (n * n - j).toNat) ?_ 0 ⟨by omega, by omega, fun k a b => by omega⟩
      rintro j ⟨i1, i2, i3⟩ ih
      refine ok_iload 30 rfl rfl rfl (ok_iload_n 31 rfl rfl rfl (ok_iload_n 32 rfl rfl rfl (ok_imul 33 rfl rfl (by first | omega | (simp [up_if]; omega) | (simp [up_if] at *; omega)) (ok_icmp_ge 34 84 rfl rfl rfl (fun h57 => ?_) (fun h57 => ?_)))))
      · refine ok_aload_n 48 rfl rfl rfl (ok_getR 49 rfl rfl fl_X12_7 rfl rfl (ok_iload_n 50 rfl rfl rfl (ok_iload_n 51 rfl rfl rfl (ok_iast 52 rfl rfl rfl (by first | omega | (simp [up_if]; omega) | (simp [up_if] at *; omega)) (ok_aload_n 53 rfl rfl rfl (ok_getR 54 rfl rfl fl_X12_13 rfl rfl (ok_iload_n 55 rfl rfl rfl (ok_iload_n 56 rfl rfl rfl (ok_if_ne 57 104 rfl rfl rfl (fun h97 => ?_) (fun h97 => ?_))))))))))
        · refine ok_aload_n 60 rfl rfl rfl (ok_getL 61 rfl rfl fl_X12_85 rfl rfl (ok_lload_n 62 rfl rfl rfl (ok_ldiv 63 rfl rfl (by first | omega | (simp [up_if]; omega) | (simp [up_if] at *; omega)) (by first | omega | (simp [up_if]; omega) | (simp [up_if] at *; omega)) (ok_l2i 64 rfl rfl (by first | omega | (simp [up_if]; omega) | (simp [up_if] at *; omega)) (ok_iast 65 rfl rfl rfl (by first | omega | (simp [up_if]; omega) | (simp [up_if] at *; omega)) ?_)))))
          have hft : fitT σ n := ⟨by rw [← eG]; omega, fun k a b => by rw [← eG]; exact i3 k a (by omega)⟩
          rw [show j = n * n by omega]
          first | (rw [tw_0 σ s n 0 G]; exact tail 0 (by rw [if_pos (by omega)]) hft) | (simp only [up_ne _ _ _ _ (show (0 : Nat) ≠ 1 by decide)]; rw [tw_0 σ s n _ G]; exact tail _ (by rw [if_neg (by omega)]) hft)
        · refine ok_iconst 58 rfl rfl (by decide) (ok_goto 59 111 rfl rfl rfl (ok_iast 65 rfl rfl rfl (by first | omega | (simp [up_if]; omega) | (simp [up_if] at *; omega)) ?_))
          have hft : fitT σ n := ⟨by rw [← eG]; omega, fun k a b => by rw [← eG]; exact i3 k a (by omega)⟩
          rw [show j = n * n by omega]
          first | (rw [tw_0 σ s n 0 G]; exact tail 0 (by rw [if_pos (by omega)]) hft) | (simp only [up_ne _ _ _ _ (show (0 : Nat) ≠ 1 by decide)]; rw [tw_0 σ s n _ G]; exact tail _ (by rw [if_neg (by omega)]) hft)
      · have d1 := hf j i1 h57
        refine ok_aload_n 35 rfl rfl rfl (ok_getR 36 rfl rfl fl_X12_19 rfl rfl (ok_iload 37 rfl rfl rfl (ok_lald 38 rfl rfl rfl (by first | omega | (simp [up_if]; omega) | (simp [up_if] at *; omega)) (ok_lload_n 39 rfl rfl rfl (ok_ldiv 40 rfl rfl (by first | omega | (simp [up_if]; omega) | (simp [up_if] at *; omega)) (by first | omega | (simp [up_if]; omega) | (simp [up_if] at *; omega)) (ok_ldc2 41 (99999999) rfl rfl kc_X12_95 (by decide) (ok_lcmp_le 42 43 78 rfl rfl rfl rfl rfl (fun h72 => ?_) (fun h72 => ?_))))))))
        · refine ok_inc5 46 rfl rfl rfl (by first | omega | (simp [up_if]; omega) | (simp [up_if] at *; omega)) (ok_goto 47 52 rfl rfl rfl ?_)
          exact ih (j + 1) ⟨by omega, by omega, lt_ext i3 h72⟩ (by omega)
        · refine ok_iconst 44 rfl rfl (by decide) (ok_zret 45 rfl rfl rfl (by first | omega | (simp [up_if]; omega) | (simp [up_if] at *; omega)) ?_)
          exact ⟨_, rfl, Or.inl ⟨rfl, rfl, fun q => by have := q.2 j i1 h57; rw [← eG] at this; omega⟩⟩
    · refine ok_iconst 26 rfl rfl (by decide) (ok_zret 27 rfl rfl rfl (by first | omega | (simp [up_if]; omega) | (simp [up_if] at *; omega)) ?_)
      exact ⟨_, rfl, Or.inl ⟨rfl, rfl, fun q => by have := q.1; rw [← eG] at this; omega⟩⟩
  · refine ok_lload_n 10 rfl rfl rfl (ok_aload_n 11 rfl rfl rfl (ok_getR 12 rfl rfl fl_X12_19 rfl rfl (ok_iload 13 rfl rfl rfl (ok_lald 14 rfl rfl rfl (by first | omega | (simp [up_if]; omega) | (simp [up_if] at *; omega)) (ok_callSL (M' := M_Mo_common) (as := [_, _]) 15 rfl rfl ml_X12_89 (s_Mo_common (by omega) (hf j h1 h13)) ⟨Nat.le_of_ble_eq_true rfl, Nat.le_of_ble_eq_true rfl⟩ rfl (Nat.le_of_ble_eq_true rfl) (fun σ' z hz => ?_))))))
    rw [hz.1, hz.2]
    clear hz z σ'
    refine ok_lst3 16 rfl rfl rfl (ok_inc5 17 rfl rfl rfl (by first | omega | (simp [up_if]; omega) | (simp [up_if] at *; omega)) (ok_goto 18 8 rfl rfl rfl ?_))
    rw [← gF_s σ h1]
    exact ih (j + 1) ⟨by omega, by omega⟩ (by omega)
theorem tw_B {σ : eS} {s n b g : Int} (hB : iB1 σ) (hs : 0 ≤ s ∧ s < 4) (hn : 0 ≤ n ∧ n ≤ 8) (hb : 0 < n → 1 ≤ b ∧ b ≤ 999999) (hc : ∀ k, 0 ≤ k → k < n * n → 0 ≤ σ 4 k / g ∧ σ 4 k / g ≤ 99999999) : iB1 (tw σ s n b g (n * n)) := by
  refine ⟨fun t h1 h2 => ?_, fun k h1 h2 => ?_, fun k h1 h2 => ?_⟩
  · by_cases q : t = s
    · subst q
      simp only [tw]
      simp
      exact ⟨hn.1, hn.2, hb⟩
    · simp only [tw]
      simp [q]
      exact hB.1 t h1 h2
  · simp only [tw]
    simp
    split
    · next q => exact hc _ (by omega) (by omega)
    · exact hB.2.1 k h1 h2
  · simp only [tw]
    simp
    exact hB.2.2 k h1 h2
end
section
abbrev rgO : Nat → Int → Prop := fun c k => (c = 0 ∧ k = 4) ∨ c = 1 ∨ c = 2 ∨ c = 3 ∨ c = 4 ∨ c = 6 ∨ c = 7
def QO (σ : eS) (σ' : eS) (z : Int) : Prop := fr rgO σ σ' ∧ iB1 σ' ∧ (z = 0 ∨ z = 1)
theorem gcd_div {u g : Int} (hu : 1 ≤ u) (hg : 1 ≤ g) (h : g ≤ u) : 1 ≤ u / g ∧ u / g ≤ u := by
  have h1 : u / g ≤ u := Int.ediv_le_self g (by omega)
  have h2 : 1 ≤ u / g := (Int.le_ediv_iff_mul_le (by omega)).mpr (by omega)
  exact ⟨h2, h1⟩
theorem div_bd {u g B : Int} (hu : 0 ≤ u ∧ u ≤ B) (hg : 1 ≤ g) : 0 ≤ u / g ∧ u / g ≤ B := by
  have h1 : u / g ≤ u := Int.ediv_le_self g hu.1
  have h2 : 0 ≤ u / g := Int.ediv_nonneg hu.1 (by omega)
  exact ⟨h2, by omega⟩
theorem mul_bd {a b A B : Int} (ha : 0 ≤ a ∧ a ≤ A) (hb : 0 ≤ b ∧ b ≤ B) : 0 ≤ a * b ∧ a * b ≤ A * B :=
  ⟨Int.mul_nonneg ha.1 hb.1, Int.mul_le_mul ha.2 hb.2 hb.1 (Int.le_trans ha.1 ha.2)⟩
theorem s_Mo_isOver {σ : eS} {s : Int} (hB : iB1 σ) (hs : 0 ≤ s ∧ s < 4) (hr : 0 ≤ σ 0 18 ∧ σ 0 18 ≤ 8) (hu : uRows σ (σ 0 18) (σ 0 18)) : MtI shB M_Mo_isOver [vr 0, vi s] σ (QO σ) := by
  refine Mt.of okM_Mo_isOver (Nat.le_of_ble_eq_true rfl) (fun hk hg => ?_)
  obtain ⟨n, en⟩ : ∃ x, x = σ 0 18 := ⟨_, rfl⟩
  rw [← en] at hr hu
  have hB' : ∀ τ : eS, fr (fun c k => (c = 0 ∧ k = 4) ∨ c = 4 ∨ c = 6 ∨ c = 7) σ τ → (∀ k, 0 ≤ k → k < 64 → 0 ≤ τ 4 k) → iB1 τ := fun τ f g => ⟨fun t a b => by rw [f 1 t (by omega), f 2 t (by omega)]; exact hB.1 t a b, fun k a b => by rw [f 3 k (by omega)]; exact hB.2.1 k a b, g⟩
  refine ok_aload_n 0 rfl rfl rfl (ok_lconst (w := 1) 1 rfl rfl rfl (by decide) (ok_putL 2 rfl rfl fl_X12_85 rfl rfl rfl rfl (ok_iconst 3 rfl rfl (by decide) (ok_ist2 4 rfl rfl rfl ?_))))
  refine lpO2 (fun (i : Int) (_ : eS) => [some (vr 0), some (vi s), some (vi i), none, none, none, none]) (fun _ τ => τ) (fun i τ => 0 ≤ i ∧ i ≤ n ∧ fr (fun c k => (c = 0 ∧ k = 4) ∨ c = 6 ∨ c = 7) σ τ ∧ 1 ≤ τ 0 4 ∧ τ 0 4 ≤ 999999 ∧ uRows τ n n) (fun i _ => (n - i).toNat) ?_ 0 _ ⟨by omega, by omega, fr_up fr.rf (by omega), by rw [up_same]; omega, by rw [up_same]; omega, fun i j a b c d => by unfold uOk; rw [up_ne _ _ _ _ (by decide), up_ne _ _ _ _ (by decide)]; exact hu i j a b c d⟩
  rintro i τ ⟨i1, i2, i3, i4, i5, i6⟩ ih
  have e18 : τ 0 18 = n := by rw [i3 0 18 (by omega)]; exact en.symm
  refine ok_iload_n 5 rfl rfl rfl (ok_aload_n 6 rfl rfl rfl (ok_getI 7 rfl rfl fl_X12_167 rfl rfl (Or.inl rfl) (ok_icmp_ge 8 138 rfl rfl rfl (fun h12 => ?_) (fun h12 => ?_))))
  · refine ok_iconst 81 rfl rfl (by decide) (ok_ist2 82 rfl rfl rfl ?_)
    refine lpO2 (fun (i : Int) (_ : eS) => [some (vr 0), some (vi s), some (vi i), none, none, none, none]) (fun _ τ => τ) (fun i τ => 0 ≤ i ∧ i ≤ n ∧ fr (fun c k => (c = 0 ∧ k = 4) ∨ c = 4 ∨ c = 6 ∨ c = 7) σ τ ∧ 1 ≤ τ 0 4 ∧ τ 0 4 ≤ 999999 ∧ uRows τ n n ∧ ∀ k, 0 ≤ k → k < 64 → 0 ≤ τ 4 k) (fun i _ => (n - i).toNat) ?_ 0 τ ⟨by omega, by omega, i3.mono (fun c k q => by omega), i4, i5, i6, fun k a b => by rw [i3 4 k (by omega)]; exact hB.2.2 k a b⟩
    clear i1 i2 i3 i4 i5 i6 e18 h12 ih i τ
    rintro i τ ⟨i1, i2, i3, i4, i5, i6, i7⟩ ih
    have e18 : τ 0 18 = n := by rw [i3 0 18 (by omega)]; exact en.symm
    refine ok_iload_n 83 rfl rfl rfl (ok_aload_n 84 rfl rfl rfl (ok_getI 85 rfl rfl fl_X12_167 rfl rfl (Or.inl rfl) (ok_icmp_ge 86 213 rfl rfl rfl (fun h145 => ?_) (fun h145 => ?_))))
    · refine ok_aload_n 128 rfl rfl rfl (ok_iload_n 129 rfl rfl rfl (ok_aload_n 130 rfl rfl rfl (ok_getI 131 rfl rfl fl_X12_167 rfl rfl (Or.inl rfl) (ok_callVI (M' := M_Mo_takes) (as := [_, _]) 132 rfl rfl ml_X12_179 (s_Mo_takes hs (by omega) i4 (by rw [e18]; intro k a b; have := sq8 hr; exact i7 k a (by omega))) rfl rfl (Nat.le_of_ble_eq_true rfl) ⟨Nat.le_of_ble_eq_true rfl, Nat.le_of_ble_eq_true rfl⟩ rfl (Nat.le_of_ble_eq_true rfl) (fun σ' z hz => ?_)))))
      have f0 : fr rgO σ τ := i3.mono (fun c k q => by simp only [rgO]; omega)
      refine ok_zret 133 rfl rfl rfl (by rcases hz with q | q <;> omega) ?_
      rcases hz with ⟨hz, rfl, -⟩ | ⟨hz, rfl, hft⟩
      · exact ⟨_, rfl, f0, hB' _ i3 i7, Or.inl hz⟩
      · refine ⟨_, rfl, f0.tr (fun c k q => ?_), ?_, Or.inr hz⟩
        · simp only [rgO] at q
          simp only [tw]
          rw [if_neg (by omega), if_neg (by omega), if_neg (by omega)]
        · rw [e18] at hft ⊢
          obtain ⟨gp, gl⟩ := gF_bd i4 (n * n).toNat
          refine tw_B (hB' _ i3 i7) hs hr (fun q => ?_) (fun k a b => ?_)
          · rw [if_neg (by omega)]
            exact ⟨(gcd_div i4 gp gl).1, hft.1⟩
          · exact ⟨Int.ediv_nonneg (i7 k a (by have := sq8 hr; omega)) (by omega), hft.2 k a b⟩
    · refine ok_iconst 87 rfl rfl (by decide) (ok_ist3 88 rfl rfl rfl ?_)
      refine lpO2 (fun (j : Int) (_ : eS) => [some (vr 0), some (vi s), some (vi i), some (vi j), none, none, none]) (fun _ τ => τ) (fun j τ => 0 ≤ j ∧ j ≤ n ∧ fr (fun c k => (c = 0 ∧ k = 4) ∨ c = 4 ∨ c = 6 ∨ c = 7) σ τ ∧ 1 ≤ τ 0 4 ∧ τ 0 4 ≤ 999999 ∧ uRows τ n n ∧ ∀ k, 0 ≤ k → k < 64 → 0 ≤ τ 4 k) (fun j _ => (n - j).toNat) ?_ 0 _ ⟨by omega, by omega, i3, i4, i5, i6, i7⟩
      have hin : i < n := by omega
      clear i3 i4 i5 i6 i7 e18
      rintro j τ ⟨j1, j2, i3, i4, i5, i6, i7⟩ ih2
      have e18 : τ 0 18 = n := by rw [i3 0 18 (by omega)]; exact en.symm
      refine ok_iload_n 89 rfl rfl rfl (ok_aload_n 90 rfl rfl rfl (ok_getI 91 rfl rfl fl_X12_167 rfl rfl (Or.inl rfl) (ok_icmp_ge 92 207 rfl rfl rfl (fun h155 => ?_) (fun h155 => ?_))))
      · refine ok_inc2 126 rfl rfl rfl (by first | omega | (simp [up_if]; omega) | (simp [up_if] at *; omega)) (ok_goto 127 140 rfl rfl rfl ?_)
        refine ok_fg [some (vr 0), some (vi s), some (vi (i + 1)), none, none, none, none] ⟨rfl, rfl, rfl, trivial⟩ (ih (i + 1) τ ⟨by omega, by omega, i3, i4, i5, i6, i7⟩ (by omega))
      · have uk := i6 i j (by omega) (by omega) (by omega) (by omega)
        obtain ⟨u1, u2, u3, u4⟩ := id uk
        obtain ⟨x1, x2, x3, x4⟩ := ix8 (n := n) (i := i) (j := j) hr ⟨by omega, by omega⟩ ⟨by omega, by omega⟩
        obtain ⟨d1, d2⟩ := div_bd (u := τ 0 4) (g := τ 7 (8 * i + j)) (B := 999999) ⟨by omega, by omega⟩ u1
        obtain ⟨d7, d8⟩ := mul_bd (a := τ 6 (8 * i + j)) (b := τ 0 4 / τ 7 (8 * i + j)) (A := 999999) (B := 999999) ⟨by omega, by omega⟩ ⟨by omega, by omega⟩
        refine ok_aload_n 93 rfl rfl rfl (ok_getR 94 rfl rfl fl_X12_19 rfl rfl (ok_aload_n 95 rfl rfl rfl (ok_getI 96 rfl rfl fl_X12_167 rfl rfl (Or.inl rfl) (ok_iload_n 97 rfl rfl rfl (ok_imul 98 rfl rfl (by rw [e18]; omega) (ok_iload_n 99 rfl rfl rfl (ok_iadd 100 rfl rfl (by rw [e18]; omega) (ok_aload_n 101 rfl rfl rfl (ok_getR 102 rfl rfl fl_X12_30 rfl rfl (ok_bipush 103 rfl rfl (by decide) (by decide) (ok_iload_n 104 rfl rfl rfl (ok_imul 105 rfl rfl (by first | omega | (simp [up_if]; omega) | (simp [up_if] at *; omega)) (ok_iload_n 106 rfl rfl rfl (ok_iadd 107 rfl rfl (by first | omega | (simp [up_if]; omega) | (simp [up_if] at *; omega)) (ok_iald 108 rfl rfl rfl (by first | omega | (simp [up_if]; omega) | (simp [up_if] at *; omega)) (ok_i2l 109 rfl rfl (ok_aload_n 110 rfl rfl rfl (ok_getL 111 rfl rfl fl_X12_85 rfl rfl (ok_aload_n 112 rfl rfl rfl (ok_getR 113 rfl rfl fl_X12_33 rfl rfl (ok_bipush 114 rfl rfl (by decide) (by decide) (ok_iload_n 115 rfl rfl rfl (ok_imul 116 rfl rfl (by first | omega | (simp [up_if]; omega) | (simp [up_if] at *; omega)) (ok_iload_n 117 rfl rfl rfl (ok_iadd 118 rfl rfl (by first | omega | (simp [up_if]; omega) | (simp [up_if] at *; omega)) (ok_iald 119 rfl rfl rfl (by first | omega | (simp [up_if]; omega) | (simp [up_if] at *; omega)) (ok_i2l 120 rfl rfl (ok_ldiv 121 rfl rfl (by first | omega | (simp [up_if]; omega) | (simp [up_if] at *; omega)) (by first | omega | (simp [up_if]; omega) | (simp [up_if] at *; omega)) (ok_lmul 122 rfl rfl (by first | omega | (simp [up_if]; omega) | (simp [up_if] at *; omega)) (ok_last 123 rfl rfl rfl (by rw [e18]; omega) (ok_inc3 124 rfl rfl rfl (by first | omega | (simp [up_if]; omega) | (simp [up_if] at *; omega)) (ok_goto 125 150 rfl rfl rfl ?_))))))))))))))))))))))))))))))))
        rw [e18]
        refine ih2 (j + 1) _ ⟨by omega, by omega, fr_up i3 (by simp), by rw [up_ne _ _ _ _ (by decide)]; omega, by rw [up_ne _ _ _ _ (by decide)]; omega, fun a b a1 a2 a3 a4 => ?_, ?_⟩ (by omega)
        · unfold uOk
          rw [up_ne _ _ _ _ (by decide), up_ne _ _ _ _ (by decide)]
          exact i6 a b a1 a2 a3 a4
        · intro k a b
          rw [up_if]
          split
          · exact d7
          · exact i7 k a (by omega)
  · refine ok_iconst 9 rfl rfl (by decide) (ok_ist3 10 rfl rfl rfl ?_)
    refine lpO2 (fun (j : Int) (_ : eS) => [some (vr 0), some (vi s), some (vi i), some (vi j), none, none, none]) (fun _ τ => τ) (fun j τ => 0 ≤ j ∧ j ≤ n ∧ fr (fun c k => (c = 0 ∧ k = 4) ∨ c = 6 ∨ c = 7) σ τ ∧ 1 ≤ τ 0 4 ∧ τ 0 4 ≤ 999999 ∧ uRows τ n n) (fun j _ => (n - j).toNat) ?_ 0 _ ⟨by omega, by omega, i3, i4, i5, i6⟩
    have hin : i < n := by omega
    clear i3 i4 i5 i6 e18
    rintro j τ ⟨j1, j2, i3, i4, i5, i6⟩ ih2
    have e18 : τ 0 18 = n := by rw [i3 0 18 (by omega)]; exact en.symm
    refine ok_iload_n 11 rfl rfl rfl (ok_aload_n 12 rfl rfl rfl (ok_getI 13 rfl rfl fl_X12_167 rfl rfl (Or.inl rfl) (ok_icmp_ge 14 132 rfl rfl rfl (fun h22 => ?_) (fun h22 => ?_))))
    · refine ok_inc2 79 rfl rfl rfl (by first | omega | (simp [up_if]; omega) | (simp [up_if] at *; omega)) (ok_goto 80 7 rfl rfl rfl ?_)
      exact ok_fg [some (vr 0), some (vi s), some (vi (i + 1)), none, none, none, none] ⟨rfl, rfl, rfl, trivial⟩ (ih (i + 1) τ ⟨by omega, by omega, i3, i4, i5, i6⟩ (by omega))
    · have uk := i6 i j (by omega) (by omega) (by omega) (by omega)
      obtain ⟨u1, u2, u3, u4⟩ := id uk
      obtain ⟨g1, g2⟩ := gcd_pos (a := τ 7 (8 * i + j)) (b := τ 6 (8 * i + j)) (by omega)
      obtain ⟨d1, d2⟩ := div_bd (B := 999999) ⟨u3, u4⟩ g1
      obtain ⟨d3, d4⟩ := gcd_div u1 g1 g2
      refine ok_bipush 15 rfl rfl (by decide) (by decide) (ok_iload_n 16 rfl rfl rfl (ok_imul 17 rfl rfl (by first | omega | (simp [up_if]; omega) | (simp [up_if] at *; omega)) (ok_iload_n 18 rfl rfl rfl (ok_iadd 19 rfl rfl (by first | omega | (simp [up_if]; omega) | (simp [up_if] at *; omega)) (ok_ist4 20 rfl rfl rfl (ok_aload_n 21 rfl rfl rfl (ok_getR 22 rfl rfl fl_X12_33 rfl rfl (ok_iload 23 rfl rfl rfl (ok_iald 24 rfl rfl rfl (by first | omega | (simp [up_if]; omega) | (simp [up_if] at *; omega)) (ok_i2l 25 rfl rfl (ok_aload_n 26 rfl rfl rfl (ok_getR 27 rfl rfl fl_X12_30 rfl rfl (ok_iload 28 rfl rfl rfl (ok_iald 29 rfl rfl rfl (by first | omega | (simp [up_if]; omega) | (simp [up_if] at *; omega)) (ok_i2l 30 rfl rfl (ok_callSL (M' := M_Mo_common) (as := [_, _]) 31 rfl rfl ml_X12_89 (s_Mo_common (by omega) (by omega)) ⟨Nat.le_of_ble_eq_true rfl, Nat.le_of_ble_eq_true rfl⟩ rfl (Nat.le_of_ble_eq_true rfl) (fun σ' z hz => ?_)))))))))))))))))
      rw [hz.1, hz.2]
      clear hz z σ'
      refine ok_lst5 32 rfl rfl rfl (ok_aload_n 33 rfl rfl rfl (ok_getR 34 rfl rfl fl_X12_30 rfl rfl (ok_iload 35 rfl rfl rfl (ok_dup2 36 rfl rfl ⟨rfl, rfl⟩ (ok_iald 37 rfl rfl rfl (by first | omega | (simp [up_if]; omega) | (simp [up_if] at *; omega)) (ok_lload 38 rfl rfl rfl (ok_l2i 39 rfl rfl (by first | omega | (simp [up_if]; omega) | (simp [up_if] at *; omega)) (ok_idiv 40 rfl rfl (by omega) (by omega) (ok_iast 41 rfl rfl rfl (by first | omega | (simp [up_if]; omega) | (simp [up_if] at *; omega)) (ok_aload_n 42 rfl rfl rfl (ok_getR 43 rfl rfl fl_X12_33 rfl rfl (ok_iload 44 rfl rfl rfl (ok_dup2 45 rfl rfl ⟨rfl, rfl⟩ (ok_iald 46 rfl rfl rfl (by first | omega | (simp [up_if]; omega) | (simp [up_if] at *; omega)) (ok_lload 47 rfl rfl rfl (ok_l2i 48 rfl rfl (by first | omega | (simp [up_if]; omega) | (simp [up_if] at *; omega)) (ok_idiv 49 rfl rfl (by simp only [up_ne _ _ _ _ (show (7 : Nat) ≠ 6 by decide)]; omega) (by omega) (ok_iast 50 rfl rfl rfl (by first | omega | (simp [up_if]; omega) | (simp [up_if] at *; omega)) ?_))))))))))))))))))
      obtain ⟨ρ, er⟩ : ∃ x, x = up (up τ 6 (8 * i + j) (τ 6 (8 * i + j) / (Int.gcd (τ 7 (8 * i + j)) (τ 6 (8 * i + j)) : Int))) 7 (8 * i + j) (τ 7 (8 * i + j) / (Int.gcd (τ 7 (8 * i + j)) (τ 6 (8 * i + j)) : Int)) := ⟨_, rfl⟩
      have f1 : fr (fun c k => (c = 0 ∧ k = 4) ∨ c = 6 ∨ c = 7) σ ρ := by rw [er]; exact fr_up (fr_up i3 (by simp)) (by simp)
      have b4 : ρ 0 4 = τ 0 4 := by rw [er]; simp [up_if]
      have r18 : ρ 0 18 = n := by rw [f1 0 18 (by omega)]; exact en.symm
      have b7 : 1 ≤ ρ 7 (8 * i + j) ∧ ρ 7 (8 * i + j) ≤ 999999 := by rw [er]; simp [up_if]; omega
      have b8 : uRows ρ n n := by
        intro a b a1 a2 a3 a4
        have := i6 a b a1 a2 a3 a4
        by_cases q : 8 * a + b = 8 * i + j
        · rw [q, er]; unfold uOk; simp [up_if]; omega
        · rw [er]; unfold uOk; simp [up_if, q]; exact this
      obtain ⟨g5, g6⟩ := gcd_pos (a := ρ 0 4) (b := ρ 7 (8 * i + j)) (by omega)
      obtain ⟨d5, d6⟩ := gcd_div (by omega : 1 ≤ ρ 0 4) g5 g6
      obtain ⟨d7, d8⟩ := mul_bd (a := ρ 0 4 / (Int.gcd (ρ 0 4) (ρ 7 (8 * i + j)) : Int)) (b := ρ 7 (8 * i + j)) (A := 999999) (B := 999999) ⟨by omega, by omega⟩ ⟨by omega, by omega⟩
      have d9 := Int.mul_pos (by omega : 0 < ρ 0 4 / (Int.gcd (ρ 0 4) (ρ 7 (8 * i + j)) : Int)) (by omega : 0 < ρ 7 (8 * i + j))
      simp only [up_ne _ _ _ _ (show (7 : Nat) ≠ 6 by decide)]
      rw [← er]
      refine ok_aload_n 51 rfl rfl rfl (ok_aload_n 52 rfl rfl rfl (ok_getL 53 rfl rfl fl_X12_85 rfl rfl (ok_aload_n 54 rfl rfl rfl (ok_getL 55 rfl rfl fl_X12_85 rfl rfl (ok_aload_n 56 rfl rfl rfl (ok_getR 57 rfl rfl fl_X12_33 rfl rfl (ok_iload 58 rfl rfl rfl (ok_iald 59 rfl rfl rfl (by first | omega | (simp [up_if]; omega) | (simp [up_if] at *; omega)) (ok_i2l 60 rfl rfl (ok_callSL (M' := M_Mo_common) (as := [_, _]) 61 rfl rfl ml_X12_89 (s_Mo_common (by omega) (by omega)) ⟨Nat.le_of_ble_eq_true rfl, Nat.le_of_ble_eq_true rfl⟩ rfl (Nat.le_of_ble_eq_true rfl) (fun σ' z hz => ?_)))))))))))
      rw [hz.1, hz.2]
      clear hz z σ'
      refine ok_ldiv 62 rfl rfl (by first | omega | (simp [up_if]; omega) | (simp [up_if] at *; omega)) (by first | omega | (simp [up_if]; omega) | (simp [up_if] at *; omega)) (ok_aload_n 63 rfl rfl rfl (ok_getR 64 rfl rfl fl_X12_33 rfl rfl (ok_iload 65 rfl rfl rfl (ok_iald 66 rfl rfl rfl (by first | omega | (simp [up_if]; omega) | (simp [up_if] at *; omega)) (ok_i2l 67 rfl rfl (ok_lmul 68 rfl rfl (by first | omega | (simp [up_if]; omega) | (simp [up_if] at *; omega)) (ok_putL 69 rfl rfl fl_X12_85 rfl rfl rfl rfl (ok_aload_n 70 rfl rfl rfl (ok_getL 71 rfl rfl fl_X12_85 rfl rfl (ok_ldc2 72 (999999) rfl rfl kc_X12_93 (by decide) (ok_lcmp_le 73 74 126 rfl rfl rfl rfl rfl (fun h120 => ?_) (fun h120 => ?_))))))))))))
      · refine ok_inc3 77 rfl rfl rfl (by first | omega | (simp [up_if]; omega) | (simp [up_if] at *; omega)) (ok_goto 78 17 rfl rfl rfl ?_)
        rw [up_same] at h120
        refine ok_fg [some (vr 0), some (vi s), some (vi i), some (vi (j + 1)), none, none, none] ⟨rfl, rfl, rfl, rfl, trivial⟩ (ih2 (j + 1) _ ⟨by omega, by omega, fr_up f1 (by omega), by rw [up_same]; omega, by rw [up_same]; omega, fun a b a1 a2 a3 a4 => ?_⟩ (by omega))
        unfold uOk
        rw [up_ne _ _ _ _ (by decide), up_ne _ _ _ _ (by decide)]
        exact b8 a b a1 a2 a3 a4
      · refine ok_iconst 75 rfl rfl (by decide) (ok_zret 76 rfl rfl rfl (by first | omega | (simp [up_if]; omega) | (simp [up_if] at *; omega)) ?_)
        exact ⟨_, rfl, fr_up (f1.mono (fun c k q => by simp only [rgO]; omega)) (by simp [rgO]), hB' _ (fr_up (f1.mono (fun c k q => by omega)) (by omega)) (fun k a b => by rw [up_ne _ _ _ _ (by decide), f1 4 k (by omega)]; exact hB.2.2 k a b), Or.inl rfl⟩
end
section
theorem iB1.fr {σ τ : eS} (h : iB1 σ) (f : ∀ (c : Nat) (k : Int), (c = 1 ∨ c = 2 ∨ c = 3 ∨ c = 4) → τ c k = σ c k) : iB1 τ :=
  ⟨fun t a b => by rw [f 1 t (by omega), f 2 t (by omega)]; exact h.1 t a b, fun k a b => by rw [f 3 k (by omega)]; exact h.2.1 k a b, fun k a b => by rw [f 4 k (by omega)]; exact h.2.2 k a b⟩
abbrev rgT : Nat → Int → Prop := fun c k => (c = 0 ∧ (k = 4 ∨ (6 ≤ k ∧ k ≤ 19))) ∨ c = 1 ∨ c = 2 ∨ c = 3 ∨ c = 4 ∨ c = 6 ∨ c = 7
def QT (σ : eS) (σ' : eS) (z : Int) : Prop := fr rgT σ σ' ∧ iB1 σ' ∧ σ' 0 6 = 0
theorem s_Mo_table {σ : eS} {s : Int} (hB : iB1 σ) (h6 : 0 ≤ σ 0 6 ∧ σ 0 6 ≤ 600) : MtI shB M_Mo_table [vr 0, vi s] σ (QT σ) := by
  refine Mt.of okM_Mo_table (Nat.le_of_ble_eq_true rfl) (fun hk hg => ?_)
  have tail : ∀ (τ : eS) (b : Int) (x : Option eV), fr rgT σ τ → iB1 τ → Ok shB M_Mo_table 132 [some (vr 0), some (vi s), some (vi b), x] [] τ (fun σ' v => ∃ z, v = some (vi z) ∧ QT σ σ' z) := by
    intro τ b x f hb
    refine ok_aload_n 69 rfl rfl rfl (ok_iconst 70 rfl rfl (by decide) (ok_putI 71 rfl rfl fl_X12_125 rfl rfl rfl rfl (ok_aload_n 72 rfl rfl rfl (ok_aload_n 73 rfl rfl rfl (ok_getI 74 rfl rfl fl_X12_154 rfl rfl (Or.inl rfl) (ok_putI 75 rfl rfl fl_X12_189 rfl rfl rfl rfl (ok_aload_n 76 rfl rfl rfl (ok_aload_n 77 rfl rfl rfl (ok_getI 78 rfl rfl fl_X12_157 rfl rfl (Or.inl rfl) (ok_putI 79 rfl rfl fl_X12_26 rfl rfl rfl rfl (ok_iload_n 80 rfl rfl rfl (ok_if_ne 81 162 rfl rfl rfl (fun h154 => ?_) (fun h154 => ?_)))))))))))))
    · refine ok_aload_n 84 rfl rfl rfl (ok_getI 85 rfl rfl fl_X12_154 rfl rfl (Or.inl rfl) (ok_if_eq 86 173 rfl rfl rfl (fun h166 => ?_) (fun h166 => ?_)))
      · refine ok_aload_n 89 rfl rfl rfl (ok_getI 90 rfl rfl fl_X12_167 rfl rfl (Or.inl rfl) (ok_iret 91 rfl rfl rfl ?_))
        exact ⟨_, rfl, fr_up (fr_up (fr_up f (by simp [rgT])) (by simp [rgT])) (by simp [rgT]), hb.fr (fun c k q => by rw [up_ne _ _ _ _ (by omega), up_ne _ _ _ _ (by omega), up_ne _ _ _ _ (by omega)]), by simp [up_if]⟩
      · refine ok_iconst 87 rfl rfl (by decide) (ok_goto 88 177 rfl rfl rfl (ok_iret 91 rfl rfl rfl ?_))
        exact ⟨_, rfl, fr_up (fr_up (fr_up f (by simp [rgT])) (by simp [rgT])) (by simp [rgT]), hb.fr (fun c k q => by rw [up_ne _ _ _ _ (by omega), up_ne _ _ _ _ (by omega), up_ne _ _ _ _ (by omega)]), by simp [up_if]⟩
    · refine ok_bipush 82 rfl rfl (by decide) (by decide) (ok_goto 83 177 rfl rfl rfl (ok_iret 91 rfl rfl rfl ?_))
      exact ⟨_, rfl, fr_up (fr_up (fr_up f (by simp [rgT])) (by simp [rgT])) (by simp [rgT]), hb.fr (fun c k q => by rw [up_ne _ _ _ _ (by omega), up_ne _ _ _ _ (by omega), up_ne _ _ _ _ (by omega)]), by simp [up_if]⟩
  obtain ⟨τ0, e0⟩ : ∃ x, x = up (up (up (up (up σ 0 18 0) 0 19 0) 0 13 0) 0 9 0) 0 10 (-1) := ⟨_, rfl⟩
  have f0 : fr rgT σ τ0 := by rw [e0]; exact fr_up (fr_up (fr_up (fr_up (fr_up fr.rf (by simp [rgT])) (by simp [rgT])) (by simp [rgT])) (by simp [rgT])) (by simp [rgT])
  have b0 : iB1 τ0 := hB.fr (fun c k q => by rw [e0]; simp only [up_if]; repeat rw [if_neg (by omega)])
  have a18 : τ0 0 18 = 0 := by rw [e0]; simp [up_if]
  have a19 : τ0 0 19 = 0 := by rw [e0]; simp [up_if]
  have a13 : τ0 0 13 = 0 := by rw [e0]; simp [up_if]
  have a9 : τ0 0 9 = 0 := by rw [e0]; simp [up_if]
  have a6 : τ0 0 6 = σ 0 6 := by rw [e0]; simp [up_if]
  have p0 : P0 τ0 := ⟨by omega, by omega, by omega⟩
  have start : ∀ (τ1 : eS), lex τ0 τ1 → fr rgT σ τ1 ∧ iB1 τ1 ∧ Pz τ1 ∧ τ1 0 9 = 0 ∧ RR τ1 := fun τ1 hl =>
    ⟨f0.tr (hl.1.mono (fun c k q => by simp only [rgT]; omega)), b0.fr (fun c k q => hl.1 c k (by omega)), Pz.of p0 hl, by rw [hl.1 0 9 (by omega)]; exact a9, by rw [hl.1 0 18 (by omega)]; omega, by rw [hl.1 0 18 (by omega)]; omega, by rw [hl.1 0 19 (by omega)]; omega, by rw [hl.1 0 19 (by omega)]; omega, fun i j q1 q2 q3 q4 => by rw [hl.1 0 18 (by omega)] at q2; omega⟩
  by_cases hs : 0 ≤ s ∧ s < 4
  · have after : ∀ (τ : eS), fr rgT σ τ → iB1 τ → (τ 0 9 ≠ 0 ∨ RR τ) → Ok shB M_Mo_table 78 [some (vr 0), some (vi s), some (vi 1), some (vi 0)] [] τ (fun σ' v => ∃ z, v = some (vi z) ∧ QT σ σ' z) := by
      intro τ f hb hx
      refine ok_iload_n 42 rfl rfl rfl (ok_if_eq 43 106 rfl rfl rfl (fun h79 => ?_) (fun h79 => ?_))
      · omega
      · refine ok_aload_n 44 rfl rfl rfl (ok_getI 45 rfl rfl fl_X12_154 rfl rfl (Or.inl rfl) (ok_if_ne 46 106 rfl rfl rfl (fun h86 => ?_) (fun h86 => ?_)))
        · refine ok_iload_n 56 rfl rfl rfl (ok_if_eq 57 132 rfl rfl rfl (fun h107 => ?_) (fun h107 => ?_))
          · omega
          · refine ok_aload_n 58 rfl rfl rfl (ok_getI 59 rfl rfl fl_X12_154 rfl rfl (Or.inl rfl) (ok_if_ne 60 132 rfl rfl rfl (fun h114 => ?_) (fun h114 => ?_)))
            · exact tail _ _ _ f hb
            · have hrr : RR τ := by
                rcases hx with q | q
                · omega
                · exact q
              have hw : τ 0 18 = τ 0 19 := by omega
              refine ok_aload_n 61 rfl rfl rfl (ok_iload_n 62 rfl rfl rfl (ok_callVI (M' := M_Mo_isOver) (as := [_]) 63 rfl rfl ml_X12_186 (s_Mo_isOver hb hs ⟨hrr.1, hrr.2.1⟩ (by have := hrr.2.2.2.2; rw [← hw] at this; exact this)) rfl rfl (Nat.le_of_ble_eq_true rfl) ⟨Nat.le_of_ble_eq_true rfl, Nat.le_of_ble_eq_true rfl⟩ rfl (Nat.le_of_ble_eq_true rfl) (fun τ1 z hz => ?_)))
              obtain ⟨q1, q2, q3⟩ := hz
              have g1 : fr rgT σ τ1 := f.tr (q1.mono (fun c k q => by simp only [rgO] at q; simp only [rgT]; omega))
              have hb1 := q2
              refine ok_if_ne 64 132 rfl rfl rfl (fun h122 => ?_) (fun h122 => ?_)
              · first | exact tail _ _ _ g2 hb2 | exact tail _ _ _ g1 hb1
              · refine ok_aload_n 65 rfl rfl rfl (ok_bipush 66 rfl rfl (by decide) (by decide) (ok_callVI (M' := M_Mo_fails) (as := [_]) 67 rfl rfl ml_X12_164 (s_Mo_fails (by decide)) rfl rfl (Nat.le_of_ble_eq_true rfl) ⟨Nat.le_of_ble_eq_true rfl, Nat.le_of_ble_eq_true rfl⟩ rfl (Nat.le_of_ble_eq_true rfl) (fun σ' z hz => ?_)))
                obtain ⟨-, y1, y2⟩ := hz
                have g2 : fr rgT σ σ' := g1.tr (y1.mono (fun c k q => by simp only [rgT]; omega))
                have hb2 : iB1 σ' := hb1.fr (fun c k q => y1 c k (by omega))
                refine ok_pop 68 rfl rfl rfl ?_
                first | exact tail _ _ _ g2 hb2 | exact tail _ _ _ g1 hb1
        · refine ok_aload_n 47 rfl rfl rfl (ok_getI 48 rfl rfl fl_X12_167 rfl rfl (Or.inl rfl) (ok_aload_n 49 rfl rfl rfl (ok_getI 50 rfl rfl fl_X12_170 rfl rfl (Or.inl rfl) (ok_icmp_eq 51 106 rfl rfl rfl (fun h97 => ?_) (fun h97 => ?_)))))
          · refine ok_iload_n 56 rfl rfl rfl (ok_if_eq 57 132 rfl rfl rfl (fun h107 => ?_) (fun h107 => ?_))
            · omega
            · refine ok_aload_n 58 rfl rfl rfl (ok_getI 59 rfl rfl fl_X12_154 rfl rfl (Or.inl rfl) (ok_if_ne 60 132 rfl rfl rfl (fun h114 => ?_) (fun h114 => ?_)))
              · exact tail _ _ _ f hb
              · have hrr : RR τ := by
                  rcases hx with q | q
                  · omega
                  · exact q
                have hw : τ 0 18 = τ 0 19 := by omega
                refine ok_aload_n 61 rfl rfl rfl (ok_iload_n 62 rfl rfl rfl (ok_callVI (M' := M_Mo_isOver) (as := [_]) 63 rfl rfl ml_X12_186 (s_Mo_isOver hb hs ⟨hrr.1, hrr.2.1⟩ (by have := hrr.2.2.2.2; rw [← hw] at this; exact this)) rfl rfl (Nat.le_of_ble_eq_true rfl) ⟨Nat.le_of_ble_eq_true rfl, Nat.le_of_ble_eq_true rfl⟩ rfl (Nat.le_of_ble_eq_true rfl) (fun τ1 z hz => ?_)))
                obtain ⟨q1, q2, q3⟩ := hz
                have g1 : fr rgT σ τ1 := f.tr (q1.mono (fun c k q => by simp only [rgO] at q; simp only [rgT]; omega))
                have hb1 := q2
                refine ok_if_ne 64 132 rfl rfl rfl (fun h122 => ?_) (fun h122 => ?_)
                · first | exact tail _ _ _ g2 hb2 | exact tail _ _ _ g1 hb1
                · refine ok_aload_n 65 rfl rfl rfl (ok_bipush 66 rfl rfl (by decide) (by decide) (ok_callVI (M' := M_Mo_fails) (as := [_]) 67 rfl rfl ml_X12_164 (s_Mo_fails (by decide)) rfl rfl (Nat.le_of_ble_eq_true rfl) ⟨Nat.le_of_ble_eq_true rfl, Nat.le_of_ble_eq_true rfl⟩ rfl (Nat.le_of_ble_eq_true rfl) (fun σ' z hz => ?_)))
                  obtain ⟨-, y1, y2⟩ := hz
                  have g2 : fr rgT σ σ' := g1.tr (y1.mono (fun c k q => by simp only [rgT]; omega))
                  have hb2 : iB1 σ' := hb1.fr (fun c k q => y1 c k (by omega))
                  refine ok_pop 68 rfl rfl rfl ?_
                  first | exact tail _ _ _ g2 hb2 | exact tail _ _ _ g1 hb1
          · refine ok_aload_n 52 rfl rfl rfl (ok_iconst 53 rfl rfl (by decide) (ok_callVI (M' := M_Mo_fails) (as := [_]) 54 rfl rfl ml_X12_164 (s_Mo_fails (by decide)) rfl rfl (Nat.le_of_ble_eq_true rfl) ⟨Nat.le_of_ble_eq_true rfl, Nat.le_of_ble_eq_true rfl⟩ rfl (Nat.le_of_ble_eq_true rfl) (fun σ' z hz => ?_)))
            obtain ⟨-, q1, q2⟩ := hz
            have g : fr rgT σ σ' := f.tr (q1.mono (fun c k q => by simp only [rgT]; omega))
            have hb' : iB1 σ' := hb.fr (fun c k q => q1 c k (by omega))
            refine ok_pop 55 rfl rfl rfl (ok_iload_n 56 rfl rfl rfl (ok_if_eq 57 132 rfl rfl rfl (fun h107 => ?_) (fun h107 => ?_)))
            · omega
            · refine ok_aload_n 58 rfl rfl rfl (ok_getI 59 rfl rfl fl_X12_154 rfl rfl (Or.inl rfl) (ok_if_ne 60 132 rfl rfl rfl (fun h114 => ?_) (fun h114 => ?_)))
              · exact tail _ _ _ g hb'
              · exact absurd h114 q2
    have loop : ∀ (m : Int) (τ : eS), (m = 0 ∨ m = 1) → fr rgT σ τ → iB1 τ → Pz τ → (m = 1 → RR τ ∧ τ 0 9 = 0 ∧ τ 0 11 ≠ 0) → (m = 0 → (τ 0 9 ≠ 0 ∨ RR τ)) → Ok shB M_Mo_table 51 [some (vr 0), some (vi s), some (vi 1), some (vi m)] [] τ (fun σ' v => ∃ z, v = some (vi z) ∧ QT σ σ' z) := by
      intro m τ h1 h2 h3 h4 h5 h6
      refine lpO2 (fun (m : Int) (_ : eS) => [some (vr 0), some (vi s), some (vi 1), some (vi m)]) (fun _ τ => τ) (fun m τ => (m = 0 ∨ m = 1) ∧ fr rgT σ τ ∧ iB1 τ ∧ Pz τ ∧ (m = 1 → RR τ ∧ τ 0 9 = 0 ∧ τ 0 11 ≠ 0) ∧ (m = 0 → (τ 0 9 ≠ 0 ∨ RR τ))) (fun m τ => if m = 0 then 0 else (700 - τ 0 12).toNat + 1) ?_ m τ ⟨h1, h2, h3, h4, h5, h6⟩
      clear h1 h2 h3 h4 h5 h6 m τ
      rintro m τ ⟨h1, h2, h3, h4, h5, h6⟩ ih
      refine ok_iload_n 29 rfl rfl rfl (ok_if_eq 30 78 rfl rfl rfl (fun h52 => ?_) (fun h52 => ?_))
      · rw [show m = 0 by omega]
        exact after τ h2 h3 (h6 (by omega))
      · have hm : m = 1 := by omega
        subst hm
        obtain ⟨k1, k2, k3⟩ := h5 rfl
        refine ok_aload_n 31 rfl rfl rfl (ok_callVI (M' := M_Mo_readRow) (as := []) 32 rfl rfl ml_X12_183 (s_Mo_readRow h4 k1) rfl rfl (Nat.le_of_ble_eq_true rfl) ⟨Nat.le_of_ble_eq_true rfl, Nat.le_of_ble_eq_true rfl⟩ rfl (Nat.le_of_ble_eq_true rfl) (fun τ1 z hz => ?_))
        obtain ⟨z1, z2, z3⟩ := hz
        have g1 : fr rgT σ τ1 := h2.tr (z1.mono (fun c k q => by simp only [rgR] at q; simp only [rgT]; omega))
        have hb1 : iB1 τ1 := h3.fr (fun c k q => z1 c k (by simp only [rgR]; omega))
        have l1 := h4.1
        have l2 := z2.2.1
        have l3 := z2.2.2.1
        have l4 := z2.2.2.2.1
        refine ok_if_eq 33 73 rfl rfl rfl (fun h59 => ?_) (fun h59 => ?_)
        · refine ok_iconst 39 rfl rfl (by decide) (ok_ist3 40 rfl rfl rfl (ok_goto 41 51 rfl rfl rfl ?_))
          refine ih _ τ1 ⟨by omega, g1, hb1, z2, fun q => ?_, fun q => ?_⟩ (by
            rcases z3 with ⟨y1, y2⟩ | ⟨y1, y2, y3, y4⟩
            · first | omega | (simp; done)
            · first | (rw [if_neg (by decide), if_neg (by decide)]; omega) | (simp; done))
          · rcases z3 with ⟨y1, y2⟩ | ⟨y1, y2, y3, y4⟩
            · omega
            · exact ⟨y3, by omega, by omega⟩
          · rcases z3 with ⟨y1, y2⟩ | ⟨y1, y2, y3, y4⟩
            · exact Or.inl y2
            · exact Or.inr y3
        · refine ok_aload_n 34 rfl rfl rfl (ok_getI 35 rfl rfl fl_X12_147 rfl rfl (Or.inl rfl) (ok_if_eq 36 73 rfl rfl rfl (fun h66 => ?_) (fun h66 => ?_)))
          · refine ok_iconst 39 rfl rfl (by decide) (ok_ist3 40 rfl rfl rfl (ok_goto 41 51 rfl rfl rfl ?_))
            refine ih _ τ1 ⟨by omega, g1, hb1, z2, fun q => ?_, fun q => ?_⟩ (by
              rcases z3 with ⟨y1, y2⟩ | ⟨y1, y2, y3, y4⟩
              · first | omega | (simp; done)
              · first | (rw [if_neg (by decide), if_neg (by decide)]; omega) | (simp; done))
            · rcases z3 with ⟨y1, y2⟩ | ⟨y1, y2, y3, y4⟩
              · omega
              · exact ⟨y3, by omega, by omega⟩
            · rcases z3 with ⟨y1, y2⟩ | ⟨y1, y2, y3, y4⟩
              · exact Or.inl y2
              · exact Or.inr y3
          · refine ok_iconst 37 rfl rfl (by decide) (ok_goto 38 74 rfl rfl rfl (ok_ist3 40 rfl rfl rfl (ok_goto 41 51 rfl rfl rfl ?_)))
            refine ih _ τ1 ⟨by omega, g1, hb1, z2, fun q => ?_, fun q => ?_⟩ (by
              rcases z3 with ⟨y1, y2⟩ | ⟨y1, y2, y3, y4⟩
              · first | omega | (simp; done)
              · first | (rw [if_neg (by decide), if_neg (by decide)]; omega) | (simp; done))
            · rcases z3 with ⟨y1, y2⟩ | ⟨y1, y2, y3, y4⟩
              · omega
              · exact ⟨y3, by omega, by omega⟩
            · rcases z3 with ⟨y1, y2⟩ | ⟨y1, y2, y3, y4⟩
              · exact Or.inl y2
              · exact Or.inr y3
    refine ok_aload_n 0 rfl rfl rfl (ok_iconst 1 rfl rfl (by decide) (ok_putI 2 rfl rfl fl_X12_167 rfl rfl rfl rfl (ok_aload_n 3 rfl rfl rfl (ok_iconst 4 rfl rfl (by decide) (ok_putI 5 rfl rfl fl_X12_170 rfl rfl rfl rfl (ok_aload_n 6 rfl rfl rfl (ok_iconst 7 rfl rfl (by decide) (ok_putI 8 rfl rfl fl_X12_132 rfl rfl rfl rfl (ok_aload_n 9 rfl rfl rfl (ok_iconst 10 rfl rfl (by decide) (ok_putI 11 rfl rfl fl_X12_154 rfl rfl rfl rfl (ok_aload_n 12 rfl rfl rfl (ok_iconst 13 rfl rfl (by decide) (ok_putI 14 rfl rfl fl_X12_157 rfl rfl rfl rfl ?_))))))))))))))
    rw [← e0]
    refine ok_aload_n 15 rfl rfl rfl (ok_callVV (M' := M_Mo_next) (as := []) 16 rfl rfl ml_X12_173 (s_Mo_next p0) rfl rfl (Nat.le_of_ble_eq_true rfl) ⟨Nat.le_of_ble_eq_true rfl, Nat.le_of_ble_eq_true rfl⟩ rfl (Nat.le_of_ble_eq_true rfl) (fun τ1 hl => ?_))
    obtain ⟨s1, s2, s3, s4, s5⟩ := start τ1 hl
    refine ok_iload_n 17 rfl rfl rfl (ok_callSI (M' := M_Mo_isSlot) (as := [_]) 18 rfl rfl ml_X12_103 (s_Mo_isSlot_y hs) ⟨Nat.le_of_ble_eq_true rfl, Nat.le_of_ble_eq_true rfl⟩ rfl (Nat.le_of_ble_eq_true rfl) (fun σ' z hz => ?_))
    rw [hz.1, hz.2]
    clear hz z σ'
    refine ok_ist2 19 rfl rfl rfl (ok_iload_n 20 rfl rfl rfl (ok_if_eq 21 49 rfl rfl rfl (fun h35 => ?_) (fun h35 => ?_)))
    · omega
    · refine ok_aload_n 22 rfl rfl rfl (ok_getI 23 rfl rfl fl_X12_147 rfl rfl (Or.inl rfl) (ok_if_eq 24 49 rfl rfl rfl (fun h42 => ?_) (fun h42 => ?_)))
      · refine ok_iconst 27 rfl rfl (by decide) (ok_ist3 28 rfl rfl rfl ?_)
        exact loop _ τ1 (by omega) s1 s2 s3 (fun q => ⟨s5, s4, by omega⟩) (fun _ => Or.inr s5)
      · refine ok_iconst 25 rfl rfl (by decide) (ok_goto 26 50 rfl rfl rfl (ok_ist3 28 rfl rfl rfl ?_))
        exact loop _ τ1 (by omega) s1 s2 s3 (fun q => ⟨s5, s4, by omega⟩) (fun _ => Or.inr s5)
  · refine ok_aload_n 0 rfl rfl rfl (ok_iconst 1 rfl rfl (by decide) (ok_putI 2 rfl rfl fl_X12_167 rfl rfl rfl rfl (ok_aload_n 3 rfl rfl rfl (ok_iconst 4 rfl rfl (by decide) (ok_putI 5 rfl rfl fl_X12_170 rfl rfl rfl rfl (ok_aload_n 6 rfl rfl rfl (ok_iconst 7 rfl rfl (by decide) (ok_putI 8 rfl rfl fl_X12_132 rfl rfl rfl rfl (ok_aload_n 9 rfl rfl rfl (ok_iconst 10 rfl rfl (by decide) (ok_putI 11 rfl rfl fl_X12_154 rfl rfl rfl rfl (ok_aload_n 12 rfl rfl rfl (ok_iconst 13 rfl rfl (by decide) (ok_putI 14 rfl rfl fl_X12_157 rfl rfl rfl rfl ?_))))))))))))))
    rw [← e0]
    refine ok_aload_n 15 rfl rfl rfl (ok_callVV (M' := M_Mo_next) (as := []) 16 rfl rfl ml_X12_173 (s_Mo_next p0) rfl rfl (Nat.le_of_ble_eq_true rfl) ⟨Nat.le_of_ble_eq_true rfl, Nat.le_of_ble_eq_true rfl⟩ rfl (Nat.le_of_ble_eq_true rfl) (fun τ1 hl => ?_))
    obtain ⟨s1, s2, s3, s4, s5⟩ := start τ1 hl
    refine ok_iload_n 17 rfl rfl rfl (ok_callSI (M' := M_Mo_isSlot) (as := [_]) 18 rfl rfl ml_X12_103 (s_Mo_isSlot_n hs) ⟨Nat.le_of_ble_eq_true rfl, Nat.le_of_ble_eq_true rfl⟩ rfl (Nat.le_of_ble_eq_true rfl) (fun σ' z hz => ?_))
    rw [hz.1, hz.2]
    clear hz z σ'
    refine ok_ist2 19 rfl rfl rfl (ok_iload_n 20 rfl rfl rfl (ok_if_eq 21 49 rfl rfl rfl (fun h35 => ?_) (fun h35 => ?_)))
    · refine ok_iconst 27 rfl rfl (by decide) (ok_ist3 28 rfl rfl rfl (ok_iload_n 29 rfl rfl rfl (ok_if_eq 30 78 rfl rfl rfl (fun h52 => ?_) (fun h52 => ?_))))
      · refine ok_iload_n 42 rfl rfl rfl (ok_if_eq 43 106 rfl rfl rfl (fun h79 => ?_) (fun h79 => ?_))
        · refine ok_iload_n 56 rfl rfl rfl (ok_if_eq 57 132 rfl rfl rfl (fun h107 => ?_) (fun h107 => ?_))
          · exact tail _ _ _ s1 s2
          · omega
        · omega
      · omega
    · omega
theorem s_Mo_fault {σ : eS} {w : Int} : MtI shB M_Mo_fault [vr 0, vi w] σ (fun σ' z => σ' = σ ∧ z = if w = 0 then σ 0 7 else if w = 1 then σ 0 8 else -1) := by
  refine Mt.of okM_Mo_fault (Nat.le_of_ble_eq_true rfl) (fun hk hg => ?_)
  refine ok_iload_n 0 rfl rfl rfl (ok_if_ne 1 11 rfl rfl rfl (fun h1 => ?_) (fun h1 => ?_))
  · refine ok_iload_n 5 rfl rfl rfl (ok_iconst 6 rfl rfl (by decide) (ok_icmp_ne 7 23 rfl rfl rfl (fun h13 => ?_) (fun h13 => ?_)))
    · refine ok_iconst 11 rfl rfl (by decide) (ok_iret 12 rfl rfl rfl ?_)
      refine ⟨_, rfl, rfl, ?_⟩
      first | rw [if_pos (by omega)] | rw [if_neg (by omega), if_pos (by omega)] | rw [if_neg (by omega), if_neg (by omega)]
    · refine ok_aload_n 8 rfl rfl rfl (ok_getI 9 rfl rfl fl_X12_26 rfl rfl (Or.inl rfl) (ok_goto 10 24 rfl rfl rfl (ok_iret 12 rfl rfl rfl ?_)))
      refine ⟨_, rfl, rfl, ?_⟩
      first | rw [if_pos (by omega)] | rw [if_neg (by omega), if_pos (by omega)] | rw [if_neg (by omega), if_neg (by omega)]
  · refine ok_aload_n 2 rfl rfl rfl (ok_getI 3 rfl rfl fl_X12_189 rfl rfl (Or.inl rfl) (ok_goto 4 24 rfl rfl rfl (ok_iret 12 rfl rfl rfl ?_)))
    refine ⟨_, rfl, rfl, ?_⟩
    first | rw [if_pos (by omega)] | rw [if_neg (by omega), if_pos (by omega)] | rw [if_neg (by omega), if_neg (by omega)]
end
section
theorem s_Mo_groupsOf {σ : eS} {s : Int} (hB : iB1 σ) (hs : 0 ≤ s ∧ s < 4) : MtI shB M_Mo_groupsOf [vr 0, vi s] σ (fun σ' z => fr (fun c _ => c = 8) σ σ') := by
  refine Mt.of okM_Mo_groupsOf (Nat.le_of_ble_eq_true rfl) (fun hk hg => ?_)
  obtain ⟨n, en⟩ : ∃ x, x = σ 1 s := ⟨_, rfl⟩
  obtain ⟨g1, g2, -⟩ := hB.1 s hs.1 hs.2
  rw [← en] at g1 g2
  have hF : ∀ τ : eS, fr (fun c _ => c = 8) σ τ → iB1 τ ∧ τ 1 s = n := fun τ f => ⟨hB.fr (fun c k q => f c k (by omega)), by rw [f 1 s (by omega), en]⟩
  refine ok_aload_n 0 rfl rfl rfl (ok_getR 1 rfl rfl fl_X12_7 rfl rfl (ok_iload_n 2 rfl rfl rfl (ok_iald 3 rfl rfl rfl (by first | omega | (simp [up_if]; omega) | (simp [up_if] at *; omega)) (ok_ist2 4 rfl rfl rfl (ok_iconst 5 rfl rfl (by decide) (ok_ist3 6 rfl rfl rfl ?_))))))
  rw [← en]
  refine lpO2 (fun (k : Int) (_ : eS) => [some (vr 0), some (vi s), some (vi n), some (vi k), none, none, none]) (fun _ τ => τ) (fun k τ => 0 ≤ k ∧ k ≤ 16 ∧ fr (fun c _ => c = 8) σ τ) (fun k _ => (16 - k).toNat) ?_ 0 σ ⟨by omega, by omega, fr.rf⟩
  rintro k τ ⟨i1, i2, i3⟩ ih
  refine ok_iload_n 7 rfl rfl rfl (ok_bipush 8 rfl rfl (by decide) (by decide) (ok_icmp_ge 9 28 rfl rfl rfl (fun h12 => ?_) (fun h12 => ?_)))
  · refine ok_iconst 17 rfl rfl (by decide) (ok_ist3 18 rfl rfl rfl ?_)
    clear ih i1 i2 h12
    refine lpO2 (fun (i : Int) (_ : eS) => [some (vr 0), some (vi s), some (vi n), some (vi i), none, none, none]) (fun _ τ => τ) (fun i τ => 0 ≤ i ∧ i ≤ n ∧ fr (fun c _ => c = 8) σ τ) (fun i _ => (n - i).toNat) ?_ 0 τ ⟨by omega, by omega, i3⟩
    clear i3 τ k
    rintro i τ ⟨i1, i2, i3⟩ ih
    refine ok_iload_n 19 rfl rfl rfl (ok_iload_n 20 rfl rfl rfl (ok_icmp_ge 21 134 rfl rfl rfl (fun h32 => ?_) (fun h32 => ?_)))
    · refine ok_iconst 72 rfl rfl (by decide) (ok_ist3 73 rfl rfl rfl (ok_iconst 74 rfl rfl (by decide) (ok_ist4 75 rfl rfl rfl ?_)))
      clear ih i1 i2 h32
      refine lpO2 (fun (a k : Int) => [some (vr 0), some (vi s), some (vi n), some (vi a), some (vi k), none, none]) (fun _ _ => τ) (fun a k => 0 ≤ k ∧ k ≤ n ∧ 0 ≤ a ∧ a ≤ 2 * k) (fun _ k => (n - k).toNat) ?_ 0 0 ⟨by omega, by omega, by omega, by omega⟩
      rintro a k ⟨k1, k2, k3, k4⟩ ih
      refine ok_iload 76 rfl rfl rfl (ok_iload_n 77 rfl rfl rfl (ok_icmp_ge 78 201 rfl rfl rfl (fun h142 => ?_) (fun h142 => ?_)))
      · refine ok_iload_n 109 rfl rfl rfl (ok_iret 110 rfl rfl rfl ?_)
        exact ⟨_, rfl, i3⟩
      · refine ok_iload_n 79 rfl rfl rfl (ok_aload_n 80 rfl rfl rfl (ok_getR 81 rfl rfl fl_X12_36 rfl rfl (ok_iload 82 rfl rfl rfl (ok_iald 83 rfl rfl rfl (by first | omega | (simp [up_if]; omega) | (simp [up_if] at *; omega)) (ok_iload 84 rfl rfl rfl (ok_icmp_ne 85 162 rfl rfl rfl (fun h155 => ?_) (fun h155 => ?_)))))))
        · refine ok_iconst 88 rfl rfl (by decide) (ok_callSI (M' := M_Mo_one) (as := [_]) 89 rfl rfl ml_X12_192 (s_Mo_one) ⟨Nat.le_of_ble_eq_true rfl, Nat.le_of_ble_eq_true rfl⟩ rfl (Nat.le_of_ble_eq_true rfl) (fun σ' z1 hz1 => ?_))
          obtain ⟨hs_, hz1⟩ := hz1
          rw [hs_]; clear hs_ σ'
          have q1 : 0 ≤ z1 ∧ z1 ≤ 1 := by rw [hz1]; split <;> omega
          refine ok_aload_n 90 rfl rfl rfl (ok_getR 91 rfl rfl fl_X12_36 rfl rfl (ok_bipush 92 rfl rfl (by decide) (by decide) (ok_iload 93 rfl rfl rfl (ok_iadd 94 rfl rfl (by first | omega | (simp [up_if]; omega) | (simp [up_if] at *; omega)) (ok_iald 95 rfl rfl rfl (by first | omega | (simp [up_if]; omega) | (simp [up_if] at *; omega)) (ok_bipush 96 rfl rfl (by decide) (by decide) (ok_iload 97 rfl rfl rfl (ok_iadd 98 rfl rfl (by first | omega | (simp [up_if]; omega) | (simp [up_if] at *; omega)) (ok_icmp_ne 99 188 rfl rfl rfl (fun h181 => ?_) (fun h181 => ?_))))))))))
          · refine ok_iconst 102 rfl rfl (by decide) (ok_callSI (M' := M_Mo_one) (as := [_]) 103 rfl rfl ml_X12_192 (s_Mo_one) ⟨Nat.le_of_ble_eq_true rfl, Nat.le_of_ble_eq_true rfl⟩ rfl (Nat.le_of_ble_eq_true rfl) (fun σ' z2 hz2 => ?_))
            obtain ⟨hs_, hz2⟩ := hz2
            rw [hs_]; clear hs_ σ'
            have q2 : 0 ≤ z2 ∧ z2 ≤ 1 := by rw [hz2]; split <;> omega
            refine ok_iadd 104 rfl rfl (by first | omega | (simp [up_if]; omega) | (simp [up_if] at *; omega)) (ok_iadd 105 rfl rfl (by first | omega | (simp [up_if]; omega) | (simp [up_if] at *; omega)) (ok_ist3 106 rfl rfl rfl (ok_inc4 107 rfl rfl rfl (by first | omega | (simp [up_if]; omega) | (simp [up_if] at *; omega)) (ok_goto 108 139 rfl rfl rfl ?_))))
            exact ih _ (k + 1) ⟨by omega, by omega, by omega, by omega⟩ (by omega)
          · refine ok_iconst 100 rfl rfl (by decide) (ok_goto 101 189 rfl rfl rfl (ok_callSI (M' := M_Mo_one) (as := [_]) 103 rfl rfl ml_X12_192 (s_Mo_one) ⟨Nat.le_of_ble_eq_true rfl, Nat.le_of_ble_eq_true rfl⟩ rfl (Nat.le_of_ble_eq_true rfl) (fun σ' z2 hz2 => ?_)))
            obtain ⟨hs_, hz2⟩ := hz2
            rw [hs_]; clear hs_ σ'
            have q2 : 0 ≤ z2 ∧ z2 ≤ 1 := by rw [hz2]; split <;> omega
            refine ok_iadd 104 rfl rfl (by first | omega | (simp [up_if]; omega) | (simp [up_if] at *; omega)) (ok_iadd 105 rfl rfl (by first | omega | (simp [up_if]; omega) | (simp [up_if] at *; omega)) (ok_ist3 106 rfl rfl rfl (ok_inc4 107 rfl rfl rfl (by first | omega | (simp [up_if]; omega) | (simp [up_if] at *; omega)) (ok_goto 108 139 rfl rfl rfl ?_))))
            exact ih _ (k + 1) ⟨by omega, by omega, by omega, by omega⟩ (by omega)
        · refine ok_iconst 86 rfl rfl (by decide) (ok_goto 87 163 rfl rfl rfl (ok_callSI (M' := M_Mo_one) (as := [_]) 89 rfl rfl ml_X12_192 (s_Mo_one) ⟨Nat.le_of_ble_eq_true rfl, Nat.le_of_ble_eq_true rfl⟩ rfl (Nat.le_of_ble_eq_true rfl) (fun σ' z1 hz1 => ?_)))
          obtain ⟨hs_, hz1⟩ := hz1
          rw [hs_]; clear hs_ σ'
          have q1 : 0 ≤ z1 ∧ z1 ≤ 1 := by rw [hz1]; split <;> omega
          refine ok_aload_n 90 rfl rfl rfl (ok_getR 91 rfl rfl fl_X12_36 rfl rfl (ok_bipush 92 rfl rfl (by decide) (by decide) (ok_iload 93 rfl rfl rfl (ok_iadd 94 rfl rfl (by first | omega | (simp [up_if]; omega) | (simp [up_if] at *; omega)) (ok_iald 95 rfl rfl rfl (by first | omega | (simp [up_if]; omega) | (simp [up_if] at *; omega)) (ok_bipush 96 rfl rfl (by decide) (by decide) (ok_iload 97 rfl rfl rfl (ok_iadd 98 rfl rfl (by first | omega | (simp [up_if]; omega) | (simp [up_if] at *; omega)) (ok_icmp_ne 99 188 rfl rfl rfl (fun h181 => ?_) (fun h181 => ?_))))))))))
          · refine ok_iconst 102 rfl rfl (by decide) (ok_callSI (M' := M_Mo_one) (as := [_]) 103 rfl rfl ml_X12_192 (s_Mo_one) ⟨Nat.le_of_ble_eq_true rfl, Nat.le_of_ble_eq_true rfl⟩ rfl (Nat.le_of_ble_eq_true rfl) (fun σ' z2 hz2 => ?_))
            obtain ⟨hs_, hz2⟩ := hz2
            rw [hs_]; clear hs_ σ'
            have q2 : 0 ≤ z2 ∧ z2 ≤ 1 := by rw [hz2]; split <;> omega
            refine ok_iadd 104 rfl rfl (by first | omega | (simp [up_if]; omega) | (simp [up_if] at *; omega)) (ok_iadd 105 rfl rfl (by first | omega | (simp [up_if]; omega) | (simp [up_if] at *; omega)) (ok_ist3 106 rfl rfl rfl (ok_inc4 107 rfl rfl rfl (by first | omega | (simp [up_if]; omega) | (simp [up_if] at *; omega)) (ok_goto 108 139 rfl rfl rfl ?_))))
            exact ih _ (k + 1) ⟨by omega, by omega, by omega, by omega⟩ (by omega)
          · refine ok_iconst 100 rfl rfl (by decide) (ok_goto 101 189 rfl rfl rfl (ok_callSI (M' := M_Mo_one) (as := [_]) 103 rfl rfl ml_X12_192 (s_Mo_one) ⟨Nat.le_of_ble_eq_true rfl, Nat.le_of_ble_eq_true rfl⟩ rfl (Nat.le_of_ble_eq_true rfl) (fun σ' z2 hz2 => ?_)))
            obtain ⟨hs_, hz2⟩ := hz2
            rw [hs_]; clear hs_ σ'
            have q2 : 0 ≤ z2 ∧ z2 ≤ 1 := by rw [hz2]; split <;> omega
            refine ok_iadd 104 rfl rfl (by first | omega | (simp [up_if]; omega) | (simp [up_if] at *; omega)) (ok_iadd 105 rfl rfl (by first | omega | (simp [up_if]; omega) | (simp [up_if] at *; omega)) (ok_ist3 106 rfl rfl rfl (ok_inc4 107 rfl rfl rfl (by first | omega | (simp [up_if]; omega) | (simp [up_if] at *; omega)) (ok_goto 108 139 rfl rfl rfl ?_))))
            exact ih _ (k + 1) ⟨by omega, by omega, by omega, by omega⟩ (by omega)
    · refine ok_iconst 22 rfl rfl (by decide) (ok_ist4 23 rfl rfl rfl ?_)
      refine lpO2 (fun (j : Int) (_ : eS) => [some (vr 0), some (vi s), some (vi n), some (vi i), some (vi j), none, none]) (fun _ τ => τ) (fun j τ => 0 ≤ j ∧ j ≤ n ∧ fr (fun c _ => c = 8) σ τ) (fun j _ => (n - j).toNat) ?_ 0 τ ⟨by omega, by omega, i3⟩
      clear i3 τ
      rintro j τ ⟨j1, j2, i3⟩ ih2
      obtain ⟨b1, b2⟩ := hF τ i3
      have back : ∀ (τ : eS) (x y : Option eV), fr (fun c _ => c = 8) σ τ → j < n → Ok shB M_Mo_groupsOf 122 [some (vr 0), some (vi s), some (vi n), some (vi i), some (vi j), x, y] [] τ (fun σ' v => ∃ z, v = some (vi z) ∧ fr (fun c _ => c = 8) σ σ') := by
        intro τ x y f hj
        refine ok_inc4 68 rfl rfl rfl (by first | omega | (simp [up_if]; omega) | (simp [up_if] at *; omega)) (ok_goto 69 38 rfl rfl rfl ?_)
        exact ok_fg [some (vr 0), some (vi s), some (vi n), some (vi i), some (vi (j + 1)), none, none] ⟨rfl, rfl, rfl, rfl, rfl, trivial⟩ (ih2 (j + 1) τ ⟨by omega, by omega, f⟩ (by omega))
      refine ok_iload 24 rfl rfl rfl (ok_iload_n 25 rfl rfl rfl (ok_icmp_ge 26 128 rfl rfl rfl (fun h41 => ?_) (fun h41 => ?_)))
      · refine ok_inc3 70 rfl rfl rfl (by first | omega | (simp [up_if]; omega) | (simp [up_if] at *; omega)) (ok_goto 71 30 rfl rfl rfl ?_)
        exact ok_fg [some (vr 0), some (vi s), some (vi n), some (vi (i + 1)), none, none, none] ⟨rfl, rfl, rfl, rfl, trivial⟩ (ih (i + 1) τ ⟨by omega, by omega, i3⟩ (by omega))
      · refine ok_aload_n 27 rfl rfl rfl (ok_getR 28 rfl rfl fl_X12_36 rfl rfl (ok_bipush 29 rfl rfl (by decide) (by decide) (ok_iload 30 rfl rfl rfl (ok_iadd 31 rfl rfl (by first | omega | (simp [up_if]; omega) | (simp [up_if] at *; omega)) (ok_iald 32 rfl rfl rfl (by first | omega | (simp [up_if]; omega) | (simp [up_if] at *; omega)) (ok_ist5 33 rfl rfl rfl (ok_aload_n 34 rfl rfl rfl (ok_iload_n 35 rfl rfl rfl (ok_iload_n 36 rfl rfl rfl (ok_iload 37 rfl rfl rfl (ok_callVI (M' := M_Mo_at) (as := [_, _, _]) 38 rfl rfl ml_X12_107 (s_Mo_at b1 hs ⟨by omega, by omega⟩ ⟨by omega, by omega⟩) rfl rfl (Nat.le_of_ble_eq_true rfl) ⟨Nat.le_of_ble_eq_true rfl, Nat.le_of_ble_eq_true rfl⟩ rfl (Nat.le_of_ble_eq_true rfl) (fun σ' z hz => ?_))))))))))))
        rw [hz.1, hz.2]
        clear hz z σ'
        refine ok_if_eq 39 122 rfl rfl rfl (fun h64 => ?_) (fun h64 => ?_)
        · exact back τ _ _ i3 (by omega)
        · refine ok_iload 40 rfl rfl rfl (ok_aload_n 41 rfl rfl rfl (ok_getR 42 rfl rfl fl_X12_36 rfl rfl (ok_iload_n 43 rfl rfl rfl (ok_iald 44 rfl rfl rfl (by first | omega | (simp [up_if]; omega) | (simp [up_if] at *; omega)) (ok_icmp_ne 45 81 rfl rfl rfl (fun h75 => ?_) (fun h75 => ?_))))))
          · refine ok_iconst 47 rfl rfl (by decide) (ok_ist6 48 rfl rfl rfl ?_)
            refine lpO2 (fun (k : Int) (_ : eS) => [some (vr 0), some (vi s), some (vi n), some (vi i), some (vi j), some (vi (τ 8 (8 + j))), some (vi k)]) (fun _ τ => τ) (fun k τ => 0 ≤ k ∧ k ≤ 16 ∧ fr (fun c _ => c = 8) σ τ) (fun k _ => (16 - k).toNat) ?_ 0 τ ⟨by omega, by omega, i3⟩
            rintro k ρ ⟨k1, k2, k3⟩ ih3
            refine ok_iload 49 rfl rfl rfl (ok_bipush 50 rfl rfl (by decide) (by decide) (ok_icmp_ge 51 122 rfl rfl rfl (fun h88 => ?_) (fun h88 => ?_)))
            · exact back ρ _ _ k3 (by omega)
            · refine ok_aload_n 52 rfl rfl rfl (ok_getR 53 rfl rfl fl_X12_36 rfl rfl (ok_iload 54 rfl rfl rfl (ok_iald 55 rfl rfl rfl (by first | omega | (simp [up_if]; omega) | (simp [up_if] at *; omega)) (ok_iload 56 rfl rfl rfl (ok_icmp_ne 57 116 rfl rfl rfl (fun h100 => ?_) (fun h100 => ?_))))))
              · refine ok_inc6 66 rfl rfl rfl (by first | omega | (simp [up_if]; omega) | (simp [up_if] at *; omega)) (ok_goto 67 84 rfl rfl rfl ?_)
                first | exact ih3 (k + 1) _ ⟨by omega, by omega, k3⟩ (by omega) | exact ih3 (k + 1) _ ⟨by omega, by omega, fr_up k3 rfl⟩ (by omega)
              · refine ok_aload_n 58 rfl rfl rfl (ok_getR 59 rfl rfl fl_X12_36 rfl rfl (ok_iload 60 rfl rfl rfl (ok_aload_n 61 rfl rfl rfl (ok_getR 62 rfl rfl fl_X12_36 rfl rfl (ok_iload_n 63 rfl rfl rfl (ok_iald 64 rfl rfl rfl (by first | omega | (simp [up_if]; omega) | (simp [up_if] at *; omega)) (ok_iast 65 rfl rfl rfl (by first | omega | (simp [up_if]; omega) | (simp [up_if] at *; omega)) (ok_inc6 66 rfl rfl rfl (by first | omega | (simp [up_if]; omega) | (simp [up_if] at *; omega)) (ok_goto 67 84 rfl rfl rfl ?_)))))))))
                first | exact ih3 (k + 1) _ ⟨by omega, by omega, k3⟩ (by omega) | exact ih3 (k + 1) _ ⟨by omega, by omega, fr_up k3 rfl⟩ (by omega)
          · refine ok_goto 46 122 rfl rfl rfl ?_
            exact back τ _ _ i3 (by omega)
  · refine ok_aload_n 10 rfl rfl rfl (ok_getR 11 rfl rfl fl_X12_36 rfl rfl (ok_iload_n 12 rfl rfl rfl (ok_iload_n 13 rfl rfl rfl (ok_iast 14 rfl rfl rfl (by first | omega | (simp [up_if]; omega) | (simp [up_if] at *; omega)) (ok_inc3 15 rfl rfl rfl (by first | omega | (simp [up_if]; omega) | (simp [up_if] at *; omega)) (ok_goto 16 9 rfl rfl rfl ?_))))))
    exact ih (k + 1) _ ⟨by omega, by omega, fr_up i3 rfl⟩ (by omega)
def cntB (σ : eS) (s : Int) : Int := sm (fun k => if 0 < σ 3 (64 * s + k) then 1 else 0) (σ 1 s * σ 1 s).toNat
theorem s_Mo_aboveNought {σ : eS} {s : Int} (hB : iB1 σ) (hs : 0 ≤ s ∧ s < 4) : MtI shB M_Mo_aboveNought [vr 0, vi s] σ (fun σ' z => σ' = σ ∧ z = cntB σ s) := by
  refine Mt.of okM_Mo_aboveNought (Nat.le_of_ble_eq_true rfl) (fun hk hg => ?_)
  obtain ⟨n, en⟩ : ∃ x, x = σ 1 s := ⟨_, rfl⟩
  obtain ⟨g1, g2, -⟩ := hB.1 s hs.1 hs.2
  rw [← en] at g1 g2
  obtain ⟨q1, q2⟩ := sq8 ⟨g1, g2⟩
  refine ok_iconst 0 rfl rfl (by decide) (ok_ist2 1 rfl rfl rfl (ok_iconst 2 rfl rfl (by decide) (ok_ist3 3 rfl rfl rfl ?_)))
  refine lpO (fun k : Int => [some (vr 0), some (vi s), some (vi (sm (fun k => if 0 < σ 3 (64 * s + k) then 1 else 0) k.toNat)), some (vi k)]) (fun _ => σ) (fun k => 0 ≤ k ∧ k ≤ n * n) (fun k => (n * n - k).toNat) ?_ 0 ⟨by omega, by omega⟩
  rintro k ⟨k1, k2⟩ ih
  have hb := sm_bd (f := fun k => if 0 < σ 3 (64 * s + k) then 1 else 0) (B := 1) (by decide) (n := k.toNat) (fun k a b => by split <;> omega)
  refine ok_iload_n 4 rfl rfl rfl (ok_aload_n 5 rfl rfl rfl (ok_getR 6 rfl rfl fl_X12_7 rfl rfl (ok_iload_n 7 rfl rfl rfl (ok_iald 8 rfl rfl rfl (by first | omega | (simp [up_if]; omega) | (simp [up_if] at *; omega)) (ok_aload_n 9 rfl rfl rfl (ok_getR 10 rfl rfl fl_X12_7 rfl rfl (ok_iload_n 11 rfl rfl rfl (ok_iald 12 rfl rfl rfl (by first | omega | (simp [up_if]; omega) | (simp [up_if] at *; omega)) (ok_imul 13 rfl rfl (by rw [← en]; omega) ?_)))))))))
  rw [← en]
  refine ok_icmp_ge 14 52 rfl rfl rfl (fun h18 => ?_) (fun h18 => ?_)
  · refine ok_iload_n 33 rfl rfl rfl (ok_iret 34 rfl rfl rfl ?_)
    exact ⟨_, rfl, rfl, by unfold cntB; rw [← en, show k = n * n by omega]⟩
  · refine ok_iload_n 15 rfl rfl rfl (ok_aload_n 16 rfl rfl rfl (ok_getR 17 rfl rfl fl_X12_16 rfl rfl (ok_bipush 18 rfl rfl (by decide) (by decide) (ok_iload_n 19 rfl rfl rfl (ok_imul 20 rfl rfl (by first | omega | (simp [up_if]; omega) | (simp [up_if] at *; omega)) (ok_iload_n 21 rfl rfl rfl (ok_iadd 22 rfl rfl (by first | omega | (simp [up_if]; omega) | (simp [up_if] at *; omega)) (ok_iald 23 rfl rfl rfl (by first | omega | (simp [up_if]; omega) | (simp [up_if] at *; omega)) (ok_if_le 24 40 rfl rfl rfl (fun h33 => ?_) (fun h33 => ?_))))))))))
    · refine ok_iconst 27 rfl rfl (by decide) (ok_callSI (M' := M_Mo_one) (as := [_]) 28 rfl rfl ml_X12_192 (s_Mo_one) ⟨Nat.le_of_ble_eq_true rfl, Nat.le_of_ble_eq_true rfl⟩ rfl (Nat.le_of_ble_eq_true rfl) (fun σ' z1 hz1 => ?_))
      obtain ⟨hs_, hz1⟩ := hz1
      rw [hs_]; clear hs_ σ'
      have q3 : z1 = if 0 < σ 3 (64 * s + k) then 1 else 0 := by rw [hz1]; first | rw [if_pos (by omega), if_neg (by omega)] | rw [if_neg (by omega), if_pos (by omega)]
      have q4 : 0 ≤ z1 ∧ z1 ≤ 1 := by rw [q3]; split <;> omega
      refine ok_iadd 29 rfl rfl (by first | omega | (simp [up_if]; omega) | (simp [up_if] at *; omega)) (ok_ist2 30 rfl rfl rfl (ok_inc3 31 rfl rfl rfl (by first | omega | (simp [up_if]; omega) | (simp [up_if] at *; omega)) (ok_goto 32 4 rfl rfl rfl ?_)))
      have e := sm_s (fun k => if 0 < σ 3 (64 * s + k) then 1 else 0) k1
      rw [q3, ← e]
      exact ih (k + 1) ⟨by omega, by omega⟩ (by omega)
    · refine ok_iconst 25 rfl rfl (by decide) (ok_goto 26 41 rfl rfl rfl (ok_callSI (M' := M_Mo_one) (as := [_]) 28 rfl rfl ml_X12_192 (s_Mo_one) ⟨Nat.le_of_ble_eq_true rfl, Nat.le_of_ble_eq_true rfl⟩ rfl (Nat.le_of_ble_eq_true rfl) (fun σ' z1 hz1 => ?_)))
      obtain ⟨hs_, hz1⟩ := hz1
      rw [hs_]; clear hs_ σ'
      have q3 : z1 = if 0 < σ 3 (64 * s + k) then 1 else 0 := by rw [hz1]; first | rw [if_pos (by omega), if_neg (by omega)] | rw [if_neg (by omega), if_pos (by omega)]
      have q4 : 0 ≤ z1 ∧ z1 ≤ 1 := by rw [q3]; split <;> omega
      refine ok_iadd 29 rfl rfl (by first | omega | (simp [up_if]; omega) | (simp [up_if] at *; omega)) (ok_ist2 30 rfl rfl rfl (ok_inc3 31 rfl rfl rfl (by first | omega | (simp [up_if]; omega) | (simp [up_if] at *; omega)) (ok_goto 32 4 rfl rfl rfl ?_)))
      have e := sm_s (fun k => if 0 < σ 3 (64 * s + k) then 1 else 0) k1
      rw [q3, ← e]
      exact ih (k + 1) ⟨by omega, by omega⟩ (by omega)
theorem s_Mo_look {σ : eS} {s w : Int} (hB : iB1 σ) : MtI shB M_Mo_look [vr 0, vi s, vi w] σ (fun σ' z => fr (fun c _ => c = 8) σ σ') := by
  refine Mt.of okM_Mo_look (Nat.le_of_ble_eq_true rfl) (fun hk hg => ?_)
  by_cases hs : 0 ≤ s ∧ s < 4
  · obtain ⟨n, en⟩ : ∃ x, x = σ 1 s := ⟨_, rfl⟩
    obtain ⟨g1, g2, -⟩ := hB.1 s hs.1 hs.2
    rw [← en] at g1 g2
    obtain ⟨q1, q2⟩ := sq8 ⟨g1, g2⟩
    refine ok_iload_n 0 rfl rfl rfl (ok_callSI (M' := M_Mo_isSlot) (as := [_]) 1 rfl rfl ml_X12_103 (s_Mo_isSlot_y hs) ⟨Nat.le_of_ble_eq_true rfl, Nat.le_of_ble_eq_true rfl⟩ rfl (Nat.le_of_ble_eq_true rfl) (fun σ' z hz => ?_))
    rw [hz.1, hz.2]
    clear hz z σ'
    refine ok_if_ne 2 10 rfl rfl rfl (fun h4 => ?_) (fun h4 => ?_)
    · refine ok_iconst 5 rfl rfl (by decide) (ok_ist3 6 rfl rfl rfl (ok_iconst 7 rfl rfl (by decide) (ok_ist4 8 rfl rfl rfl ?_)))
      refine lpO2 (fun m k : Int => [some (vr 0), some (vi s), some (vi w), some (vi m), some (vi k)]) (fun _ _ => σ) (fun _ k => 0 ≤ k ∧ k ≤ n * n) (fun _ k => (n * n - k).toNat) ?_ 0 0 ⟨by omega, by omega⟩
      rintro m k ⟨k1, k2⟩ ih
      refine ok_iload 9 rfl rfl rfl (ok_aload_n 10 rfl rfl rfl (ok_getR 11 rfl rfl fl_X12_7 rfl rfl (ok_iload_n 12 rfl rfl rfl (ok_iald 13 rfl rfl rfl (by first | omega | (simp [up_if]; omega) | (simp [up_if] at *; omega)) (ok_aload_n 14 rfl rfl rfl (ok_getR 15 rfl rfl fl_X12_7 rfl rfl (ok_iload_n 16 rfl rfl rfl (ok_iald 17 rfl rfl rfl (by first | omega | (simp [up_if]; omega) | (simp [up_if] at *; omega)) (ok_imul 18 rfl rfl (by rw [← en]; omega) ?_)))))))))
      rw [← en]
      refine ok_icmp_ge 19 56 rfl rfl rfl (fun h30 => ?_) (fun h30 => ?_)
      · have hw : w = 0 ∨ w = 1 ∨ w = 2 ∨ w = 3 ∨ w = 4 ∨ w = 5 ∨ (w < 0 ∨ 5 < w) := by omega
        refine ok_iload_n 33 rfl rfl rfl ?_
        rcases hw with rfl | rfl | rfl | rfl | rfl | rfl | hw
        · refine ok_tin (len := 39) 34 96 rfl rfl (by omega) (by omega) rfl rfl ?_
          refine ok_aload_n 35 rfl rfl rfl (ok_getR 36 rfl rfl fl_X12_7 rfl rfl (ok_iload_n 37 rfl rfl rfl (ok_iald 38 rfl rfl rfl (by first | omega | (simp [up_if]; omega) | (simp [up_if] at *; omega)) (ok_iret 39 rfl rfl rfl ?_))))
          exact ⟨_, rfl, fr.rf⟩
        · refine ok_tin (len := 39) 34 103 rfl rfl (by omega) (by omega) rfl rfl ?_
          refine ok_aload_n 40 rfl rfl rfl (ok_getR 41 rfl rfl fl_X12_13 rfl rfl (ok_iload_n 42 rfl rfl rfl (ok_iald 43 rfl rfl rfl (by first | omega | (simp [up_if]; omega) | (simp [up_if] at *; omega)) (ok_iret 44 rfl rfl rfl ?_))))
          exact ⟨_, rfl, fr.rf⟩
        · refine ok_tin (len := 39) 34 110 rfl rfl (by omega) (by omega) rfl rfl ?_
          refine ok_aload_n 45 rfl rfl rfl (ok_iload_n 46 rfl rfl rfl (ok_callVI (M' := M_Mo_isEven) (as := [_]) 47 rfl rfl ml_X12_202 (s_Mo_isEven hB) rfl rfl (Nat.le_of_ble_eq_true rfl) ⟨Nat.le_of_ble_eq_true rfl, Nat.le_of_ble_eq_true rfl⟩ rfl (Nat.le_of_ble_eq_true rfl) (fun σ' z hz => ?_)))
          obtain ⟨hs_, hz⟩ := hz
          rw [hs_]; clear hs_ σ'
          refine ok_if_eq 48 128 rfl rfl rfl (fun h115 => ?_) (fun h115 => ?_)
          · refine ok_iconst 55 rfl rfl (by decide) (ok_iret 56 rfl rfl rfl ?_)
            exact ⟨_, rfl, fr.rf⟩
          · have hr : evB σ s := by
              rcases hz with q | q
              · exact q.2
              · omega
            have hb := rowB_bd hB hs (i := 0) ⟨by omega, hr.1.2.2⟩
            refine ok_aload_n 49 rfl rfl rfl (ok_iload_n 50 rfl rfl rfl (ok_iconst 51 rfl rfl (by decide) (ok_callVL (M' := M_Mo_rowOf) (as := [_, _]) 52 rfl rfl ml_X12_114 (s_Mo_rowOf hB hs ⟨by omega, hr.1.2.2⟩) rfl rfl (Nat.le_of_ble_eq_true rfl) ⟨Nat.le_of_ble_eq_true rfl, Nat.le_of_ble_eq_true rfl⟩ rfl (Nat.le_of_ble_eq_true rfl) (fun σ' z hz => ?_))))
            rw [hz.1, hz.2]
            clear hz z σ'
            refine ok_l2i 53 rfl rfl (by first | omega | (simp [up_if]; omega) | (simp [up_if] at *; omega)) (ok_goto 54 129 rfl rfl rfl (ok_iret 56 rfl rfl rfl ?_))
            exact ⟨_, rfl, fr.rf⟩
        · refine ok_tin (len := 39) 34 130 rfl rfl (by omega) (by omega) rfl rfl ?_
          refine ok_aload_n 57 rfl rfl rfl (ok_iload_n 58 rfl rfl rfl (ok_callVI (M' := M_Mo_aboveNought) (as := [_]) 59 rfl rfl ml_X12_205 (s_Mo_aboveNought hB hs) rfl rfl (Nat.le_of_ble_eq_true rfl) ⟨Nat.le_of_ble_eq_true rfl, Nat.le_of_ble_eq_true rfl⟩ rfl (Nat.le_of_ble_eq_true rfl) (fun σ' z hz => ?_)))
          rw [hz.1, hz.2]
          clear hz z σ'
          refine ok_iret 60 rfl rfl rfl ?_
          exact ⟨_, rfl, fr.rf⟩
        · refine ok_tin (len := 39) 34 136 rfl rfl (by omega) (by omega) rfl rfl ?_
          refine ok_iload_n 61 rfl rfl rfl (ok_iret 62 rfl rfl rfl ?_)
          exact ⟨_, rfl, fr.rf⟩
        · refine ok_tin (len := 39) 34 138 rfl rfl (by omega) (by omega) rfl rfl ?_
          refine ok_aload_n 63 rfl rfl rfl (ok_iload_n 64 rfl rfl rfl (ok_callVI (M' := M_Mo_groupsOf) (as := [_]) 65 rfl rfl ml_X12_208 (s_Mo_groupsOf hB hs) rfl rfl (Nat.le_of_ble_eq_true rfl) ⟨Nat.le_of_ble_eq_true rfl, Nat.le_of_ble_eq_true rfl⟩ rfl (Nat.le_of_ble_eq_true rfl) (fun σ' z hz => ?_)))
          refine ok_iret 66 rfl rfl rfl ?_
          exact ⟨_, rfl, hz⟩
        · refine ok_tout (len := 39) 34 144 rfl rfl hw rfl ?_
          refine ok_bipush 67 rfl rfl (by decide) (by decide) (ok_iret 68 rfl rfl rfl ?_)
          exact ⟨_, rfl, fr.rf⟩
      · refine ok_iload_n 20 rfl rfl rfl (ok_aload_n 21 rfl rfl rfl (ok_getR 22 rfl rfl fl_X12_16 rfl rfl (ok_bipush 23 rfl rfl (by decide) (by decide) (ok_iload_n 24 rfl rfl rfl (ok_imul 25 rfl rfl (by first | omega | (simp [up_if]; omega) | (simp [up_if] at *; omega)) (ok_iload 26 rfl rfl rfl (ok_iadd 27 rfl rfl (by first | omega | (simp [up_if]; omega) | (simp [up_if] at *; omega)) (ok_iald 28 rfl rfl rfl (by first | omega | (simp [up_if]; omega) | (simp [up_if] at *; omega)) (ok_mmax 29 rfl rfl ml_X12_196 ⟨Nat.le_of_ble_eq_true rfl, Nat.le_of_ble_eq_true rfl⟩ (ok_ist3 30 rfl rfl rfl (ok_inc4 31 rfl rfl rfl (by first | omega | (simp [up_if]; omega) | (simp [up_if] at *; omega)) (ok_goto 32 15 rfl rfl rfl ?_))))))))))))
        exact ih _ (k + 1) ⟨by omega, by omega⟩ (by omega)
    · omega
  · refine ok_iload_n 0 rfl rfl rfl (ok_callSI (M' := M_Mo_isSlot) (as := [_]) 1 rfl rfl ml_X12_103 (s_Mo_isSlot_n hs) ⟨Nat.le_of_ble_eq_true rfl, Nat.le_of_ble_eq_true rfl⟩ rfl (Nat.le_of_ble_eq_true rfl) (fun σ' z hz => ?_))
    rw [hz.1, hz.2]
    clear hz z σ'
    refine ok_if_ne 2 10 rfl rfl rfl (fun h4 => ?_) (fun h4 => ?_)
    · omega
    · refine ok_bipush 3 rfl rfl (by decide) (by decide) (ok_iret 4 rfl rfl rfl ?_)
      exact ⟨_, rfl, fr.rf⟩
def celB (σ : eS) (s i j : Int) : Prop := tabB σ s ∧ 0 ≤ i ∧ i < σ 1 s ∧ 0 ≤ j ∧ j < σ 1 s
theorem s_Mo_isCell {σ : eS} {s i j : Int} (hB : iB1 σ) : MtI shB M_Mo_isCell [vr 0, vi s, vi i, vi j] σ (fun σ' z => σ' = σ ∧ ((z = 1 ∧ celB σ s i j) ∨ (z = 0 ∧ ¬ celB σ s i j))) := by
  refine Mt.of okM_Mo_isCell (Nat.le_of_ble_eq_true rfl) (fun hk hg => ?_)
  by_cases ht : tabB σ s
  · obtain ⟨t1, t2, t3⟩ := id ht
    obtain ⟨g1, g2, -⟩ := hB.1 s t1 t2
    refine ok_aload_n 0 rfl rfl rfl (ok_iload_n 1 rfl rfl rfl (ok_callVI (M' := M_Mo_isTable) (as := [_]) 2 rfl rfl ml_X12_111 (s_Mo_isTable_y ht) rfl rfl (Nat.le_of_ble_eq_true rfl) ⟨Nat.le_of_ble_eq_true rfl, Nat.le_of_ble_eq_true rfl⟩ rfl (Nat.le_of_ble_eq_true rfl) (fun σ' z hz => ?_)))
    rw [hz.1, hz.2]
    clear hz z σ'
    refine ok_if_eq 3 48 rfl rfl rfl (fun h5 => ?_) (fun h5 => ?_)
    · omega
    · refine ok_iload_n 4 rfl rfl rfl (ok_i2l 5 rfl rfl (ok_lconst (w := 0) 6 rfl rfl rfl (by decide) (ok_aload_n 7 rfl rfl rfl (ok_getR 8 rfl rfl fl_X12_7 rfl rfl (ok_iload_n 9 rfl rfl rfl (ok_iald 10 rfl rfl rfl (by first | omega | (simp [up_if]; omega) | (simp [up_if] at *; omega)) (ok_iconst 11 rfl rfl (by decide) (ok_isub 12 rfl rfl (by first | omega | (simp [up_if]; omega) | (simp [up_if] at *; omega)) (ok_i2l 13 rfl rfl (ok_callSI (M' := M_Mo_isIn) (as := [_, _, _]) 14 rfl rfl ml_X12_99 (s_Mo_isIn) ⟨Nat.le_of_ble_eq_true rfl, Nat.le_of_ble_eq_true rfl⟩ rfl (Nat.le_of_ble_eq_true rfl) (fun σ' z1 h1 => ?_)))))))))))
      obtain ⟨hs_, h1⟩ := h1
      rw [hs_]; clear hs_ σ'
      refine ok_if_eq 15 48 rfl rfl rfl (fun h23 => ?_) (fun h23 => ?_)
      · refine ok_iconst 30 rfl rfl (by decide) (ok_zret 31 rfl rfl rfl (by first | omega | (simp [up_if]; omega) | (simp [up_if] at *; omega)) ?_)
        refine ⟨_, rfl, rfl, ?_⟩
        unfold celB
        simp only [ht, true_and]
        first | (split at h1 <;> split at h2 <;> omega) | (split at h1 <;> omega)
      · refine ok_iload_n 16 rfl rfl rfl (ok_i2l 17 rfl rfl (ok_lconst (w := 0) 18 rfl rfl rfl (by decide) (ok_aload_n 19 rfl rfl rfl (ok_getR 20 rfl rfl fl_X12_7 rfl rfl (ok_iload_n 21 rfl rfl rfl (ok_iald 22 rfl rfl rfl (by first | omega | (simp [up_if]; omega) | (simp [up_if] at *; omega)) (ok_iconst 23 rfl rfl (by decide) (ok_isub 24 rfl rfl (by first | omega | (simp [up_if]; omega) | (simp [up_if] at *; omega)) (ok_i2l 25 rfl rfl (ok_callSI (M' := M_Mo_isIn) (as := [_, _, _]) 26 rfl rfl ml_X12_99 (s_Mo_isIn) ⟨Nat.le_of_ble_eq_true rfl, Nat.le_of_ble_eq_true rfl⟩ rfl (Nat.le_of_ble_eq_true rfl) (fun σ' z2 h2 => ?_)))))))))))
        obtain ⟨hs_, h2⟩ := h2
        rw [hs_]; clear hs_ σ'
        refine ok_if_eq 27 48 rfl rfl rfl (fun h41 => ?_) (fun h41 => ?_)
        · refine ok_iconst 30 rfl rfl (by decide) (ok_zret 31 rfl rfl rfl (by first | omega | (simp [up_if]; omega) | (simp [up_if] at *; omega)) ?_)
          refine ⟨_, rfl, rfl, ?_⟩
          unfold celB
          simp only [ht, true_and]
          first | (split at h1 <;> split at h2 <;> omega) | (split at h1 <;> omega)
        · refine ok_iconst 28 rfl rfl (by decide) (ok_goto 29 49 rfl rfl rfl (ok_zret 31 rfl rfl rfl (by first | omega | (simp [up_if]; omega) | (simp [up_if] at *; omega)) ?_))
          refine ⟨_, rfl, rfl, ?_⟩
          unfold celB
          simp only [ht, true_and]
          first | (split at h1 <;> split at h2 <;> omega) | (split at h1 <;> omega)
  · refine ok_aload_n 0 rfl rfl rfl (ok_iload_n 1 rfl rfl rfl (ok_callVI (M' := M_Mo_isTable) (as := [_]) 2 rfl rfl ml_X12_111 (s_Mo_isTable_n ht) rfl rfl (Nat.le_of_ble_eq_true rfl) ⟨Nat.le_of_ble_eq_true rfl, Nat.le_of_ble_eq_true rfl⟩ rfl (Nat.le_of_ble_eq_true rfl) (fun σ' z hz => ?_)))
    rw [hz.1, hz.2]
    clear hz z σ'
    refine ok_if_eq 3 48 rfl rfl rfl (fun h5 => ?_) (fun h5 => ?_)
    · refine ok_iconst 30 rfl rfl (by decide) (ok_zret 31 rfl rfl rfl (by first | omega | (simp [up_if]; omega) | (simp [up_if] at *; omega)) ?_)
      exact ⟨_, rfl, rfl, Or.inr ⟨rfl, fun q => ht q.1⟩⟩
    · omega
theorem s_Mo_cell {σ : eS} {s i j : Int} (hB : iB1 σ) : MtI shB M_Mo_cell [vr 0, vi s, vi i, vi j] σ (fun σ' z => σ' = σ ∧ ((celB σ s i j ∧ z = cB σ s i j) ∨ (¬ celB σ s i j ∧ z = -1))) := by
  refine Mt.of okM_Mo_cell (Nat.le_of_ble_eq_true rfl) (fun hk hg => ?_)
  refine ok_aload_n 0 rfl rfl rfl (ok_iload_n 1 rfl rfl rfl (ok_iload_n 2 rfl rfl rfl (ok_iload_n 3 rfl rfl rfl (ok_callVI (M' := M_Mo_isCell) (as := [_, _, _]) 4 rfl rfl ml_X12_211 (s_Mo_isCell hB) rfl rfl (Nat.le_of_ble_eq_true rfl) ⟨Nat.le_of_ble_eq_true rfl, Nat.le_of_ble_eq_true rfl⟩ rfl (Nat.le_of_ble_eq_true rfl) (fun σ' z hz => ?_)))))
  obtain ⟨hs_, hz⟩ := hz
  rw [hs_]; clear hs_ σ'
  refine ok_if_eq 5 20 rfl rfl rfl (fun h7 => ?_) (fun h7 => ?_)
  · refine ok_iconst 12 rfl rfl (by decide) (ok_iret 13 rfl rfl rfl ?_)
    first | exact ⟨_, rfl, rfl, Or.inl ⟨hc, rfl⟩⟩ | (rcases hz with q | q; exact absurd h7 (by omega); exact ⟨_, rfl, rfl, Or.inr ⟨q.2, rfl⟩⟩)
  · have hc : celB σ s i j := by
      rcases hz with q | q
      · exact q.2
      · omega
    refine ok_aload_n 6 rfl rfl rfl (ok_iload_n 7 rfl rfl rfl (ok_iload_n 8 rfl rfl rfl (ok_iload_n 9 rfl rfl rfl (ok_callVI (M' := M_Mo_at) (as := [_, _, _]) 10 rfl rfl ml_X12_107 (s_Mo_at hB ⟨hc.1.1, hc.1.2.1⟩ ⟨hc.2.1, hc.2.2.1⟩ hc.2.2.2) rfl rfl (Nat.le_of_ble_eq_true rfl) ⟨Nat.le_of_ble_eq_true rfl, Nat.le_of_ble_eq_true rfl⟩ rfl (Nat.le_of_ble_eq_true rfl) (fun σ' z hz => ?_)))))
    rw [hz.1, hz.2]
    clear hz z σ'
    refine ok_goto 11 21 rfl rfl rfl (ok_iret 13 rfl rfl rfl ?_)
    first | exact ⟨_, rfl, rfl, Or.inl ⟨hc, rfl⟩⟩ | (rcases hz with q | q; exact absurd h7 (by omega); exact ⟨_, rfl, rfl, Or.inr ⟨q.2, rfl⟩⟩)
end
section
abbrev rgM : Nat → Int → Prop := fun c k => (c = 0 ∧ k = 4) ∨ c = 1 ∨ c = 2 ∨ c = 3 ∨ c = 4
def QM (σ : eS) (σ' : eS) (z : Int) : Prop := fr rgM σ σ' ∧ iB1 σ' ∧ (z = 0 ∨ z = 1)
theorem Qtk.M {τ σ' : eS} {s n z : Int} (hB : iB1 τ) (hs : 0 ≤ s ∧ s < 4) (hn : 0 ≤ n ∧ n ≤ 8) (hb : 1 ≤ τ 0 4) (hf : ∀ k, 0 ≤ k → k < n * n → 0 ≤ τ 4 k) (h : Qtk τ s n σ' z) : QM τ σ' z := by
  rcases h with ⟨hz, rfl, -⟩ | ⟨hz, rfl, hft⟩
  · exact ⟨fr.rf, hB, Or.inl hz⟩
  · refine ⟨fun c k q => ?_, ?_, Or.inr hz⟩
    · simp only [rgM] at q
      simp only [tw]
      rw [if_neg (by omega), if_neg (by omega), if_neg (by omega)]
    · obtain ⟨gp, gl⟩ := gF_bd hb (n * n).toNat
      refine tw_B hB hs hn (fun q => ?_) (fun k a b => ?_)
      · rw [if_neg (by omega)]
        exact ⟨(gcd_div hb gp gl).1, hft.1⟩
      · exact ⟨Int.ediv_nonneg (hf k a b) (by omega), hft.2 k a b⟩
theorem QM.tr {σ τ σ' : eS} {z : Int} (f : fr rgM σ τ) (h : QM τ σ' z) : QM σ σ' z := ⟨f.tr h.1, h.2⟩
theorem s_Mo_isPart {σ : eS} {x y : Int} : MtI shB M_Mo_isPart [vi x, vi y] σ (fun σ' z => σ' = σ ∧ ((z = 1 ∧ 0 ≤ x ∧ x ≤ 9999 ∧ 1 ≤ y ∧ y ≤ 9999) ∨ (z = 0 ∧ ¬ (0 ≤ x ∧ x ≤ 9999 ∧ 1 ≤ y ∧ y ≤ 9999)))) := by
  refine Mt.of okM_Mo_isPart (Nat.le_of_ble_eq_true rfl) (fun hk hg => ?_)
  refine ok_iload_n 0 rfl rfl rfl (ok_i2l 1 rfl rfl (ok_lconst (w := 0) 2 rfl rfl rfl (by decide) (ok_ldc2 3 (9999) rfl rfl kc_X12_215 (by decide) (ok_callSI (M' := M_Mo_isIn) (as := [_, _, _]) 4 rfl rfl ml_X12_99 (s_Mo_isIn) ⟨Nat.le_of_ble_eq_true rfl, Nat.le_of_ble_eq_true rfl⟩ rfl (Nat.le_of_ble_eq_true rfl) (fun σ' z1 h1 => ?_)))))
  obtain ⟨hs_, h1⟩ := h1
  rw [hs_]; clear hs_ σ'
  refine ok_if_eq 5 28 rfl rfl rfl (fun h9 => ?_) (fun h9 => ?_)
  · refine ok_iconst 14 rfl rfl (by decide) (ok_zret 15 rfl rfl rfl (by first | omega | (simp [up_if]; omega) | (simp [up_if] at *; omega)) ?_)
    refine ⟨_, rfl, rfl, ?_⟩
    first | (split at h1 <;> split at h2 <;> omega) | (split at h1 <;> omega)
  · refine ok_iload_n 6 rfl rfl rfl (ok_i2l 7 rfl rfl (ok_lconst (w := 1) 8 rfl rfl rfl (by decide) (ok_ldc2 9 (9999) rfl rfl kc_X12_215 (by decide) (ok_callSI (M' := M_Mo_isIn) (as := [_, _, _]) 10 rfl rfl ml_X12_99 (s_Mo_isIn) ⟨Nat.le_of_ble_eq_true rfl, Nat.le_of_ble_eq_true rfl⟩ rfl (Nat.le_of_ble_eq_true rfl) (fun σ' z2 h2 => ?_)))))
    obtain ⟨hs_, h2⟩ := h2
    rw [hs_]; clear hs_ σ'
    refine ok_if_eq 11 28 rfl rfl rfl (fun h21 => ?_) (fun h21 => ?_)
    · refine ok_iconst 14 rfl rfl (by decide) (ok_zret 15 rfl rfl rfl (by first | omega | (simp [up_if]; omega) | (simp [up_if] at *; omega)) ?_)
      refine ⟨_, rfl, rfl, ?_⟩
      first | (split at h1 <;> split at h2 <;> omega) | (split at h1 <;> omega)
    · refine ok_iconst 12 rfl rfl (by decide) (ok_goto 13 29 rfl rfl rfl (ok_zret 15 rfl rfl rfl (by first | omega | (simp [up_if]; omega) | (simp [up_if] at *; omega)) ?_))
      refine ⟨_, rfl, rfl, ?_⟩
      first | (split at h1 <;> split at h2 <;> omega) | (split at h1 <;> omega)
theorem s_Mo_grown {σ : eS} {b c : Int} (hb : 0 ≤ b ∧ b ≤ 99999999999999) (hc : 0 ≤ c ∧ c ≤ 99999999) : MtL shB M_Mo_grown [vl b, vl c] σ (fun σ' z => σ' = σ ∧ ((z = -1 ∧ 1000000000000000 < b * c) ∨ (z = b * c ∧ b * c ≤ 1000000000000000 ∧ 0 ≤ b * c))) := by
  refine Mt.of okM_Mo_grown (Nat.le_of_ble_eq_true rfl) (fun hk hg => ?_)
  obtain ⟨m1, m2⟩ := mul_bd hb hc
  refine ok_lload_n 0 rfl rfl rfl (ok_lconst (w := 0) 1 rfl rfl rfl (by decide) (ok_lcmp_le 2 3 22 rfl rfl rfl rfl rfl (fun h2 => ?_) (fun h2 => ?_)))
  · refine ok_lload_n 12 rfl rfl rfl (ok_lload_n 13 rfl rfl rfl (ok_lmul 14 rfl rfl (by rw [show c = 0 by omega]; omega) (ok_lret 15 rfl rfl rfl ?_)))
    exact ⟨_, rfl, rfl, Or.inr ⟨rfl, by rw [show c = 0 by omega]; omega, by omega⟩⟩
  · refine ok_lload_n 4 rfl rfl rfl (ok_ldc2 5 (1000000000000000) rfl rfl kc_X12_217 (by decide) (ok_lload_n 6 rfl rfl rfl (ok_ldiv 7 rfl rfl (by omega) (by omega) (ok_lcmp_le 8 9 22 rfl rfl rfl rfl rfl (fun h12 => ?_) (fun h12 => ?_)))))
    · have hm : b * c ≤ 1000000000000000 := by
        have := (Int.le_ediv_iff_mul_le (by omega : 0 < c)).mp h12
        omega
      refine ok_lload_n 12 rfl rfl rfl (ok_lload_n 13 rfl rfl rfl (ok_lmul 14 rfl rfl (by first | omega | (simp [up_if]; omega) | (simp [up_if] at *; omega)) (ok_lret 15 rfl rfl rfl ?_)))
      exact ⟨_, rfl, rfl, Or.inr ⟨rfl, hm, by omega⟩⟩
    · refine ok_ldc2 10 (-1) rfl rfl kc_X12_219 (by decide) (ok_goto 11 25 rfl rfl rfl (ok_lret 15 rfl rfl rfl ?_))
      exact ⟨_, rfl, rfl, Or.inl ⟨rfl, Int.not_le.mp (fun q => by
        have := (Int.le_ediv_iff_mul_le (by omega : 0 < c)).mpr q
        omega)⟩⟩
theorem s_Mo_behind {σ : eS} {k r n : Int} (h : 0 ≤ k ∧ k < n ∧ n ≤ 8 ∧ 0 ≤ r ∧ r < n) : MtI shB M_Mo_behind [vi k, vi r, vi n] σ (fun σ' z => σ' = σ ∧ z = if k < r then k else if k = r then n - 1 else k - 1) := by
  refine Mt.of okM_Mo_behind (Nat.le_of_ble_eq_true rfl) (fun hk hg => ?_)
  refine ok_iload_n 0 rfl rfl rfl (ok_iload_n 1 rfl rfl rfl (ok_icmp_ge 2 9 rfl rfl rfl (fun h2 => ?_) (fun h2 => ?_)))
  · refine ok_iload_n 5 rfl rfl rfl (ok_iload_n 6 rfl rfl rfl (ok_icmp_ne 7 20 rfl rfl rfl (fun h11 => ?_) (fun h11 => ?_)))
    · refine ok_iload_n 12 rfl rfl rfl (ok_iconst 13 rfl rfl (by decide) (ok_isub 14 rfl rfl (by first | omega | (simp [up_if]; omega) | (simp [up_if] at *; omega)) (ok_iret 15 rfl rfl rfl ?_)))
      refine ⟨_, rfl, rfl, ?_⟩
      first | rw [if_pos (by omega)] | rw [if_neg (by omega), if_pos (by omega)] | rw [if_neg (by omega), if_neg (by omega)]
    · refine ok_iload_n 8 rfl rfl rfl (ok_iconst 9 rfl rfl (by decide) (ok_isub 10 rfl rfl (by first | omega | (simp [up_if]; omega) | (simp [up_if] at *; omega)) (ok_goto 11 23 rfl rfl rfl (ok_iret 15 rfl rfl rfl ?_))))
      refine ⟨_, rfl, rfl, ?_⟩
      first | rw [if_pos (by omega)] | rw [if_neg (by omega), if_pos (by omega)] | rw [if_neg (by omega), if_neg (by omega)]
  · refine ok_iload_n 3 rfl rfl rfl (ok_goto 4 23 rfl rfl rfl (ok_iret 15 rfl rfl rfl ?_))
    refine ⟨_, rfl, rfl, ?_⟩
    first | rw [if_pos (by omega)] | rw [if_neg (by omega), if_pos (by omega)] | rw [if_neg (by omega), if_neg (by omega)]
theorem iB1_M {σ τ : eS} (h : iB1 σ) (f : fr (fun c k => (c = 0 ∧ k = 4) ∨ c = 4) σ τ) (g : ∀ k : Int, 0 ≤ k → k < 64 → 0 ≤ τ 4 k) : iB1 τ ∧ ∀ t, τ 1 t = σ 1 t ∧ τ 2 t = σ 2 t :=
  ⟨⟨fun t a b => by rw [f 1 t (by omega), f 2 t (by omega)]; exact h.1 t a b, fun k a b => by rw [f 3 k (by omega)]; exact h.2.1 k a b, g⟩, fun t => ⟨f 1 t (by omega), f 2 t (by omega)⟩⟩
theorem s_Mo_times {σ : eS} {s o t : Int} (hB : iB1 σ) : MtI shB M_Mo_times [vr 0, vi s, vi o, vi t] σ (QM σ) := by
  refine Mt.of okM_Mo_times (Nat.le_of_ble_eq_true rfl) (fun hk hg => ?_)
  by_cases hs : tabB σ s
  rotate_left
  · refine ok_aload_n 0 rfl rfl rfl (ok_iload_n 1 rfl rfl rfl (ok_callVI (M' := M_Mo_isTable) (as := [_]) 2 rfl rfl ml_X12_111 (s_Mo_isTable_n hs) rfl rfl (Nat.le_of_ble_eq_true rfl) ⟨Nat.le_of_ble_eq_true rfl, Nat.le_of_ble_eq_true rfl⟩ rfl (Nat.le_of_ble_eq_true rfl) (fun σ' z hz => ?_)))
    rw [hz.1, hz.2]
    clear hz z σ'
    refine ok_if_eq 3 38 rfl rfl rfl (fun h5 => ?_) (fun h5 => ?_)
    · refine ok_iconst 20 rfl rfl (by decide) (ok_zret 21 rfl rfl rfl (by first | omega | (simp [up_if]; omega) | (simp [up_if] at *; omega)) ?_)
      exact ⟨_, rfl, fr.rf, hB, Or.inl rfl⟩
    · omega
  by_cases ho : tabB σ o
  rotate_left
  · refine ok_aload_n 0 rfl rfl rfl (ok_iload_n 1 rfl rfl rfl (ok_callVI (M' := M_Mo_isTable) (as := [_]) 2 rfl rfl ml_X12_111 (s_Mo_isTable_y hs) rfl rfl (Nat.le_of_ble_eq_true rfl) ⟨Nat.le_of_ble_eq_true rfl, Nat.le_of_ble_eq_true rfl⟩ rfl (Nat.le_of_ble_eq_true rfl) (fun σ' z hz => ?_)))
    rw [hz.1, hz.2]
    clear hz z σ'
    refine ok_if_eq 3 38 rfl rfl rfl (fun h5 => ?_) (fun h5 => ?_)
    · omega
    · refine ok_aload_n 4 rfl rfl rfl (ok_iload_n 5 rfl rfl rfl (ok_callVI (M' := M_Mo_isTable) (as := [_]) 6 rfl rfl ml_X12_111 (s_Mo_isTable_n ho) rfl rfl (Nat.le_of_ble_eq_true rfl) ⟨Nat.le_of_ble_eq_true rfl, Nat.le_of_ble_eq_true rfl⟩ rfl (Nat.le_of_ble_eq_true rfl) (fun σ' z hz => ?_)))
      rw [hz.1, hz.2]
      clear hz z σ'
      refine ok_if_eq 7 38 rfl rfl rfl (fun h13 => ?_) (fun h13 => ?_)
      · refine ok_iconst 20 rfl rfl (by decide) (ok_zret 21 rfl rfl rfl (by first | omega | (simp [up_if]; omega) | (simp [up_if] at *; omega)) ?_)
        exact ⟨_, rfl, fr.rf, hB, Or.inl rfl⟩
      · omega
  by_cases ht : 0 ≤ t ∧ t < 4
  rotate_left
  · refine ok_aload_n 0 rfl rfl rfl (ok_iload_n 1 rfl rfl rfl (ok_callVI (M' := M_Mo_isTable) (as := [_]) 2 rfl rfl ml_X12_111 (s_Mo_isTable_y hs) rfl rfl (Nat.le_of_ble_eq_true rfl) ⟨Nat.le_of_ble_eq_true rfl, Nat.le_of_ble_eq_true rfl⟩ rfl (Nat.le_of_ble_eq_true rfl) (fun σ' z hz => ?_)))
    rw [hz.1, hz.2]
    clear hz z σ'
    refine ok_if_eq 3 38 rfl rfl rfl (fun h5 => ?_) (fun h5 => ?_)
    · omega
    · refine ok_aload_n 4 rfl rfl rfl (ok_iload_n 5 rfl rfl rfl (ok_callVI (M' := M_Mo_isTable) (as := [_]) 6 rfl rfl ml_X12_111 (s_Mo_isTable_y ho) rfl rfl (Nat.le_of_ble_eq_true rfl) ⟨Nat.le_of_ble_eq_true rfl, Nat.le_of_ble_eq_true rfl⟩ rfl (Nat.le_of_ble_eq_true rfl) (fun σ' z hz => ?_)))
      rw [hz.1, hz.2]
      clear hz z σ'
      refine ok_if_eq 7 38 rfl rfl rfl (fun h13 => ?_) (fun h13 => ?_)
      · omega
      · refine ok_iload_n 8 rfl rfl rfl (ok_callSI (M' := M_Mo_isSlot) (as := [_]) 9 rfl rfl ml_X12_103 (s_Mo_isSlot_n ht) ⟨Nat.le_of_ble_eq_true rfl, Nat.le_of_ble_eq_true rfl⟩ rfl (Nat.le_of_ble_eq_true rfl) (fun σ' z hz => ?_))
        rw [hz.1, hz.2]
        clear hz z σ'
        refine ok_if_eq 10 38 rfl rfl rfl (fun h20 => ?_) (fun h20 => ?_)
        · refine ok_iconst 20 rfl rfl (by decide) (ok_zret 21 rfl rfl rfl (by first | omega | (simp [up_if]; omega) | (simp [up_if] at *; omega)) ?_)
          exact ⟨_, rfl, fr.rf, hB, Or.inl rfl⟩
        · omega
  obtain ⟨s1, s2, s3⟩ := id hs
  obtain ⟨o1, o2, o3⟩ := id ho
  obtain ⟨n, en⟩ : ∃ x, x = σ 1 s := ⟨_, rfl⟩
  obtain ⟨g1, g2, g3⟩ := hB.1 s s1 s2
  obtain ⟨k1, k2, k3⟩ := hB.1 o o1 o2
  obtain ⟨x1, x2⟩ := sq8 (n := n) ⟨by omega, by omega⟩
  refine ok_aload_n 0 rfl rfl rfl (ok_iload_n 1 rfl rfl rfl (ok_callVI (M' := M_Mo_isTable) (as := [_]) 2 rfl rfl ml_X12_111 (s_Mo_isTable_y hs) rfl rfl (Nat.le_of_ble_eq_true rfl) ⟨Nat.le_of_ble_eq_true rfl, Nat.le_of_ble_eq_true rfl⟩ rfl (Nat.le_of_ble_eq_true rfl) (fun σ' z hz => ?_)))
  rw [hz.1, hz.2]
  clear hz z σ'
  refine ok_if_eq 3 38 rfl rfl rfl (fun h5 => ?_) (fun h5 => ?_)
  · omega
  · refine ok_aload_n 4 rfl rfl rfl (ok_iload_n 5 rfl rfl rfl (ok_callVI (M' := M_Mo_isTable) (as := [_]) 6 rfl rfl ml_X12_111 (s_Mo_isTable_y ho) rfl rfl (Nat.le_of_ble_eq_true rfl) ⟨Nat.le_of_ble_eq_true rfl, Nat.le_of_ble_eq_true rfl⟩ rfl (Nat.le_of_ble_eq_true rfl) (fun σ' z hz => ?_)))
    rw [hz.1, hz.2]
    clear hz z σ'
    refine ok_if_eq 7 38 rfl rfl rfl (fun h13 => ?_) (fun h13 => ?_)
    · omega
    · refine ok_iload_n 8 rfl rfl rfl (ok_callSI (M' := M_Mo_isSlot) (as := [_]) 9 rfl rfl ml_X12_103 (s_Mo_isSlot_y ht) ⟨Nat.le_of_ble_eq_true rfl, Nat.le_of_ble_eq_true rfl⟩ rfl (Nat.le_of_ble_eq_true rfl) (fun σ' z hz => ?_))
      rw [hz.1, hz.2]
      clear hz z σ'
      refine ok_if_eq 10 38 rfl rfl rfl (fun h20 => ?_) (fun h20 => ?_)
      · omega
      · refine ok_aload_n 11 rfl rfl rfl (ok_getR 12 rfl rfl fl_X12_7 rfl rfl (ok_iload_n 13 rfl rfl rfl (ok_iald 14 rfl rfl rfl (by first | omega | (simp [up_if]; omega) | (simp [up_if] at *; omega)) (ok_aload_n 15 rfl rfl rfl (ok_getR 16 rfl rfl fl_X12_7 rfl rfl (ok_iload_n 17 rfl rfl rfl (ok_iald 18 rfl rfl rfl (by first | omega | (simp [up_if]; omega) | (simp [up_if] at *; omega)) (ok_icmp_eq 19 40 rfl rfl rfl (fun h35 => ?_) (fun h35 => ?_)))))))))
        · refine ok_aload_n 22 rfl rfl rfl (ok_getR 23 rfl rfl fl_X12_7 rfl rfl (ok_iload_n 24 rfl rfl rfl (ok_iald 25 rfl rfl rfl (by first | omega | (simp [up_if]; omega) | (simp [up_if] at *; omega)) (ok_ist4 26 rfl rfl rfl (ok_iconst 27 rfl rfl (by decide) (ok_ist5 28 rfl rfl rfl ?_))))))
          rw [← en]
          refine lpO2 (fun (i : Int) (_ : eS) => [some (vr 0), some (vi s), some (vi o), some (vi t), some (vi n), some (vi i), none, none, none, none]) (fun _ τ => τ) (fun i τ => 0 ≤ i ∧ i ≤ n ∧ fr (fun c k => (c = 0 ∧ k = 4) ∨ c = 4) σ τ ∧ ∀ k, 0 ≤ k → k < 64 → 0 ≤ τ 4 k) (fun i _ => (n - i).toNat) ?_ 0 σ ⟨by omega, by omega, fr.rf, hB.2.2⟩
          rintro i τ ⟨i1, i2, i3, i4⟩ ih
          refine ok_iload 29 rfl rfl rfl (ok_iload 30 rfl rfl rfl (ok_icmp_ge 31 140 rfl rfl rfl (fun h55 => ?_) (fun h55 => ?_)))
          · obtain ⟨b1, b2⟩ := iB1_M hB i3 i4
            have bs := (b2 s)
            have bo := (b2 o)
            obtain ⟨m1, m2⟩ := mul_bd (a := τ 2 s) (b := τ 2 o) (A := 999999) (B := 999999) ⟨by omega, by omega⟩ ⟨by omega, by omega⟩
            have m3 := Int.mul_pos (by omega : 0 < τ 2 s) (by omega : 0 < τ 2 o)
            have hin : i = n := by omega
            refine ok_aload_n 75 rfl rfl rfl (ok_aload_n 76 rfl rfl rfl (ok_getR 77 rfl rfl fl_X12_13 rfl rfl (ok_iload_n 78 rfl rfl rfl (ok_iald 79 rfl rfl rfl (by first | omega | (simp [up_if]; omega) | (simp [up_if] at *; omega)) (ok_i2l 80 rfl rfl (ok_aload_n 81 rfl rfl rfl (ok_getR 82 rfl rfl fl_X12_13 rfl rfl (ok_iload_n 83 rfl rfl rfl (ok_iald 84 rfl rfl rfl (by first | omega | (simp [up_if]; omega) | (simp [up_if] at *; omega)) (ok_i2l 85 rfl rfl (ok_lmul 86 rfl rfl (by first | omega | (simp [up_if]; omega) | (simp [up_if] at *; omega)) (ok_putL 87 rfl rfl fl_X12_85 rfl rfl rfl rfl (ok_aload_n 88 rfl rfl rfl (ok_iload_n 89 rfl rfl rfl (ok_iload 90 rfl rfl rfl (ok_callVI (M' := M_Mo_takes) (as := [_, _]) 91 rfl rfl ml_X12_179 (s_Mo_takes ht ⟨by omega, by omega⟩ (by rw [up_same]; omega) (fun k a b => by rw [up_ne _ _ _ _ (by decide)]; exact i4 k a (by omega))) rfl rfl (Nat.le_of_ble_eq_true rfl) ⟨Nat.le_of_ble_eq_true rfl, Nat.le_of_ble_eq_true rfl⟩ rfl (Nat.le_of_ble_eq_true rfl) (fun σ' z hz => ?_)))))))))))))))))
            have hq := Qtk.M (b1.fr (fun c k q => by rw [up_ne _ _ _ _ (by omega)])) ht ⟨by omega, by omega⟩ (by rw [up_same]; omega) (fun k a b => by rw [up_ne _ _ _ _ (by decide)]; exact i4 k a (by omega)) hz
            refine ok_zret 92 rfl rfl rfl (by have := hq.2.2; omega) ?_
            exact ⟨_, rfl, hq.tr (fr_up (i3.mono (fun c k q => by simp only [rgM]; omega)) (by simp [rgM]))⟩
          · refine ok_iconst 32 rfl rfl (by decide) (ok_ist6 33 rfl rfl rfl ?_)
            refine lpO2 (fun (j : Int) (_ : eS) => [some (vr 0), some (vi s), some (vi o), some (vi t), some (vi n), some (vi i), some (vi j), none, none, none]) (fun _ τ => τ) (fun j τ => 0 ≤ j ∧ j ≤ n ∧ fr (fun c k => (c = 0 ∧ k = 4) ∨ c = 4) σ τ ∧ ∀ k, 0 ≤ k → k < 64 → 0 ≤ τ 4 k) (fun j _ => (n - j).toNat) ?_ 0 τ ⟨by omega, by omega, i3, i4⟩
            clear i3 i4 τ
            rintro j τ ⟨j1, j2, i3, i4⟩ ih2
            obtain ⟨b1, b2⟩ := iB1_M hB i3 i4
            have bs := (b2 s).1
            have bo := (b2 o).1
            refine ok_iload 34 rfl rfl rfl (ok_iload 35 rfl rfl rfl (ok_icmp_ge 36 134 rfl rfl rfl (fun h65 => ?_) (fun h65 => ?_)))
            · refine ok_inc5 73 rfl rfl rfl (by first | omega | (simp [up_if]; omega) | (simp [up_if] at *; omega)) (ok_goto 74 51 rfl rfl rfl ?_)
              exact ok_fg [some (vr 0), some (vi s), some (vi o), some (vi t), some (vi n), some (vi (i + 1)), none, none, none, none] ⟨rfl, rfl, rfl, rfl, rfl, rfl, trivial⟩ (ih (i + 1) τ ⟨by omega, by omega, i3, i4⟩ (by omega))
            · obtain ⟨y1, y2, y3, y4⟩ := ix8 (n := n) (i := i) (j := j) ⟨by omega, by omega⟩ ⟨by omega, by omega⟩ ⟨by omega, by omega⟩
              refine ok_lconst (w := 0) 37 rfl rfl rfl (by decide) (ok_lst7 38 rfl rfl rfl (ok_iconst 39 rfl rfl (by decide) (ok_ist9 40 rfl rfl rfl ?_)))
              refine lpO2 (fun (v k : Int) => [some (vr 0), some (vi s), some (vi o), some (vi t), some (vi n), some (vi i), some (vi j), some (vl v), none, some (vi k)]) (fun _ _ => τ) (fun v k => 0 ≤ k ∧ k ≤ n ∧ 0 ≤ v ∧ v ≤ 9999999800000001 * k) (fun _ k => (n - k).toNat) ?_ 0 0 ⟨by omega, by omega, by omega, by omega⟩
              rintro v k ⟨v1, v2, v3, v4⟩ ih3
              refine ok_iload 41 rfl rfl rfl (ok_iload 42 rfl rfl rfl (ok_icmp_ge 43 113 rfl rfl rfl (fun h78 => ?_) (fun h78 => ?_)))
              · refine ok_aload_n 62 rfl rfl rfl (ok_getR 63 rfl rfl fl_X12_19 rfl rfl (ok_iload 64 rfl rfl rfl (ok_iload 65 rfl rfl rfl (ok_imul 66 rfl rfl (by first | omega | (simp [up_if]; omega) | (simp [up_if] at *; omega)) (ok_iload 67 rfl rfl rfl (ok_iadd 68 rfl rfl (by first | omega | (simp [up_if]; omega) | (simp [up_if] at *; omega)) (ok_lload 69 rfl rfl rfl (ok_last 70 rfl rfl rfl (by first | omega | (simp [up_if]; omega) | (simp [up_if] at *; omega)) (ok_inc6 71 rfl rfl rfl (by first | omega | (simp [up_if]; omega) | (simp [up_if] at *; omega)) (ok_goto 72 61 rfl rfl rfl ?_))))))))))
                exact ok_fg [some (vr 0), some (vi s), some (vi o), some (vi t), some (vi n), some (vi i), some (vi (j + 1)), none, none, none] ⟨rfl, rfl, rfl, rfl, rfl, rfl, rfl, trivial⟩ (ih2 (j + 1) _ ⟨by omega, by omega, fr_up i3 (by simp), fun k a b => by
                  rw [up_if]
                  split
                  · exact v3
                  · exact i4 k a (by omega)⟩ (by omega))
              · refine ok_lload 44 rfl rfl rfl (ok_aload_n 45 rfl rfl rfl (ok_iload_n 46 rfl rfl rfl (ok_iload 47 rfl rfl rfl (ok_iload 48 rfl rfl rfl (ok_callVI (M' := M_Mo_at) (as := [_, _, _]) 49 rfl rfl ml_X12_107 (s_Mo_at b1 ⟨s1, s2⟩ ⟨by omega, by omega⟩ ⟨by omega, by omega⟩) rfl rfl (Nat.le_of_ble_eq_true rfl) ⟨Nat.le_of_ble_eq_true rfl, Nat.le_of_ble_eq_true rfl⟩ rfl (Nat.le_of_ble_eq_true rfl) (fun σ' z hz => ?_))))))
                rw [hz.1, hz.2]
                clear hz z σ'
                refine ok_i2l 50 rfl rfl (ok_aload_n 51 rfl rfl rfl (ok_iload_n 52 rfl rfl rfl (ok_iload 53 rfl rfl rfl (ok_iload 54 rfl rfl rfl (ok_callVI (M' := M_Mo_at) (as := [_, _, _]) 55 rfl rfl ml_X12_107 (s_Mo_at b1 ⟨o1, o2⟩ ⟨by omega, by omega⟩ ⟨by omega, by omega⟩) rfl rfl (Nat.le_of_ble_eq_true rfl) ⟨Nat.le_of_ble_eq_true rfl, Nat.le_of_ble_eq_true rfl⟩ rfl (Nat.le_of_ble_eq_true rfl) (fun σ' z hz => ?_))))))
                rw [hz.1, hz.2]; clear hz z σ'
                have p1 := cB_bd b1 ⟨s1, s2⟩ (i := i) (j := k) ⟨by omega, by omega⟩ ⟨by omega, by omega⟩
                have p2 := cB_bd b1 ⟨o1, o2⟩ (i := k) (j := j) ⟨by omega, by omega⟩ ⟨by omega, by omega⟩
                have p3 := mul_bd p1 p2
                refine ok_i2l 56 rfl rfl (ok_lmul 57 rfl rfl (by first | omega | (simp [up_if]; omega) | (simp [up_if] at *; omega)) (ok_ladd 58 rfl rfl (by first | omega | (simp [up_if]; omega) | (simp [up_if] at *; omega)) (ok_lst7 59 rfl rfl rfl (ok_inc9 60 rfl rfl rfl (by first | omega | (simp [up_if]; omega) | (simp [up_if] at *; omega)) (ok_goto 61 74 rfl rfl rfl ?_)))))
                exact ih3 _ (k + 1) ⟨by omega, by omega, by omega, by omega⟩ (by omega)
        · refine ok_iconst 20 rfl rfl (by decide) (ok_zret 21 rfl rfl rfl (by first | omega | (simp [up_if]; omega) | (simp [up_if] at *; omega)) ?_)
          exact ⟨_, rfl, fr.rf, hB, Or.inl rfl⟩
end
section
theorem s_Mo_isTable_r {σ : eS} {s : Int} : MtI shB M_Mo_isTable [vr 0, vi s] σ (fun σ' z => σ' = σ ∧ ((z = 1 ∧ tabB σ s) ∨ (z = 0 ∧ ¬ tabB σ s))) := by
  by_cases h : tabB σ s
  · exact (s_Mo_isTable_y h).weaken (fun σ' v q => by obtain ⟨z, h1, h2, h3⟩ := q; exact ⟨z, h1, h2, Or.inl ⟨h3, h⟩⟩)
  · exact (s_Mo_isTable_n h).weaken (fun σ' v q => by obtain ⟨z, h1, h2, h3⟩ := q; exact ⟨z, h1, h2, Or.inr ⟨h3, h⟩⟩)
theorem s_Mo_isSlot_r {σ : eS} {s : Int} : MtI shB M_Mo_isSlot [vi s] σ (fun σ' z => σ' = σ ∧ ((z = 1 ∧ 0 ≤ s ∧ s < 4) ∨ (z = 0 ∧ ¬ (0 ≤ s ∧ s < 4)))) := by
  by_cases h : 0 ≤ s ∧ s < 4
  · exact (s_Mo_isSlot_y h).weaken (fun σ' v q => by obtain ⟨z, h1, h2, h3⟩ := q; exact ⟨z, h1, h2, Or.inl ⟨h3, h⟩⟩)
  · exact (s_Mo_isSlot_n h).weaken (fun σ' v q => by obtain ⟨z, h1, h2, h3⟩ := q; exact ⟨z, h1, h2, Or.inr ⟨h3, h⟩⟩)
theorem s_Mo_isIn_r {σ : eS} {v a b : Int} : MtI shB M_Mo_isIn [vl v, vl a, vl b] σ (fun σ' z => σ' = σ ∧ ((z = 1 ∧ a ≤ v ∧ v ≤ b) ∨ (z = 0 ∧ ¬ (a ≤ v ∧ v ≤ b)))) := by
  by_cases h : a ≤ v ∧ v ≤ b
  · exact (s_Mo_isIn_y h).weaken (fun σ' v q => by obtain ⟨z, h1, h2, h3⟩ := q; exact ⟨z, h1, h2, Or.inl ⟨h3, h⟩⟩)
  · exact (s_Mo_isIn_n h).weaken (fun σ' v q => by obtain ⟨z, h1, h2, h3⟩ := q; exact ⟨z, h1, h2, Or.inr ⟨h3, h⟩⟩)
/-- what a test says, where it isn't 0 -/
theorem yes1 {z : Int} {P : Prop} (h : (z = 1 ∧ P) ∨ (z = 0 ∧ ¬ P)) (hz : ¬ z = 0) : P := by
  rcases h with q | q
  · exact q.2
  · exact absurd q.1 hz
theorem no1 {z : Int} {P : Prop} (h : (z = 1 ∧ P) ∨ (z = 0 ∧ ¬ P)) (hz : z = 0) : ¬ P := by
  rcases h with q | q
  · omega
  · exact q.2
theorem s_Mo_mix {σ : eS} {s x y o u v t : Int} (hB : iB1 σ) : MtI shB M_Mo_mix [vr 0, vi s, vi x, vi y, vi o, vi u, vi v, vi t] σ (QM σ) := by
  refine Mt.of okM_Mo_mix (Nat.le_of_ble_eq_true rfl) (fun hk hg => ?_)
  refine ok_aload_n 0 rfl rfl rfl (ok_iload_n 1 rfl rfl rfl (ok_callVI (M' := M_Mo_isTable) (as := [_]) 2 rfl rfl ml_X12_111 (s_Mo_isTable_r) rfl rfl (Nat.le_of_ble_eq_true rfl) ⟨Nat.le_of_ble_eq_true rfl, Nat.le_of_ble_eq_true rfl⟩ rfl (Nat.le_of_ble_eq_true rfl) (fun σ' z1 a1 => ?_)))
  obtain ⟨hs_, a1⟩ := a1
  rw [hs_]; clear hs_ σ'
  refine ok_if_eq 3 59 rfl rfl rfl (fun h5 => ?_) (fun h5 => ?_)
  · refine ok_iconst 28 rfl rfl (by decide) (ok_zret 29 rfl rfl rfl (by first | omega | (simp [up_if]; omega) | (simp [up_if] at *; omega)) ?_)
    exact ⟨_, rfl, fr.rf, hB, Or.inl rfl⟩
  · refine ok_aload_n 4 rfl rfl rfl (ok_iload 5 rfl rfl rfl (ok_callVI (M' := M_Mo_isTable) (as := [_]) 6 rfl rfl ml_X12_111 (s_Mo_isTable_r) rfl rfl (Nat.le_of_ble_eq_true rfl) ⟨Nat.le_of_ble_eq_true rfl, Nat.le_of_ble_eq_true rfl⟩ rfl (Nat.le_of_ble_eq_true rfl) (fun σ' z2 a2 => ?_)))
    obtain ⟨hs_, a2⟩ := a2
    rw [hs_]; clear hs_ σ'
    refine ok_if_eq 7 59 rfl rfl rfl (fun h14 => ?_) (fun h14 => ?_)
    · refine ok_iconst 28 rfl rfl (by decide) (ok_zret 29 rfl rfl rfl (by first | omega | (simp [up_if]; omega) | (simp [up_if] at *; omega)) ?_)
      exact ⟨_, rfl, fr.rf, hB, Or.inl rfl⟩
    · refine ok_iload 8 rfl rfl rfl (ok_callSI (M' := M_Mo_isSlot) (as := [_]) 9 rfl rfl ml_X12_103 (s_Mo_isSlot_r) ⟨Nat.le_of_ble_eq_true rfl, Nat.le_of_ble_eq_true rfl⟩ rfl (Nat.le_of_ble_eq_true rfl) (fun σ' z3 a3 => ?_))
      obtain ⟨hs_, a3⟩ := a3
      rw [hs_]; clear hs_ σ'
      refine ok_if_eq 10 59 rfl rfl rfl (fun h22 => ?_) (fun h22 => ?_)
      · refine ok_iconst 28 rfl rfl (by decide) (ok_zret 29 rfl rfl rfl (by first | omega | (simp [up_if]; omega) | (simp [up_if] at *; omega)) ?_)
        exact ⟨_, rfl, fr.rf, hB, Or.inl rfl⟩
      · have hs : tabB σ s := yes1 a1 h5
        have ho : tabB σ o := yes1 a2 h14
        have ht := yes1 a3 h22
        obtain ⟨s1, s2, s3⟩ := id hs
        obtain ⟨o1, o2, o3⟩ := id ho
        obtain ⟨g1, g2, g3⟩ := hB.1 s s1 s2
        obtain ⟨k1, k2, k3⟩ := hB.1 o o1 o2
        refine ok_aload_n 11 rfl rfl rfl (ok_getR 12 rfl rfl fl_X12_7 rfl rfl (ok_iload_n 13 rfl rfl rfl (ok_iald 14 rfl rfl rfl (by first | omega | (simp [up_if]; omega) | (simp [up_if] at *; omega)) (ok_aload_n 15 rfl rfl rfl (ok_getR 16 rfl rfl fl_X12_7 rfl rfl (ok_iload 17 rfl rfl rfl (ok_iald 18 rfl rfl rfl (by first | omega | (simp [up_if]; omega) | (simp [up_if] at *; omega)) (ok_icmp_ne 19 59 rfl rfl rfl (fun h38 => ?_) (fun h38 => ?_)))))))))
        · refine ok_iconst 28 rfl rfl (by decide) (ok_zret 29 rfl rfl rfl (by first | omega | (simp [up_if]; omega) | (simp [up_if] at *; omega)) ?_)
          exact ⟨_, rfl, fr.rf, hB, Or.inl rfl⟩
        · refine ok_iload_n 20 rfl rfl rfl (ok_iload_n 21 rfl rfl rfl (ok_callSI (M' := M_Mo_isPart) (as := [_, _]) 22 rfl rfl ml_X12_221 (s_Mo_isPart) ⟨Nat.le_of_ble_eq_true rfl, Nat.le_of_ble_eq_true rfl⟩ rfl (Nat.le_of_ble_eq_true rfl) (fun σ' z4 a4 => ?_)))
          obtain ⟨hs_, a4⟩ := a4
          rw [hs_]; clear hs_ σ'
          refine ok_if_eq 23 59 rfl rfl rfl (fun h46 => ?_) (fun h46 => ?_)
          · refine ok_iconst 28 rfl rfl (by decide) (ok_zret 29 rfl rfl rfl (by first | omega | (simp [up_if]; omega) | (simp [up_if] at *; omega)) ?_)
            exact ⟨_, rfl, fr.rf, hB, Or.inl rfl⟩
          · refine ok_iload 24 rfl rfl rfl (ok_iload 25 rfl rfl rfl (ok_callSI (M' := M_Mo_isPart) (as := [_, _]) 26 rfl rfl ml_X12_221 (s_Mo_isPart) ⟨Nat.le_of_ble_eq_true rfl, Nat.le_of_ble_eq_true rfl⟩ rfl (Nat.le_of_ble_eq_true rfl) (fun σ' z5 a5 => ?_)))
            obtain ⟨hs_, a5⟩ := a5
            rw [hs_]; clear hs_ σ'
            refine ok_if_ne 27 61 rfl rfl rfl (fun h56 => ?_) (fun h56 => ?_)
            · have p1 := yes1 a4 h46
              have p2 := yes1 a5 h56
              obtain ⟨n, en⟩ : ∃ x, x = σ 1 s := ⟨_, rfl⟩
              obtain ⟨x1, x2⟩ := sq8 (n := n) ⟨by omega, by omega⟩
              obtain ⟨A, eA⟩ : ∃ w, w = y * σ 2 s := ⟨_, rfl⟩
              obtain ⟨B, eB⟩ : ∃ w, w = v * σ 2 o := ⟨_, rfl⟩
              have bA := mul_bd (a := y) (b := σ 2 s) (A := 9999) (B := 999999) ⟨by omega, by omega⟩ ⟨by omega, by omega⟩
              have bA' := Int.mul_pos (by omega : 0 < y) (by omega : 0 < σ 2 s)
              have bB := mul_bd (a := v) (b := σ 2 o) (A := 9999) (B := 999999) ⟨by omega, by omega⟩ ⟨by omega, by omega⟩
              have bB' := Int.mul_pos (by omega : 0 < v) (by omega : 0 < σ 2 o)
              rw [← eA] at bA bA'
              rw [← eB] at bB bB'
              refine ok_iload_n 30 rfl rfl rfl (ok_i2l 31 rfl rfl (ok_aload_n 32 rfl rfl rfl (ok_getR 33 rfl rfl fl_X12_13 rfl rfl (ok_iload_n 34 rfl rfl rfl (ok_iald 35 rfl rfl rfl (by first | omega | (simp [up_if]; omega) | (simp [up_if] at *; omega)) (ok_i2l 36 rfl rfl (ok_lmul 37 rfl rfl (by rw [← eA]; omega) (ok_lst8 38 rfl rfl rfl (ok_iload 39 rfl rfl rfl (ok_i2l 40 rfl rfl (ok_aload_n 41 rfl rfl rfl (ok_getR 42 rfl rfl fl_X12_13 rfl rfl (ok_iload 43 rfl rfl rfl (ok_iald 44 rfl rfl rfl (by first | omega | (simp [up_if]; omega) | (simp [up_if] at *; omega)) (ok_i2l 45 rfl rfl (ok_lmul 46 rfl rfl (by rw [← eB]; omega) (ok_lst10 47 rfl rfl rfl ?_)))))))))))))))))
              rw [← eA, ← eB]
              refine ok_lload 48 rfl rfl rfl (ok_ldc2 49 (1000000000) rfl rfl kc_X12_224 (by decide) (ok_lcmp_gt 50 51 105 rfl rfl rfl rfl rfl (fun h92 => ?_) (fun h92 => ?_)))
              · refine ok_iconst 56 rfl rfl (by decide) (ok_zret 57 rfl rfl rfl (by first | omega | (simp [up_if]; omega) | (simp [up_if] at *; omega)) ?_)
                exact ⟨_, rfl, fr.rf, hB, Or.inl rfl⟩
              · refine ok_lload 52 rfl rfl rfl (ok_ldc2 53 (1000000000) rfl rfl kc_X12_224 (by decide) (ok_lcmp_le 54 55 107 rfl rfl rfl rfl rfl (fun h101 => ?_) (fun h101 => ?_)))
                · obtain ⟨c1, c2⟩ := gcd_pos (a := A) (b := B) (by omega)
                  obtain ⟨c3, c4⟩ := gcd_div (by omega : 1 ≤ A) c1 c2
                  obtain ⟨E, eE⟩ : ∃ w, w = A / (Int.gcd A B : Int) := ⟨_, rfl⟩
                  rw [← eE] at c3 c4
                  obtain ⟨F, eF⟩ : ∃ w, w = E * B := ⟨_, rfl⟩
                  have c5 := mul_bd (a := E) (b := B) (A := 1000000000) (B := 1000000000) ⟨by omega, by omega⟩ ⟨by omega, by omega⟩
                  have c6 := Int.mul_pos (by omega : 0 < E) (by omega : 0 < B)
                  rw [← eF] at c5 c6
                  refine ok_lload 58 rfl rfl rfl (ok_lload 59 rfl rfl rfl (ok_lload 60 rfl rfl rfl (ok_callSL (M' := M_Mo_common) (as := [_, _]) 61 rfl rfl ml_X12_89 (s_Mo_common (by omega) (by omega)) ⟨Nat.le_of_ble_eq_true rfl, Nat.le_of_ble_eq_true rfl⟩ rfl (Nat.le_of_ble_eq_true rfl) (fun σ' z hz => ?_))))
                  rw [hz.1, hz.2]; clear hz z σ'
                  refine ok_ldiv 62 rfl rfl (by omega) (by omega) (ok_lload 63 rfl rfl rfl (ok_lmul 64 rfl rfl (by rw [← eE, ← eF]; omega) (ok_lst12 65 rfl rfl rfl ?_)))
                  rw [← eE, ← eF]
                  refine ok_lload 66 rfl rfl rfl (ok_ldc2 67 (1000000000) rfl rfl kc_X12_224 (by decide) (ok_lcmp_le 68 69 133 rfl rfl rfl rfl rfl (fun h127 => ?_) (fun h127 => ?_)))
                  · refine ok_aload_n 72 rfl rfl rfl (ok_getR 73 rfl rfl fl_X12_7 rfl rfl (ok_iload_n 74 rfl rfl rfl (ok_iald 75 rfl rfl rfl (by first | omega | (simp [up_if]; omega) | (simp [up_if] at *; omega)) (ok_ist14 76 rfl rfl rfl (ok_iconst 77 rfl rfl (by decide) (ok_ist15 78 rfl rfl rfl ?_))))))
                    rw [← en]
                    obtain ⟨d1, d2⟩ := div_bd (u := F) (g := A) (B := 1000000000) ⟨by omega, by omega⟩ (by omega)
                    obtain ⟨d3, d4⟩ := div_bd (u := F) (g := B) (B := 1000000000) ⟨by omega, by omega⟩ (by omega)
                    obtain ⟨d5, d6⟩ := mul_bd (a := x) (b := F / A) (A := 9999) (B := 1000000000) ⟨by omega, by omega⟩ ⟨by omega, by omega⟩
                    obtain ⟨d7, d8⟩ := mul_bd (a := u) (b := F / B) (A := 9999) (B := 1000000000) ⟨by omega, by omega⟩ ⟨by omega, by omega⟩
                    refine lpO2 (fun (k : Int) (_ : eS) => [some (vr 0), some (vi s), some (vi x), some (vi y), some (vi o), some (vi u), some (vi v), some (vi t), some (vl A), none, some (vl B), none, some (vl F), none, some (vi n), some (vi k), none, none, none, none]) (fun _ τ => τ) (fun k τ => 0 ≤ k ∧ k ≤ n * n ∧ fr (fun c k => (c = 0 ∧ k = 4) ∨ c = 4) σ τ ∧ ∀ j, 0 ≤ j → j < 64 → 0 ≤ τ 4 j) (fun k _ => (n * n - k).toNat) ?_ 0 σ ⟨by omega, by omega, fr.rf, hB.2.2⟩
                    rintro k τ ⟨i1, i2, i3, i4⟩ ih
                    obtain ⟨b1, b2⟩ := iB1_M hB i3 i4
                    have fQ : fr rgM σ τ := i3.mono (fun c k q => by simp only [rgM]; omega)
                    refine ok_iload 79 rfl rfl rfl (ok_iload 80 rfl rfl rfl (ok_iload 81 rfl rfl rfl (ok_imul 82 rfl rfl (by first | omega | (simp [up_if]; omega) | (simp [up_if] at *; omega)) (ok_icmp_ge 83 254 rfl rfl rfl (fun h151 => ?_) (fun h151 => ?_)))))
                    · refine ok_aload_n 143 rfl rfl rfl (ok_lload 144 rfl rfl rfl (ok_putL 145 rfl rfl fl_X12_85 rfl rfl rfl rfl (ok_aload_n 146 rfl rfl rfl (ok_iload 147 rfl rfl rfl (ok_iload 148 rfl rfl rfl (ok_callVI (M' := M_Mo_takes) (as := [_, _]) 149 rfl rfl ml_X12_179 (s_Mo_takes ht ⟨by omega, by omega⟩ (by rw [up_same]; omega) (fun k a b => by rw [up_ne _ _ _ _ (by decide)]; exact i4 k a (by omega))) rfl rfl (Nat.le_of_ble_eq_true rfl) ⟨Nat.le_of_ble_eq_true rfl, Nat.le_of_ble_eq_true rfl⟩ rfl (Nat.le_of_ble_eq_true rfl) (fun σ' z hz => ?_)))))))
                      have hq := Qtk.M (b1.fr (fun c k q => by rw [up_ne _ _ _ _ (by omega)])) ht ⟨by omega, by omega⟩ (by rw [up_same]; omega) (fun k a b => by rw [up_ne _ _ _ _ (by decide)]; exact i4 k a (by omega)) hz
                      refine ok_zret 150 rfl rfl rfl (by have := hq.2.2; omega) ?_
                      exact ⟨_, rfl, hq.tr (fr_up fQ (by simp [rgM]))⟩
                    · have cs := b1.2.1 (64 * s + k) (by omega) (by omega)
                      have co := b1.2.1 (64 * o + k) (by omega) (by omega)
                      refine ok_iload_n 84 rfl rfl rfl (ok_i2l 85 rfl rfl (ok_lload 86 rfl rfl rfl (ok_lload 87 rfl rfl rfl (ok_ldiv 88 rfl rfl (by omega) (by omega) (ok_lmul 89 rfl rfl (by first | omega | (simp [up_if]; omega) | (simp [up_if] at *; omega)) (ok_aload_n 90 rfl rfl rfl (ok_getR 91 rfl rfl fl_X12_16 rfl rfl (ok_bipush 92 rfl rfl (by decide) (by decide) (ok_iload_n 93 rfl rfl rfl (ok_imul 94 rfl rfl (by first | omega | (simp [up_if]; omega) | (simp [up_if] at *; omega)) (ok_iload 95 rfl rfl rfl (ok_iadd 96 rfl rfl (by first | omega | (simp [up_if]; omega) | (simp [up_if] at *; omega)) (ok_iald 97 rfl rfl rfl (by first | omega | (simp [up_if]; omega) | (simp [up_if] at *; omega)) (ok_i2l 98 rfl rfl (ok_callSL (M' := M_Mo_grown) (as := [_, _]) 99 rfl rfl ml_X12_226 (s_Mo_grown ⟨by omega, by omega⟩ ⟨by omega, by omega⟩) ⟨Nat.le_of_ble_eq_true rfl, Nat.le_of_ble_eq_true rfl⟩ rfl (Nat.le_of_ble_eq_true rfl) (fun σ' p hp => ?_))))))))))))))))
                      obtain ⟨hs_, hp⟩ := hp
                      rw [hs_]; clear hs_ σ'
                      refine ok_lst16 100 rfl rfl rfl (ok_iload 101 rfl rfl rfl (ok_i2l 102 rfl rfl (ok_lload 103 rfl rfl rfl (ok_lload 104 rfl rfl rfl (ok_ldiv 105 rfl rfl (by omega) (by omega) (ok_lmul 106 rfl rfl (by first | omega | (simp [up_if]; omega) | (simp [up_if] at *; omega)) (ok_aload_n 107 rfl rfl rfl (ok_getR 108 rfl rfl fl_X12_16 rfl rfl (ok_bipush 109 rfl rfl (by decide) (by decide) (ok_iload 110 rfl rfl rfl (ok_imul 111 rfl rfl (by first | omega | (simp [up_if]; omega) | (simp [up_if] at *; omega)) (ok_iload 112 rfl rfl rfl (ok_iadd 113 rfl rfl (by first | omega | (simp [up_if]; omega) | (simp [up_if] at *; omega)) (ok_iald 114 rfl rfl rfl (by first | omega | (simp [up_if]; omega) | (simp [up_if] at *; omega)) (ok_i2l 115 rfl rfl (ok_callSL (M' := M_Mo_grown) (as := [_, _]) 116 rfl rfl ml_X12_226 (s_Mo_grown ⟨by omega, by omega⟩ ⟨by omega, by omega⟩) ⟨Nat.le_of_ble_eq_true rfl, Nat.le_of_ble_eq_true rfl⟩ rfl (Nat.le_of_ble_eq_true rfl) (fun σ' q hq => ?_)))))))))))))))))
                      obtain ⟨hs_, hq⟩ := hq
                      rw [hs_]; clear hs_ σ'
                      refine ok_lst18 117 rfl rfl rfl (ok_lload 118 rfl rfl rfl (ok_lconst (w := 0) 119 rfl rfl rfl (by decide) (ok_lcmp_lt 120 121 234 rfl rfl rfl rfl rfl (fun h211 => ?_) (fun h211 => ?_))))
                      · refine ok_iconst 132 rfl rfl (by decide) (ok_zret 133 rfl rfl rfl (by first | omega | (simp [up_if]; omega) | (simp [up_if] at *; omega)) ?_)
                        exact ⟨_, rfl, fQ, b1, Or.inl rfl⟩
                      · refine ok_lload 122 rfl rfl rfl (ok_lconst (w := 0) 123 rfl rfl rfl (by decide) (ok_lcmp_lt 124 125 234 rfl rfl rfl rfl rfl (fun h218 => ?_) (fun h218 => ?_)))
                        · refine ok_iconst 132 rfl rfl (by decide) (ok_zret 133 rfl rfl rfl (by first | omega | (simp [up_if]; omega) | (simp [up_if] at *; omega)) ?_)
                          exact ⟨_, rfl, fQ, b1, Or.inl rfl⟩
                        · refine ok_lload 126 rfl rfl rfl (ok_lload 127 rfl rfl rfl (ok_ladd 128 rfl rfl (by first | omega | (simp [up_if]; omega) | (simp [up_if] at *; omega)) (ok_ldc2 129 (1000000000000000) rfl rfl kc_X12_217 (by decide) (ok_lcmp_le 130 131 236 rfl rfl rfl rfl rfl (fun h230 => ?_) (fun h230 => ?_)))))
                          · refine ok_aload_n 134 rfl rfl rfl (ok_getR 135 rfl rfl fl_X12_19 rfl rfl (ok_iload 136 rfl rfl rfl (ok_lload 137 rfl rfl rfl (ok_lload 138 rfl rfl rfl (ok_ladd 139 rfl rfl (by first | omega | (simp [up_if]; omega) | (simp [up_if] at *; omega)) (ok_last 140 rfl rfl rfl (by first | omega | (simp [up_if]; omega) | (simp [up_if] at *; omega)) (ok_inc15 141 rfl rfl rfl (by first | omega | (simp [up_if]; omega) | (simp [up_if] at *; omega)) (ok_goto 142 144 rfl rfl rfl ?_))))))))
                            exact ok_fg [some (vr 0), some (vi s), some (vi x), some (vi y), some (vi o), some (vi u), some (vi v), some (vi t), some (vl A), none, some (vl B), none, some (vl F), none, some (vi n), some (vi (k + 1)), none, none, none, none] ⟨rfl, rfl, rfl, rfl, rfl, rfl, rfl, rfl, rfl, rfl, rfl, rfl, rfl, trivial⟩ (ih (k + 1) _ ⟨by omega, by omega, fr_up i3 (by simp), fun j a b => by
                              rw [up_if]
                              split
                              · omega
                              · exact i4 j a (by omega)⟩ (by omega))
                          · refine ok_iconst 132 rfl rfl (by decide) (ok_zret 133 rfl rfl rfl (by first | omega | (simp [up_if]; omega) | (simp [up_if] at *; omega)) ?_)
                            exact ⟨_, rfl, fQ, b1, Or.inl rfl⟩
                  · refine ok_iconst 70 rfl rfl (by decide) (ok_zret 71 rfl rfl rfl (by first | omega | (simp [up_if]; omega) | (simp [up_if] at *; omega)) ?_)
                    exact ⟨_, rfl, fr.rf, hB, Or.inl rfl⟩
                · refine ok_iconst 56 rfl rfl (by decide) (ok_zret 57 rfl rfl rfl (by first | omega | (simp [up_if]; omega) | (simp [up_if] at *; omega)) ?_)
                  exact ⟨_, rfl, fr.rf, hB, Or.inl rfl⟩
            · refine ok_iconst 28 rfl rfl (by decide) (ok_zret 29 rfl rfl rfl (by first | omega | (simp [up_if]; omega) | (simp [up_if] at *; omega)) ?_)
              exact ⟨_, rfl, fr.rf, hB, Or.inl rfl⟩
end
section
theorem s_Mo_turn {σ : eS} {s w r t : Int} (hB : iB1 σ) : MtI shB M_Mo_turn [vr 0, vi s, vi w, vi r, vi t] σ (QM σ) := by
  refine Mt.of okM_Mo_turn (Nat.le_of_ble_eq_true rfl) (fun hk hg => ?_)
  have main : tabB σ s → (0 ≤ t ∧ t < 4) → (0 ≤ w ∧ w ≤ 5) → (3 < w → 0 ≤ r ∧ r < σ 1 s) → Ok shB M_Mo_turn 53 [some (vr 0), some (vi s), some (vi w), some (vi r), some (vi t), none, none, none, none, none] [] σ (fun σ' v => ∃ z, v = some (vi z) ∧ QM σ σ' z) := by
    intro hs ht hw hr
    obtain ⟨s1, s2, s3⟩ := id hs
    obtain ⟨g1, g2, g3⟩ := hB.1 s s1 s2
    obtain ⟨n, en⟩ : ∃ x, x = σ 1 s := ⟨_, rfl⟩
    rw [← en] at hr g1 g2 g3 s3
    obtain ⟨x1, x2⟩ := sq8 (n := n) ⟨by omega, by omega⟩
    refine ok_aload_n 30 rfl rfl rfl (ok_getR 31 rfl rfl fl_X12_7 rfl rfl (ok_iload_n 32 rfl rfl rfl (ok_iald 33 rfl rfl rfl (by first | omega | (simp [up_if]; omega) | (simp [up_if] at *; omega)) (ok_ist5 34 rfl rfl rfl (ok_iconst 35 rfl rfl (by decide) (ok_ist6 36 rfl rfl rfl ?_))))))
    rw [← en]
    refine lpO2 (fun (i : Int) (_ : eS) => [some (vr 0), some (vi s), some (vi w), some (vi r), some (vi t), some (vi n), some (vi i), none, none, none]) (fun _ τ => τ) (fun i τ => 0 ≤ i ∧ i ≤ n ∧ fr (fun c k => (c = 0 ∧ k = 4) ∨ c = 4) σ τ ∧ ∀ k, 0 ≤ k → k < 64 → 0 ≤ τ 4 k) (fun i _ => (n - i).toNat) ?_ 0 σ ⟨by omega, by omega, fr.rf, hB.2.2⟩
    rintro i τ ⟨i1, i2, i3, i4⟩ ih
    refine ok_iload 37 rfl rfl rfl (ok_iload 38 rfl rfl rfl (ok_icmp_ge 39 206 rfl rfl rfl (fun h68 => ?_) (fun h68 => ?_)))
    · obtain ⟨b1, b2⟩ := iB1_M hB i3 i4
      have bs := (b2 s)
      refine ok_aload_n 111 rfl rfl rfl (ok_aload_n 112 rfl rfl rfl (ok_getR 113 rfl rfl fl_X12_13 rfl rfl (ok_iload_n 114 rfl rfl rfl (ok_iald 115 rfl rfl rfl (by first | omega | (simp [up_if]; omega) | (simp [up_if] at *; omega)) (ok_i2l 116 rfl rfl (ok_putL 117 rfl rfl fl_X12_85 rfl rfl rfl rfl (ok_aload_n 118 rfl rfl rfl (ok_iload 119 rfl rfl rfl (ok_iload 120 rfl rfl rfl (ok_callVI (M' := M_Mo_takes) (as := [_, _]) 121 rfl rfl ml_X12_179 (s_Mo_takes ht ⟨by omega, by omega⟩ (by rw [up_same]; omega) (fun k a b => by rw [up_ne _ _ _ _ (by decide)]; exact i4 k a (by omega))) rfl rfl (Nat.le_of_ble_eq_true rfl) ⟨Nat.le_of_ble_eq_true rfl, Nat.le_of_ble_eq_true rfl⟩ rfl (Nat.le_of_ble_eq_true rfl) (fun σ' z hz => ?_)))))))))))
      have hq := Qtk.M (b1.fr (fun c k q => by rw [up_ne _ _ _ _ (by omega)])) ht ⟨by omega, by omega⟩ (by rw [up_same]; omega) (fun k a b => by rw [up_ne _ _ _ _ (by decide)]; exact i4 k a (by omega)) hz
      refine ok_zret 122 rfl rfl rfl (by have := hq.2.2; omega) ?_
      exact ⟨_, rfl, hq.tr (fr_up (i3.mono (fun c k q => by simp only [rgM]; omega)) (by simp [rgM]))⟩
    · refine ok_iconst 40 rfl rfl (by decide) (ok_ist7 41 rfl rfl rfl ?_)
      refine lpO2 (fun (j : Int) (_ : eS) => [some (vr 0), some (vi s), some (vi w), some (vi r), some (vi t), some (vi n), some (vi i), some (vi j), none, none]) (fun _ τ => τ) (fun j τ => 0 ≤ j ∧ j ≤ n ∧ fr (fun c k => (c = 0 ∧ k = 4) ∨ c = 4) σ τ ∧ ∀ k, 0 ≤ k → k < 64 → 0 ≤ τ 4 k) (fun j _ => (n - j).toNat) ?_ 0 τ ⟨by omega, by omega, i3, i4⟩
      clear i3 i4 τ
      rintro j τ ⟨j1, j2, i3, i4⟩ ih2
      obtain ⟨b1, b2⟩ := iB1_M hB i3 i4
      have bs := (b2 s).1
      have inner : j < n → ∀ a b : Int, 0 ≤ a ∧ a < n → 0 ≤ b ∧ b < n → Ok shB M_Mo_turn 171 [some (vr 0), some (vi s), some (vi w), some (vi r), some (vi t), some (vi n), some (vi i), some (vi j), some (vi a), some (vi b)] [] τ (fun σ' v => ∃ z, v = some (vi z) ∧ QM σ σ' z) := by
        intro hj a b ha hb
        obtain ⟨y1, y2, y3, y4⟩ := ix8 (n := n) (i := a) (j := b) ⟨by omega, by omega⟩ ha hb
        have hc := cB_bd b1 ⟨s1, s2⟩ (i := i) (j := j) ⟨by omega, by omega⟩ ⟨by omega, by omega⟩
        refine ok_aload_n 93 rfl rfl rfl (ok_getR 94 rfl rfl fl_X12_19 rfl rfl (ok_iload 95 rfl rfl rfl (ok_iload 96 rfl rfl rfl (ok_imul 97 rfl rfl (by first | omega | (simp [up_if]; omega) | (simp [up_if] at *; omega)) (ok_iload 98 rfl rfl rfl (ok_iadd 99 rfl rfl (by first | omega | (simp [up_if]; omega) | (simp [up_if] at *; omega)) (ok_aload_n 100 rfl rfl rfl (ok_iload_n 101 rfl rfl rfl (ok_iload 102 rfl rfl rfl (ok_iload 103 rfl rfl rfl (ok_callVI (M' := M_Mo_at) (as := [_, _, _]) 104 rfl rfl ml_X12_107 (s_Mo_at b1 ⟨s1, s2⟩ ⟨by omega, by omega⟩ ⟨by omega, by omega⟩) rfl rfl (Nat.le_of_ble_eq_true rfl) ⟨Nat.le_of_ble_eq_true rfl, Nat.le_of_ble_eq_true rfl⟩ rfl (Nat.le_of_ble_eq_true rfl) (fun σ' z hz => ?_))))))))))))
        rw [hz.1, hz.2]
        clear hz z σ'
        refine ok_i2l 105 rfl rfl (ok_last 106 rfl rfl rfl (by first | omega | (simp [up_if]; omega) | (simp [up_if] at *; omega)) (ok_inc7 107 rfl rfl rfl (by first | omega | (simp [up_if]; omega) | (simp [up_if] at *; omega)) (ok_goto 108 74 rfl rfl rfl ?_)))
        exact ok_fg [some (vr 0), some (vi s), some (vi w), some (vi r), some (vi t), some (vi n), some (vi i), some (vi (j + 1)), none, none] ⟨rfl, rfl, rfl, rfl, rfl, rfl, rfl, rfl, trivial⟩ (ih2 (j + 1) _ ⟨by omega, by omega, fr_up i3 (by simp), fun k a b => by
          rw [up_if]
          split
          · omega
          · exact i4 k a b⟩ (by omega))
      refine ok_iload 42 rfl rfl rfl (ok_iload 43 rfl rfl rfl (ok_icmp_ge 44 200 rfl rfl rfl (fun h78 => ?_) (fun h78 => ?_)))
      · refine ok_inc6 109 rfl rfl rfl (by first | omega | (simp [up_if]; omega) | (simp [up_if] at *; omega)) (ok_goto 110 64 rfl rfl rfl ?_)
        exact ok_fg [some (vr 0), some (vi s), some (vi w), some (vi r), some (vi t), some (vi n), some (vi (i + 1)), none, none, none] ⟨rfl, rfl, rfl, rfl, rfl, rfl, rfl, trivial⟩ (ih (i + 1) τ ⟨by omega, by omega, i3, i4⟩ (by omega))
      · refine ok_iload_n 45 rfl rfl rfl (ok_iconst 46 rfl rfl (by decide) (ok_icmp_ne 47 91 rfl rfl rfl (fun h83 => ?_) (fun h83 => ?_)))
        · refine ok_iload_n 50 rfl rfl rfl (ok_iconst 51 rfl rfl (by decide) (ok_icmp_ne 52 106 rfl rfl rfl (fun h93 => ?_) (fun h93 => ?_)))
          · refine ok_iload_n 59 rfl rfl rfl (ok_iconst 60 rfl rfl (by decide) (ok_icmp_ne 61 122 rfl rfl rfl (fun h108 => ?_) (fun h108 => ?_)))
            · refine ok_iload 67 rfl rfl rfl (ok_ist8 68 rfl rfl rfl (ok_iload_n 69 rfl rfl rfl (ok_iconst 70 rfl rfl (by decide) (ok_icmp_ne 71 136 rfl rfl rfl (fun h128 => ?_) (fun h128 => ?_)))))
              · refine ok_iload_n 74 rfl rfl rfl (ok_iconst 75 rfl rfl (by decide) (ok_icmp_ne 76 151 rfl rfl rfl (fun h138 => ?_) (fun h138 => ?_)))
                · refine ok_iload_n 83 rfl rfl rfl (ok_iconst 84 rfl rfl (by decide) (ok_icmp_ne 85 167 rfl rfl rfl (fun h153 => ?_) (fun h153 => ?_)))
                  · refine ok_iload 91 rfl rfl rfl (ok_ist9 92 rfl rfl rfl ?_)
                    exact inner (by omega) _ _ ⟨by omega, by omega⟩ ⟨by omega, by omega⟩
                  · refine ok_iload 86 rfl rfl rfl (ok_iload_n 87 rfl rfl rfl (ok_iload 88 rfl rfl rfl (ok_callSI (M' := M_Mo_behind) (as := [_, _, _]) 89 rfl rfl ml_X12_231 (s_Mo_behind ⟨by omega, by omega, by omega, by omega⟩) ⟨Nat.le_of_ble_eq_true rfl, Nat.le_of_ble_eq_true rfl⟩ rfl (Nat.le_of_ble_eq_true rfl) (fun σ' z2 q3 => ?_))))
                    obtain ⟨hs_, q3⟩ := q3
                    rw [hs_]; clear hs_ σ'
                    have q4 : 0 ≤ z2 ∧ z2 < n := by rw [q3]; split; omega; split <;> omega
                    refine ok_goto 90 169 rfl rfl rfl (ok_ist9 92 rfl rfl rfl ?_)
                    exact inner (by omega) _ _ ⟨by omega, by omega⟩ ⟨by omega, by omega⟩
                · refine ok_iload 77 rfl rfl rfl (ok_iconst 78 rfl rfl (by decide) (ok_isub 79 rfl rfl (by first | omega | (simp [up_if]; omega) | (simp [up_if] at *; omega)) (ok_iload 80 rfl rfl rfl (ok_isub 81 rfl rfl (by first | omega | (simp [up_if]; omega) | (simp [up_if] at *; omega)) (ok_goto 82 169 rfl rfl rfl (ok_ist9 92 rfl rfl rfl ?_))))))
                  exact inner (by omega) _ _ ⟨by omega, by omega⟩ ⟨by omega, by omega⟩
              · refine ok_iload 72 rfl rfl rfl (ok_goto 73 169 rfl rfl rfl (ok_ist9 92 rfl rfl rfl ?_))
                exact inner (by omega) _ _ ⟨by omega, by omega⟩ ⟨by omega, by omega⟩
            · refine ok_iload 62 rfl rfl rfl (ok_iload_n 63 rfl rfl rfl (ok_iload 64 rfl rfl rfl (ok_callSI (M' := M_Mo_behind) (as := [_, _, _]) 65 rfl rfl ml_X12_231 (s_Mo_behind ⟨by omega, by omega, by omega, by omega⟩) ⟨Nat.le_of_ble_eq_true rfl, Nat.le_of_ble_eq_true rfl⟩ rfl (Nat.le_of_ble_eq_true rfl) (fun σ' z1 q1 => ?_))))
              obtain ⟨hs_, q1⟩ := q1
              rw [hs_]; clear hs_ σ'
              have q2 : 0 ≤ z1 ∧ z1 < n := by rw [q1]; split; omega; split <;> omega
              refine ok_goto 66 124 rfl rfl rfl (ok_ist8 68 rfl rfl rfl (ok_iload_n 69 rfl rfl rfl (ok_iconst 70 rfl rfl (by decide) (ok_icmp_ne 71 136 rfl rfl rfl (fun h128 => ?_) (fun h128 => ?_)))))
              · refine ok_iload_n 74 rfl rfl rfl (ok_iconst 75 rfl rfl (by decide) (ok_icmp_ne 76 151 rfl rfl rfl (fun h138 => ?_) (fun h138 => ?_)))
                · refine ok_iload_n 83 rfl rfl rfl (ok_iconst 84 rfl rfl (by decide) (ok_icmp_ne 85 167 rfl rfl rfl (fun h153 => ?_) (fun h153 => ?_)))
                  · refine ok_iload 91 rfl rfl rfl (ok_ist9 92 rfl rfl rfl ?_)
                    exact inner (by omega) _ _ ⟨by omega, by omega⟩ ⟨by omega, by omega⟩
                  · refine ok_iload 86 rfl rfl rfl (ok_iload_n 87 rfl rfl rfl (ok_iload 88 rfl rfl rfl (ok_callSI (M' := M_Mo_behind) (as := [_, _, _]) 89 rfl rfl ml_X12_231 (s_Mo_behind ⟨by omega, by omega, by omega, by omega⟩) ⟨Nat.le_of_ble_eq_true rfl, Nat.le_of_ble_eq_true rfl⟩ rfl (Nat.le_of_ble_eq_true rfl) (fun σ' z2 q3 => ?_))))
                    obtain ⟨hs_, q3⟩ := q3
                    rw [hs_]; clear hs_ σ'
                    have q4 : 0 ≤ z2 ∧ z2 < n := by rw [q3]; split; omega; split <;> omega
                    refine ok_goto 90 169 rfl rfl rfl (ok_ist9 92 rfl rfl rfl ?_)
                    exact inner (by omega) _ _ ⟨by omega, by omega⟩ ⟨by omega, by omega⟩
                · refine ok_iload 77 rfl rfl rfl (ok_iconst 78 rfl rfl (by decide) (ok_isub 79 rfl rfl (by first | omega | (simp [up_if]; omega) | (simp [up_if] at *; omega)) (ok_iload 80 rfl rfl rfl (ok_isub 81 rfl rfl (by first | omega | (simp [up_if]; omega) | (simp [up_if] at *; omega)) (ok_goto 82 169 rfl rfl rfl (ok_ist9 92 rfl rfl rfl ?_))))))
                  exact inner (by omega) _ _ ⟨by omega, by omega⟩ ⟨by omega, by omega⟩
              · refine ok_iload 72 rfl rfl rfl (ok_goto 73 169 rfl rfl rfl (ok_ist9 92 rfl rfl rfl ?_))
                exact inner (by omega) _ _ ⟨by omega, by omega⟩ ⟨by omega, by omega⟩
          · refine ok_iload 53 rfl rfl rfl (ok_iconst 54 rfl rfl (by decide) (ok_isub 55 rfl rfl (by first | omega | (simp [up_if]; omega) | (simp [up_if] at *; omega)) (ok_iload 56 rfl rfl rfl (ok_isub 57 rfl rfl (by first | omega | (simp [up_if]; omega) | (simp [up_if] at *; omega)) (ok_goto 58 124 rfl rfl rfl (ok_ist8 68 rfl rfl rfl (ok_iload_n 69 rfl rfl rfl (ok_iconst 70 rfl rfl (by decide) (ok_icmp_ne 71 136 rfl rfl rfl (fun h128 => ?_) (fun h128 => ?_))))))))))
            · refine ok_iload_n 74 rfl rfl rfl (ok_iconst 75 rfl rfl (by decide) (ok_icmp_ne 76 151 rfl rfl rfl (fun h138 => ?_) (fun h138 => ?_)))
              · refine ok_iload_n 83 rfl rfl rfl (ok_iconst 84 rfl rfl (by decide) (ok_icmp_ne 85 167 rfl rfl rfl (fun h153 => ?_) (fun h153 => ?_)))
                · refine ok_iload 91 rfl rfl rfl (ok_ist9 92 rfl rfl rfl ?_)
                  exact inner (by omega) _ _ ⟨by omega, by omega⟩ ⟨by omega, by omega⟩
                · refine ok_iload 86 rfl rfl rfl (ok_iload_n 87 rfl rfl rfl (ok_iload 88 rfl rfl rfl (ok_callSI (M' := M_Mo_behind) (as := [_, _, _]) 89 rfl rfl ml_X12_231 (s_Mo_behind ⟨by omega, by omega, by omega, by omega⟩) ⟨Nat.le_of_ble_eq_true rfl, Nat.le_of_ble_eq_true rfl⟩ rfl (Nat.le_of_ble_eq_true rfl) (fun σ' z2 q3 => ?_))))
                  obtain ⟨hs_, q3⟩ := q3
                  rw [hs_]; clear hs_ σ'
                  have q4 : 0 ≤ z2 ∧ z2 < n := by rw [q3]; split; omega; split <;> omega
                  refine ok_goto 90 169 rfl rfl rfl (ok_ist9 92 rfl rfl rfl ?_)
                  exact inner (by omega) _ _ ⟨by omega, by omega⟩ ⟨by omega, by omega⟩
              · refine ok_iload 77 rfl rfl rfl (ok_iconst 78 rfl rfl (by decide) (ok_isub 79 rfl rfl (by first | omega | (simp [up_if]; omega) | (simp [up_if] at *; omega)) (ok_iload 80 rfl rfl rfl (ok_isub 81 rfl rfl (by first | omega | (simp [up_if]; omega) | (simp [up_if] at *; omega)) (ok_goto 82 169 rfl rfl rfl (ok_ist9 92 rfl rfl rfl ?_))))))
                exact inner (by omega) _ _ ⟨by omega, by omega⟩ ⟨by omega, by omega⟩
            · refine ok_iload 72 rfl rfl rfl (ok_goto 73 169 rfl rfl rfl (ok_ist9 92 rfl rfl rfl ?_))
              exact inner (by omega) _ _ ⟨by omega, by omega⟩ ⟨by omega, by omega⟩
        · refine ok_iload 48 rfl rfl rfl (ok_goto 49 124 rfl rfl rfl (ok_ist8 68 rfl rfl rfl (ok_iload_n 69 rfl rfl rfl (ok_iconst 70 rfl rfl (by decide) (ok_icmp_ne 71 136 rfl rfl rfl (fun h128 => ?_) (fun h128 => ?_))))))
          · refine ok_iload_n 74 rfl rfl rfl (ok_iconst 75 rfl rfl (by decide) (ok_icmp_ne 76 151 rfl rfl rfl (fun h138 => ?_) (fun h138 => ?_)))
            · refine ok_iload_n 83 rfl rfl rfl (ok_iconst 84 rfl rfl (by decide) (ok_icmp_ne 85 167 rfl rfl rfl (fun h153 => ?_) (fun h153 => ?_)))
              · refine ok_iload 91 rfl rfl rfl (ok_ist9 92 rfl rfl rfl ?_)
                exact inner (by omega) _ _ ⟨by omega, by omega⟩ ⟨by omega, by omega⟩
              · refine ok_iload 86 rfl rfl rfl (ok_iload_n 87 rfl rfl rfl (ok_iload 88 rfl rfl rfl (ok_callSI (M' := M_Mo_behind) (as := [_, _, _]) 89 rfl rfl ml_X12_231 (s_Mo_behind ⟨by omega, by omega, by omega, by omega⟩) ⟨Nat.le_of_ble_eq_true rfl, Nat.le_of_ble_eq_true rfl⟩ rfl (Nat.le_of_ble_eq_true rfl) (fun σ' z2 q3 => ?_))))
                obtain ⟨hs_, q3⟩ := q3
                rw [hs_]; clear hs_ σ'
                have q4 : 0 ≤ z2 ∧ z2 < n := by rw [q3]; split; omega; split <;> omega
                refine ok_goto 90 169 rfl rfl rfl (ok_ist9 92 rfl rfl rfl ?_)
                exact inner (by omega) _ _ ⟨by omega, by omega⟩ ⟨by omega, by omega⟩
            · refine ok_iload 77 rfl rfl rfl (ok_iconst 78 rfl rfl (by decide) (ok_isub 79 rfl rfl (by first | omega | (simp [up_if]; omega) | (simp [up_if] at *; omega)) (ok_iload 80 rfl rfl rfl (ok_isub 81 rfl rfl (by first | omega | (simp [up_if]; omega) | (simp [up_if] at *; omega)) (ok_goto 82 169 rfl rfl rfl (ok_ist9 92 rfl rfl rfl ?_))))))
              exact inner (by omega) _ _ ⟨by omega, by omega⟩ ⟨by omega, by omega⟩
          · refine ok_iload 72 rfl rfl rfl (ok_goto 73 169 rfl rfl rfl (ok_ist9 92 rfl rfl rfl ?_))
            exact inner (by omega) _ _ ⟨by omega, by omega⟩ ⟨by omega, by omega⟩
  refine ok_aload_n 0 rfl rfl rfl (ok_iload_n 1 rfl rfl rfl (ok_callVI (M' := M_Mo_isTable) (as := [_]) 2 rfl rfl ml_X12_111 (s_Mo_isTable_r) rfl rfl (Nat.le_of_ble_eq_true rfl) ⟨Nat.le_of_ble_eq_true rfl, Nat.le_of_ble_eq_true rfl⟩ rfl (Nat.le_of_ble_eq_true rfl) (fun σ' z1 a1 => ?_)))
  obtain ⟨hs_, a1⟩ := a1
  rw [hs_]; clear hs_ σ'
  refine ok_if_eq 3 51 rfl rfl rfl (fun h5 => ?_) (fun h5 => ?_)
  · refine ok_iconst 28 rfl rfl (by decide) (ok_zret 29 rfl rfl rfl (by first | omega | (simp [up_if]; omega) | (simp [up_if] at *; omega)) ?_)
    exact ⟨_, rfl, fr.rf, hB, Or.inl rfl⟩
  · have hs : tabB σ s := yes1 a1 h5
    obtain ⟨s1, s2, s3⟩ := id hs
    obtain ⟨g1, g2, g3⟩ := hB.1 s s1 s2
    refine ok_iload 4 rfl rfl rfl (ok_callSI (M' := M_Mo_isSlot) (as := [_]) 5 rfl rfl ml_X12_103 (s_Mo_isSlot_r) ⟨Nat.le_of_ble_eq_true rfl, Nat.le_of_ble_eq_true rfl⟩ rfl (Nat.le_of_ble_eq_true rfl) (fun σ' z2 a2 => ?_))
    obtain ⟨hs_, a2⟩ := a2
    rw [hs_]; clear hs_ σ'
    refine ok_if_eq 6 51 rfl rfl rfl (fun h13 => ?_) (fun h13 => ?_)
    · refine ok_iconst 28 rfl rfl (by decide) (ok_zret 29 rfl rfl rfl (by first | omega | (simp [up_if]; omega) | (simp [up_if] at *; omega)) ?_)
      exact ⟨_, rfl, fr.rf, hB, Or.inl rfl⟩
    · refine ok_iload_n 7 rfl rfl rfl (ok_i2l 8 rfl rfl (ok_lconst (w := 0) 9 rfl rfl rfl (by decide) (ok_ldc2 10 (5) rfl rfl kc_X12_229 (by decide) (ok_callSI (M' := M_Mo_isIn) (as := [_, _, _]) 11 rfl rfl ml_X12_99 (s_Mo_isIn_r) ⟨Nat.le_of_ble_eq_true rfl, Nat.le_of_ble_eq_true rfl⟩ rfl (Nat.le_of_ble_eq_true rfl) (fun σ' z3 a3 => ?_)))))
      obtain ⟨hs_, a3⟩ := a3
      rw [hs_]; clear hs_ σ'
      refine ok_if_eq 12 51 rfl rfl rfl (fun h25 => ?_) (fun h25 => ?_)
      · refine ok_iconst 28 rfl rfl (by decide) (ok_zret 29 rfl rfl rfl (by first | omega | (simp [up_if]; omega) | (simp [up_if] at *; omega)) ?_)
        exact ⟨_, rfl, fr.rf, hB, Or.inl rfl⟩
      · refine ok_iload_n 13 rfl rfl rfl (ok_iconst 14 rfl rfl (by decide) (ok_icmp_le 15 53 rfl rfl rfl (fun h30 => ?_) (fun h30 => ?_)))
        · have t2 := yes1 a2 h13
          have t3 := yes1 a3 h25
          first | exact main hs t2 t3 (fun q => by omega) | exact main hs t2 t3 (fun _ => by have := yes1 a4 h48; omega)
        · refine ok_iload_n 16 rfl rfl rfl (ok_i2l 17 rfl rfl (ok_lconst (w := 0) 18 rfl rfl rfl (by decide) (ok_aload_n 19 rfl rfl rfl (ok_getR 20 rfl rfl fl_X12_7 rfl rfl (ok_iload_n 21 rfl rfl rfl (ok_iald 22 rfl rfl rfl (by first | omega | (simp [up_if]; omega) | (simp [up_if] at *; omega)) (ok_iconst 23 rfl rfl (by decide) (ok_isub 24 rfl rfl (by first | omega | (simp [up_if]; omega) | (simp [up_if] at *; omega)) (ok_i2l 25 rfl rfl (ok_callSI (M' := M_Mo_isIn) (as := [_, _, _]) 26 rfl rfl ml_X12_99 (s_Mo_isIn_r) ⟨Nat.le_of_ble_eq_true rfl, Nat.le_of_ble_eq_true rfl⟩ rfl (Nat.le_of_ble_eq_true rfl) (fun σ' z4 a4 => ?_)))))))))))
          obtain ⟨hs_, a4⟩ := a4
          rw [hs_]; clear hs_ σ'
          refine ok_if_ne 27 53 rfl rfl rfl (fun h48 => ?_) (fun h48 => ?_)
          · have t2 := yes1 a2 h13
            have t3 := yes1 a3 h25
            first | exact main hs t2 t3 (fun q => by omega) | exact main hs t2 t3 (fun _ => by have := yes1 a4 h48; omega)
          · refine ok_iconst 28 rfl rfl (by decide) (ok_zret 29 rfl rfl rfl (by first | omega | (simp [up_if]; omega) | (simp [up_if] at *; omega)) ?_)
            exact ⟨_, rfl, fr.rf, hB, Or.inl rfl⟩
end
section
/-! small sets as numbers below 256 -/
theorem fin2 {P : Int → Int → Prop} (h : ∀ s : Fin 256, ∀ j : Fin 8, P (s.val : Int) (j.val : Int)) {s j : Int} (h1 : 0 ≤ s) (h2 : s < 256) (h3 : 0 ≤ j) (h4 : j < 8) : P s j := by
  obtain ⟨a, rfl⟩ := Int.eq_ofNat_of_zero_le h1
  obtain ⟨b, rfl⟩ := Int.eq_ofNat_of_zero_le h3
  exact h ⟨a, by omega⟩ ⟨b, by omega⟩
theorem fin1 {P : Int → Prop} (h : ∀ s : Fin 256, P (s.val : Int)) {s : Int} (h1 : 0 ≤ s) (h2 : s < 256) : P s := by
  obtain ⟨a, rfl⟩ := Int.eq_ofNat_of_zero_le h1
  exact h ⟨a, by omega⟩
theorem fin9 {P : Int → Int → Prop} (h : ∀ s : Fin 256, ∀ j : Fin 9, P (s.val : Int) (j.val : Int)) {s j : Int} (h1 : 0 ≤ s) (h2 : s < 256) (h3 : 0 ≤ j) (h4 : j ≤ 8) : P s j := by
  obtain ⟨a, rfl⟩ := Int.eq_ofNat_of_zero_le h1
  obtain ⟨b, rfl⟩ := Int.eq_ofNat_of_zero_le h3
  exact h ⟨a, by omega⟩ ⟨b, by omega⟩
def bt (s j : Int) : Bool := s.toNat.testBit j.toNat
def sB (s j : Int) : Int := ((s.toNat ||| 2 ^ j.toNat : Nat) : Int)
def pc (s : Int) : Int := s % 2 + s / 2 % 2 + s / 4 % 2 + s / 8 % 2 + s / 16 % 2 + s / 32 % 2 + s / 64 % 2 + s / 128 % 2
def p2 (n : Int) : Int := ((2 ^ n.toNat : Nat) : Int)
theorem bit_get : ∀ s : Fin 256, ∀ j : Fin 8, iand (ishr (s.val : Int) (j.val : Int)) 1 = if bt (s.val : Int) (j.val : Int) = true then 1 else 0 := by decide +kernel
theorem bit_put : ∀ s : Fin 256, ∀ j : Fin 8, ior (s.val : Int) (ishl 1 (j.val : Int)) = sB (s.val : Int) (j.val : Int) := by decide +kernel
theorem bit_pc : ∀ s : Fin 256, ∀ j : Fin 8, bt (s.val : Int) (j.val : Int) = false → pc (sB (s.val : Int) (j.val : Int)) = pc (s.val : Int) + 1 ∧ (s.val : Int) < sB (s.val : Int) (j.val : Int) := by decide +kernel
theorem bit_lt : ∀ s : Fin 256, ∀ n : Fin 9, ((s.val : Int) < p2 (n.val : Int) - 1 → pc (s.val : Int) < (n.val : Int)) ∧ ((s.val : Int) = p2 (n.val : Int) - 1 → pc (s.val : Int) = (n.val : Int)) ∧ 0 ≤ pc (s.val : Int) ∧ pc (s.val : Int) ≤ 8 := by decide +kernel
theorem bit_half : ∀ s : Fin 256, pc (s.val : Int) = (s.val : Int) % 2 + pc ((s.val : Int) / 2) := by decide +kernel
theorem p2_bd : ∀ n : Fin 9, ishl 1 (n.val : Int) = p2 (n.val : Int) ∧ 1 ≤ p2 (n.val : Int) ∧ p2 (n.val : Int) ≤ 256 ∧ (1 ≤ (n.val : Int) → 2 ≤ p2 (n.val : Int)) := by decide +kernel
theorem bitG {s j : Int} (h1 : 0 ≤ s ∧ s < 256) (h2 : 0 ≤ j ∧ j < 8) : iand (ishr s j) 1 = if bt s j = true then 1 else 0 := fin2 (P := fun s j => iand (ishr s j) 1 = if bt s j = true then 1 else 0) bit_get h1.1 h1.2 h2.1 h2.2
theorem bitP {s j : Int} (h1 : 0 ≤ s ∧ s < 256) (h2 : 0 ≤ j ∧ j < 8) : ior s (ishl 1 j) = sB s j := fin2 (P := fun s j => ior s (ishl 1 j) = sB s j) bit_put h1.1 h1.2 h2.1 h2.2
theorem bitC {s j : Int} (h1 : 0 ≤ s ∧ s < 256) (h2 : 0 ≤ j ∧ j < 8) (h : bt s j = false) : pc (sB s j) = pc s + 1 ∧ s < sB s j := fin2 (P := fun s j => bt s j = false → pc (sB s j) = pc s + 1 ∧ s < sB s j) bit_pc h1.1 h1.2 h2.1 h2.2 h
theorem bitL {s n : Int} (h1 : 0 ≤ s ∧ s < 256) (h2 : 0 ≤ n ∧ n ≤ 8) : (s < p2 n - 1 → pc s < n) ∧ (s = p2 n - 1 → pc s = n) ∧ 0 ≤ pc s ∧ pc s ≤ 8 := fin9 (P := fun s n => (s < p2 n - 1 → pc s < n) ∧ (s = p2 n - 1 → pc s = n) ∧ 0 ≤ pc s ∧ pc s ≤ 8) bit_lt h1.1 h1.2 h2.1 h2.2
theorem bitH {s : Int} (h1 : 0 ≤ s ∧ s < 256) : pc s = s % 2 + pc (s / 2) := fin1 (P := fun s => pc s = s % 2 + pc (s / 2)) bit_half h1.1 h1.2
theorem bit2 {n : Int} (h : 0 ≤ n ∧ n ≤ 8) : ishl 1 n = p2 n ∧ 1 ≤ p2 n ∧ p2 n ≤ 256 ∧ (1 ≤ n → 2 ≤ p2 n) := by
  obtain ⟨b, rfl⟩ := Int.eq_ofNat_of_zero_le h.1
  exact p2_bd ⟨b, by omega⟩
theorem bt_sB {s j k : Int} (hj : 0 ≤ j) (hk : 0 ≤ k) : bt (sB s j) k = (bt s k || decide (k = j)) := by
  unfold bt sB
  rw [Int.toNat_natCast, Nat.testBit_or, Nat.testBit_two_pow]
  congr 1
  by_cases h : k = j
  · subst h; simp
  · have : j.toNat ≠ k.toNat := by omega
    simp [h, this]
theorem sB_lt {s j n : Int} (h1 : 0 ≤ s ∧ s < p2 n) (h2 : 0 ≤ j ∧ j < n) : 0 ≤ sB s j ∧ sB s j < p2 n := by
  refine ⟨by unfold sB; omega, ?_⟩
  unfold sB p2 at *
  have a : s.toNat < 2 ^ n.toNat := by omega
  have b : 2 ^ j.toNat < 2 ^ n.toNat := Nat.pow_lt_pow_right (by decide) (by omega)
  have := Nat.or_lt_two_pow a b
  omega
theorem bt_0 (j : Int) : bt 0 j = false := by simp [bt]
/-! existence of a pairing by weights: rows of a set find different columns -/
def s2 (f : Nat → Int) : Nat → Int
  | 0 => 0
  | n + 1 => s2 f n + f n
theorem s2_cg {f g : Nat → Int} : ∀ {n : Nat}, (∀ k, k < n → f k = g k) → s2 f n = s2 g n
  | 0, _ => rfl
  | n + 1, h => by
    show s2 f n + f n = s2 g n + g n
    rw [s2_cg (fun k hk => h k (by omega)), h n (by omega)]
theorem s2_le {f g : Nat → Int} : ∀ {n : Nat}, (∀ k, k < n → f k ≤ g k) → s2 f n ≤ s2 g n
  | 0, _ => Int.le_refl _
  | n + 1, h => by
    have h1 := s2_le (n := n) (fun k hk => h k (by omega))
    have h2 := h n (by omega)
    show s2 f n + f n ≤ s2 g n + g n
    omega
theorem s2_add (f g : Nat → Int) : ∀ n, s2 (fun k => f k + g k) n = s2 f n + s2 g n
  | 0 => rfl
  | n + 1 => by
    have h := s2_add f g n
    show s2 (fun k => f k + g k) n + (f n + g n) = s2 f n + f n + (s2 g n + g n)
    omega
theorem s2_sub (f g : Nat → Int) : ∀ n, s2 (fun k => f k - g k) n = s2 f n - s2 g n
  | 0 => rfl
  | n + 1 => by
    have h := s2_sub f g n
    show s2 (fun k => f k - g k) n + (f n - g n) = s2 f n + f n - (s2 g n + g n)
    omega
theorem s2_mul (f : Nat → Int) (c : Int) : ∀ n, s2 (fun k => f k * c) n = s2 f n * c
  | 0 => by show (0 : Int) = 0 * c; omega
  | n + 1 => by
    have h := s2_mul f c n
    show s2 (fun k => f k * c) n + f n * c = (s2 f n + f n) * c
    rw [h, Int.add_mul]
theorem s2_0 : ∀ n, s2 (fun _ => 0) n = 0
  | 0 => rfl
  | n + 1 => by
    show s2 (fun _ => 0) n + 0 = 0
    rw [s2_0 n]; rfl
theorem s2_nn {f : Nat → Int} {n : Nat} (h : ∀ k, k < n → 0 ≤ f k) : 0 ≤ s2 f n := by
  have := s2_le (f := fun _ => 0) (g := f) (n := n) h
  rwa [s2_0] at this
theorem s2_swap (f : Nat → Nat → Int) (m : Nat) : ∀ n, s2 (fun i => s2 (f i) m) n = s2 (fun j => s2 (fun i => f i j) n) m
  | 0 => by
    show (0 : Int) = s2 (fun _ => 0) m
    rw [s2_0]
  | n + 1 => by
    have h := s2_swap f m n
    show s2 (fun i => s2 (f i) m) n + s2 (f n) m = s2 (fun j => s2 (fun i => f i j) n + f n j) m
    rw [h, s2_add]
/-- one place alone -/
theorem s2_one {x : Nat} (v : Nat → Int) : ∀ {n : Nat}, x < n → s2 (fun k => if k = x then v k else 0) n = v x
  | n + 1, h => by
    show s2 (fun k => if k = x then v k else 0) n + (if n = x then v n else 0) = v x
    by_cases q : n = x
    · subst q
      rw [if_pos rfl]
      have : s2 (fun k => if k = n then v k else 0) n = s2 (fun _ => 0) n := s2_cg (fun k hk => if_neg (by omega))
      rw [this, s2_0]
      omega
    · rw [if_neg q, s2_one v (by omega)]
      omega
theorem s2_part {f : Nat → Int} {x : Nat} : ∀ {n : Nat}, (∀ k, k < n → 0 ≤ f k) → x < n → f x ≤ s2 f n
  | n + 1, h, hx => by
    have h1 := s2_nn (f := f) (n := n) (fun k hk => h k (by omega))
    have h2 := h n (by omega)
    show f x ≤ s2 f n + f n
    by_cases q : x = n
    · subst q; omega
    · have := s2_part (n := n) (fun k hk => h k (by omega)) (by omega : x < n)
      omega
end
section
def anyN (p : Nat → Bool) : Nat → Bool
  | 0 => false
  | n + 1 => anyN p n || p n
theorem anyN_iff {p : Nat → Bool} : ∀ {n : Nat}, anyN p n = true ↔ ∃ k, k < n ∧ p k = true
  | 0 => by
    constructor
    · intro h; cases h
    · rintro ⟨k, h, -⟩; omega
  | n + 1 => by
    show (anyN p n || p n) = true ↔ _
    rw [Bool.or_eq_true, anyN_iff (n := n)]
    constructor
    · rintro (⟨k, h1, h2⟩ | h)
      · exact ⟨k, by omega, h2⟩
      · exact ⟨n, by omega, h⟩
    · rintro ⟨k, h1, h2⟩
      by_cases q : k = n
      · exact Or.inr (q ▸ h2)
      · exact Or.inl ⟨k, by omega, h2⟩
/-- the rows of X have different joined columns by f -/
def Mch (n : Nat) (op : Nat → Nat → Bool) (X : Nat → Bool) (f : Nat → Nat) : Prop := (∀ r, r < n → X r = true → f r < n ∧ op r (f r) = true) ∧ (∀ r r', r < n → r' < n → X r = true → X r' = true → f r = f r' → r = r')
/-- rows that an unpaired row x comes to, by changing pairs -/
def rch (n : Nat) (op : Nat → Nat → Bool) (X : Nat → Bool) (f : Nat → Nat) (x : Nat) : Nat → Nat → Bool
  | 0, r => decide (r = x)
  | d + 1, r => rch n op X f x d r || (X r && anyN (fun r1 => rch n op X f x d r1 && op r1 (f r)) n)
theorem rch_mono {n : Nat} {op : Nat → Nat → Bool} {X : Nat → Bool} {f : Nat → Nat} {x r : Nat} : ∀ {d' d : Nat}, d' ≤ d → rch n op X f x d' r = true → rch n op X f x d r = true := by
  intro d' d h
  induction d with
  | zero => intro q; rwa [show d' = 0 by omega] at q
  | succ d ih =>
    intro q
    by_cases e : d' = d + 1
    · rw [e] at q; exact q
    · show (rch n op X f x d r || _) = true
      rw [ih (by omega) q]; rfl
theorem rch_keep {n : Nat} {op : Nat → Nat → Bool} {X : Nat → Bool} {f : Nat → Nat} {x r c d : Nat} (hr : rch n op X f x d r = false) : ∀ d', d' ≤ d → ∀ r', rch n op X f x d' r' = true → rch n op X (fun k => if k = r then c else f k) x d' r' = true := by
  intro d'
  induction d' with
  | zero => intro _ r' h; exact h
  | succ d' ih =>
    intro hd r' h
    have hne : r' ≠ r := fun q => by
      have := rch_mono hd h
      rw [q, hr] at this
      cases this
    have h1 : (rch n op X f x d' r' || (X r' && anyN (fun r1 => rch n op X f x d' r1 && op r1 (f r')) n)) = true := h
    show (rch n op X (fun k => if k = r then c else f k) x d' r' || (X r' && anyN (fun r1 => rch n op X (fun k => if k = r then c else f k) x d' r1 && op r1 (if r' = r then c else f r')) n)) = true
    rw [if_neg hne]
    rw [Bool.or_eq_true] at h1 ⊢
    rcases h1 with h1 | h1
    · exact Or.inl (ih (by omega) r' h1)
    · refine Or.inr ?_
      rw [Bool.and_eq_true] at h1 ⊢
      refine ⟨h1.1, anyN_iff.mpr ?_⟩
      obtain ⟨r1, a, b⟩ := anyN_iff.mp h1.2
      rw [Bool.and_eq_true] at b
      exact ⟨r1, a, by rw [Bool.and_eq_true]; exact ⟨ih (by omega) r1 b.1, b.2⟩⟩
theorem aug {n : Nat} {op : Nat → Nat → Bool} {X : Nat → Bool} {x : Nat} (hx : x < n) (hX : X x = false) : ∀ (d : Nat) (f : Nat → Nat) (r c : Nat), Mch n op X f → r < n → c < n → rch n op X f x d r = true → op r c = true → (∀ r', r' < n → X r' = true → f r' ≠ c) → ∃ f', Mch n op (fun k => X k || decide (k = x)) f' := by
  intro d
  induction d with
  | zero =>
    intro f r c hm hr hc h ho hf
    have e : r = x := of_decide_eq_true h
    subst e
    refine ⟨fun k => if k = r then c else f k, fun k hk hX' => ?_, fun k k' hk hk' h1 h2 he => ?_⟩
    · dsimp only at hX' ⊢
      by_cases q : k = r
      · rw [if_pos q, q]; exact ⟨hc, ho⟩
      · rw [if_neg q]
        simp [q] at hX'
        exact hm.1 k hk hX'
    · dsimp only at h1 h2 he
      by_cases q : k = r
      · by_cases q' : k' = r
        · rw [q, q']
        · rw [if_pos q, if_neg q'] at he
          simp [q'] at h2
          exact absurd he.symm (hf k' hk' h2)
      · by_cases q' : k' = r
        · rw [if_neg q, if_pos q'] at he
          simp [q] at h1
          exact absurd he (hf k hk h1)
        · rw [if_neg q, if_neg q'] at he
          simp [q] at h1
          simp [q'] at h2
          exact hm.2 k k' hk hk' h1 h2 he
  | succ d ih =>
    intro f r c hm hr hc h ho hf
    cases hd : rch n op X f x d r with
    | true => exact ih f r c hm hr hc hd ho hf
    | false =>
      have h1 : (rch n op X f x d r || (X r && anyN (fun r1 => rch n op X f x d r1 && op r1 (f r)) n)) = true := h
      rw [hd, Bool.false_or, Bool.and_eq_true] at h1
      obtain ⟨r1, a1, a2⟩ := anyN_iff.mp h1.2
      rw [Bool.and_eq_true] at a2
      have hXr := h1.1
      have hfr := hm.1 r hr hXr
      refine ih (fun k => if k = r then c else f k) r1 (f r) ⟨fun k hk hk2 => ?_, fun k k' hk hk' b1 b2 he => ?_⟩ a1 hfr.1 (rch_keep hd d (Nat.le_refl _) r1 a2.1) a2.2 (fun r' hr' hXr' => ?_)
      · dsimp only
        by_cases q : k = r
        · rw [if_pos q, q]; exact ⟨hc, ho⟩
        · rw [if_neg q]; exact hm.1 k hk hk2
      · dsimp only at he
        by_cases q : k = r
        · by_cases q' : k' = r
          · rw [q, q']
          · rw [if_pos q, if_neg q'] at he
            exact absurd he.symm (hf k' hk' b2)
        · by_cases q' : k' = r
          · rw [if_neg q, if_pos q'] at he
            exact absurd he (hf k hk b1)
          · rw [if_neg q, if_neg q'] at he
            exact hm.2 k k' hk hk' b1 b2 he
      · by_cases q : r' = r
        · rw [if_pos q]
          exact fun z => hf r hr hXr z.symm
        · rw [if_neg q]
          exact fun z => q (hm.2 r' r hr' hr hXr' hXr z)
/-- weights: rows A, columns B; a row's columns of B have m less e, a column's rows m at most; e together below m -/
theorem grow {n : Nat} {w : Nat → Nat → Int} {A B X : Nat → Bool} {e : Nat → Int} {m : Int} {x : Nat} {f : Nat → Nat} (hw : ∀ r c, r < n → c < n → 0 ≤ w r c) (he : ∀ r, r < n → 0 ≤ e r)
    (h1 : ∀ r, r < n → A r = true → m - e r ≤ s2 (fun c => if B c = true then w r c else 0) n) (h2 : ∀ c, c < n → B c = true → s2 (fun r => if A r = true then w r c else 0) n ≤ m) (h3 : s2 (fun r => if A r = true then e r else 0) n < m)
    (hm : Mch n (fun r c => decide (0 < w r c) && B c) X f) (hXA : ∀ r, r < n → X r = true → A r = true) (hx : x < n) (hX : X x = false) (hA : A x = true) : ∃ f', Mch n (fun r c => decide (0 < w r c) && B c) (fun k => X k || decide (k = x)) f' := by
  obtain ⟨op, eop⟩ : ∃ op : Nat → Nat → Bool, op = fun r c => decide (0 < w r c) && B c := ⟨_, rfl⟩
  rw [← eop] at hm ⊢
  by_cases hfree : ∃ d r c, r < n ∧ c < n ∧ rch n op X f x d r = true ∧ op r c = true ∧ ∀ r', r' < n → X r' = true → f r' ≠ c
  · obtain ⟨d, r, c, a1, a2, a3, a4, a5⟩ := hfree
    exact aug hx hX d f r c hm a1 a2 a3 a4 a5
  · exfalso
    obtain ⟨R, hR⟩ : ∃ R : Nat → Bool, ∀ r, R r = true ↔ ∃ d, rch n op X f x d r = true := ⟨fun r => @decide (∃ d, rch n op X f x d r = true) (Classical.propDecidable _), fun r => by simp⟩
    have hRx : R x = true := (hR x).mpr ⟨0, by show decide (x = x) = true; simp⟩
    have hRX : ∀ r, r < n → R r = true → r ≠ x → X r = true := by
      intro r hr hrr hne
      obtain ⟨d, hd⟩ := (hR r).mp hrr
      induction d with
      | zero => exact absurd (of_decide_eq_true hd) hne
      | succ d ih =>
        have : (rch n op X f x d r || (X r && anyN (fun r1 => rch n op X f x d r1 && op r1 (f r)) n)) = true := hd
        rw [Bool.or_eq_true] at this
        rcases this with q | q
        · exact ih q
        · rw [Bool.and_eq_true] at q; exact q.1
    have hRA : ∀ r, r < n → R r = true → A r = true := fun r hr h => by
      by_cases q : r = x
      · rw [q]; exact hA
      · exact hXA r hr (hRX r hr h q)
    have close : ∀ r c, r < n → c < n → R r = true → op r c = true → ∃ r2, r2 < n ∧ R r2 = true ∧ X r2 = true ∧ f r2 = c := by
      intro r c hr hc hrr ho
      obtain ⟨d, hd⟩ := (hR r).mp hrr
      by_cases q : ∃ r2, r2 < n ∧ X r2 = true ∧ f r2 = c
      · obtain ⟨r2, b1, b2, b3⟩ := q
        refine ⟨r2, b1, (hR r2).mpr ⟨d + 1, ?_⟩, b2, b3⟩
        show (rch n op X f x d r2 || (X r2 && anyN (fun r1 => rch n op X f x d r1 && op r1 (f r2)) n)) = true
        rw [b2, Bool.true_and, Bool.or_eq_true]
        exact Or.inr (anyN_iff.mpr ⟨r, hr, by rw [Bool.and_eq_true, b3]; exact ⟨hd, ho⟩⟩)
      · exact absurd ⟨d, r, c, hr, hc, hd, ho, fun r' g1 g2 g3 => q ⟨r', g1, g2, g3⟩⟩ hfree
    -- what the rows of R have lies in columns of R and X
    have key : ∀ r, r < n → R r = true → s2 (fun c => if B c = true then w r c else 0) n ≤ s2 (fun r2 => if R r2 = true ∧ X r2 = true then w r (f r2) else 0) n := by
      intro r hr hrr
      have t1 : s2 (fun c => if B c = true then w r c else 0) n ≤ s2 (fun c => s2 (fun r2 => if R r2 = true ∧ X r2 = true ∧ f r2 = c then w r c else 0) n) n := by
        refine s2_le (fun c hc => ?_)
        have nn : ∀ k, k < n → 0 ≤ (if R k = true ∧ X k = true ∧ f k = c then w r c else 0) := fun k hk => by
          split
          · exact hw r c hr hc
          · exact Int.le_refl _
        by_cases hp : 0 < w r c ∧ B c = true
        · rw [if_pos hp.2]
          obtain ⟨r2, b1, b2, b3, b4⟩ := close r c hr hc hrr (by rw [eop]; simp [hp.1, hp.2])
          have := s2_part (f := fun k => if R k = true ∧ X k = true ∧ f k = c then w r c else 0) nn b1
          rw [if_pos ⟨b2, b3, b4⟩] at this
          exact this
        · have h0 := s2_nn nn
          have h00 := hw r c hr hc
          split
          · next q => have : ¬ 0 < w r c := fun z => hp ⟨z, q⟩; omega
          · exact h0
      refine Int.le_trans t1 ?_
      rw [s2_swap (fun c r2 => if R r2 = true ∧ X r2 = true ∧ f r2 = c then w r c else 0) n n]
      refine s2_le (fun r2 hr2 => ?_)
      by_cases q : R r2 = true ∧ X r2 = true
      · rw [if_pos q]
        have e1 : s2 (fun c => if R r2 = true ∧ X r2 = true ∧ f r2 = c then w r c else 0) n = s2 (fun c => if c = f r2 then w r c else 0) n := s2_cg (fun c hc => by
          by_cases z : c = f r2
          · rw [if_pos z, if_pos ⟨q.1, q.2, z.symm⟩]
          · rw [if_neg z, if_neg (fun y => z y.2.2.symm)])
        rw [e1, s2_one (fun c => w r c) (hm.1 r2 hr2 q.2).1]
        exact Int.le_refl _
      · rw [if_neg q]
        have e1 : s2 (fun c => if R r2 = true ∧ X r2 = true ∧ f r2 = c then w r c else 0) n = s2 (fun _ => 0) n := s2_cg (fun c hc => if_neg (fun y => q ⟨y.1, y.2.1⟩))
        rw [e1, s2_0]
        exact Int.le_refl _
    have c1 : s2 (fun r => if R r = true then m - e r else 0) n ≤ s2 (fun r => if R r = true then s2 (fun r2 => if R r2 = true ∧ X r2 = true then w r (f r2) else 0) n else 0) n := s2_le (fun r hr => by
      by_cases q : R r = true
      · rw [if_pos q, if_pos q]; exact Int.le_trans (h1 r hr (hRA r hr q)) (key r hr q)
      · rw [if_neg q, if_neg q]; exact Int.le_refl _)
    have c2 : s2 (fun r => if R r = true then s2 (fun r2 => if R r2 = true ∧ X r2 = true then w r (f r2) else 0) n else 0) n = s2 (fun r2 => s2 (fun r => if R r = true then (if R r2 = true ∧ X r2 = true then w r (f r2) else 0) else 0) n) n := by
      rw [← s2_swap (fun r r2 => if R r = true then (if R r2 = true ∧ X r2 = true then w r (f r2) else 0) else 0) n n]
      refine s2_cg (fun r hr => ?_)
      by_cases q : R r = true
      · rw [if_pos q]
        exact s2_cg (fun r2 _ => by rw [if_pos q])
      · rw [if_neg q]
        have : s2 (fun r2 => if R r = true then (if R r2 = true ∧ X r2 = true then w r (f r2) else 0) else 0) n = s2 (fun _ => 0) n := s2_cg (fun r2 _ => if_neg q)
        rw [this, s2_0]
    have c3 : s2 (fun r2 => s2 (fun r => if R r = true then (if R r2 = true ∧ X r2 = true then w r (f r2) else 0) else 0) n) n ≤ s2 (fun r2 => if R r2 = true ∧ X r2 = true then m else 0) n := s2_le (fun r2 hr2 => by
      by_cases q : R r2 = true ∧ X r2 = true
      · rw [if_pos q]
        have hf2 := hm.1 r2 hr2 q.2
        have hB2 : B (f r2) = true := by
          have := hf2.2
          rw [eop] at this
          simp at this
          exact this.2
        refine Int.le_trans (s2_le (fun r hr => ?_)) (h2 (f r2) hf2.1 hB2)
        by_cases z : R r = true
        · rw [if_pos z, if_pos q, if_pos (hRA r hr z)]; exact Int.le_refl _
        · rw [if_neg z]
          split
          · exact hw r (f r2) hr hf2.1
          · exact Int.le_refl _
      · rw [if_neg q]
        have : s2 (fun r => if R r = true then (if R r2 = true ∧ X r2 = true then w r (f r2) else 0) else 0) n = s2 (fun _ => 0) n := s2_cg (fun r _ => by rw [if_neg q]; split <;> rfl)
        rw [this, s2_0]
        exact Int.le_refl _)
    have c4 : s2 (fun r => if R r = true then m - e r else 0) n = s2 (fun r => if R r = true ∧ X r = true then m else 0) n + m - s2 (fun r => if R r = true then e r else 0) n := by
      have e1 : s2 (fun r => if R r = true then m - e r else 0) n = s2 (fun r => ((if R r = true ∧ X r = true then m else 0) + (if r = x then m else 0)) - (if R r = true then e r else 0)) n := s2_cg (fun r hr => by
        by_cases q : r = x
        · subst q
          rw [if_pos hRx, if_pos hRx, if_pos rfl, if_neg (by rw [hX]; simp)]
          omega
        · by_cases z : R r = true
          · rw [if_pos z, if_pos z, if_neg q, if_pos ⟨z, hRX r hr z q⟩]
            omega
          · rw [if_neg z, if_neg z, if_neg q, if_neg (fun y => z y.1)]
            omega)
      rw [e1, s2_sub, s2_add, s2_one (fun _ => m) hx]
    have c5 : s2 (fun r => if R r = true then e r else 0) n ≤ s2 (fun r => if A r = true then e r else 0) n := s2_le (fun r hr => by
      by_cases z : R r = true
      · rw [if_pos z, if_pos (hRA r hr z)]; exact Int.le_refl _
      · rw [if_neg z]
        split
        · exact he r hr
        · exact Int.le_refl _)
    omega
theorem hall {n : Nat} {w : Nat → Nat → Int} {A B : Nat → Bool} {e : Nat → Int} {m : Int} (hw : ∀ r c, r < n → c < n → 0 ≤ w r c) (he : ∀ r, r < n → 0 ≤ e r)
    (h1 : ∀ r, r < n → A r = true → m - e r ≤ s2 (fun c => if B c = true then w r c else 0) n) (h2 : ∀ c, c < n → B c = true → s2 (fun r => if A r = true then w r c else 0) n ≤ m) (h3 : s2 (fun r => if A r = true then e r else 0) n < m) : ∃ f, Mch n (fun r c => decide (0 < w r c) && B c) A f := by
  have key : ∀ k, k ≤ n → ∃ f, Mch n (fun r c => decide (0 < w r c) && B c) (fun r => A r && decide (r < k)) f := by
    intro k
    induction k with
    | zero =>
      intro _
      exact ⟨fun _ => 0, fun r hr h => by simp at h, fun r r' hr hr' h => by simp at h⟩
    | succ k ih =>
      intro hk
      obtain ⟨f, hf⟩ := ih (by omega)
      cases hA : A k with
      | false =>
        have cv : ∀ r, (A r && decide (r < k + 1)) = true → (A r && decide (r < k)) = true := fun r h => by
          rw [Bool.and_eq_true] at h ⊢
          refine ⟨h.1, decide_eq_true ?_⟩
          have h2 := of_decide_eq_true h.2
          have h3 : r ≠ k := fun q => by rw [q, hA] at h; cases h.1
          omega
        exact ⟨f, fun r hr h => hf.1 r hr (cv r h), fun r r' hr hr' g g' => hf.2 r r' hr hr' (cv r g) (cv r' g')⟩
      | true =>
        obtain ⟨f', hf'⟩ := grow (X := fun r => A r && decide (r < k)) (x := k) hw he h1 h2 h3 hf (fun r _ h => by rw [Bool.and_eq_true] at h; exact h.1) (by omega) (by simp) hA
        have cv : ∀ r, (A r && decide (r < k + 1)) = true → ((A r && decide (r < k)) || decide (r = k)) = true := fun r h => by
          rw [Bool.and_eq_true] at h
          have h2 := of_decide_eq_true h.2
          by_cases q : r = k
          · simp [q]
          · have : r < k := by omega
            simp [h.1, this]
        exact ⟨f', fun r hr h => hf'.1 r hr (cv r h), fun r r' hr hr' g g' => hf'.2 r r' hr hr' (cv r g) (cv r' g')⟩
  obtain ⟨f, hf⟩ := key n (Nat.le_refl _)
  exact ⟨f, fun r hr h => hf.1 r hr (by simp [h, hr]), fun r r' hr hr' g g' => hf.2 r r' hr hr' (by simp [g, hr]) (by simp [g', hr'])⟩
end
section
theorem b0 {b : Bool} : ((if b = true then (1 : Int) else 0) = 0 ↔ b = false) := by cases b <;> simp
theorem b1' {b : Bool} : ((if b = true then (1 : Int) else 0) = 1 ↔ b = true) := by cases b <;> simp
theorem s_Mo_bits {σ : eS} {s : Int} (h : 0 ≤ s ∧ s < 256) : MtI shB M_Mo_bits [vi s] σ (fun σ' z => σ' = σ ∧ z = pc s) := by
  refine Mt.of okM_Mo_bits (Nat.le_of_ble_eq_true rfl) (fun hk hg => ?_)
  have hb := bitL (n := 0) h (by omega)
  refine ok_iconst 0 rfl rfl (by decide) (ok_ist1 1 rfl rfl rfl (ok_iload_n 2 rfl rfl rfl (ok_ist2 3 rfl rfl rfl ?_)))
  refine lpO2 (fun a k : Int => [some (vi s), some (vi a), some (vi k)]) (fun _ _ => σ) (fun a k => 0 ≤ k ∧ k < 256 ∧ 0 ≤ a ∧ a + pc k = pc s) (fun _ k => k.toNat) ?_ 0 s ⟨by omega, by omega, by omega, by omega⟩
  rintro a k ⟨k1, k2, k3, k4⟩ ih
  have hk := bitH ⟨k1, k2⟩
  have hq := bitL (s := k / 2) (n := 0) (by omega) (by omega)
  refine ok_iload_n 4 rfl rfl rfl (ok_if_le 5 21 rfl rfl rfl (fun h5 => ?_) (fun h5 => ?_))
  · refine ok_iload_n 17 rfl rfl rfl (ok_iret 18 rfl rfl rfl ?_)
    exact ⟨_, rfl, rfl, by rw [← k4, show k = 0 by omega]; simp [pc]⟩
  · refine ok_iload_n 6 rfl rfl rfl (ok_iload_n 7 rfl rfl rfl (ok_iconst 8 rfl rfl (by decide) (ok_irem 9 rfl rfl (by first | omega | (simp [up_if]; omega) | (simp [up_if] at *; omega)) (by first | omega | (simp [up_if]; omega) | (simp [up_if] at *; omega)) (ok_iadd 10 rfl rfl (by first | omega | (simp [up_if]; omega) | (simp [up_if] at *; omega)) (ok_ist1 11 rfl rfl rfl (ok_iload_n 12 rfl rfl rfl (ok_iconst 13 rfl rfl (by decide) (ok_idiv 14 rfl rfl (by first | omega | (simp [up_if]; omega) | (simp [up_if] at *; omega)) (by first | omega | (simp [up_if]; omega) | (simp [up_if] at *; omega)) (ok_ist2 15 rfl rfl rfl (ok_goto 16 4 rfl rfl rfl ?_))))))))))
    exact ih _ _ ⟨by omega, by omega, by omega, by omega⟩ (by omega)
def wk (σ : eS) (i j : Int) : Int := σ 9 (σ 0 22 * i + j)
def nW (σ : eS) : Prop := 1 ≤ σ 0 22 ∧ σ 0 22 ≤ 8
theorem s_Mo_worked {σ : eS} {i j : Int} (h : nW σ) (hi : 0 ≤ i ∧ i < σ 0 22) (hj : 0 ≤ j ∧ j < σ 0 22) : MtI shB M_Mo_worked [vr 0, vi i, vi j] σ (fun σ' z => σ' = σ ∧ z = wk σ i j) := by
  refine Mt.of okM_Mo_worked (Nat.le_of_ble_eq_true rfl) (fun hk hg => ?_)
  obtain ⟨h3, h4, h5, h6⟩ := ix8 (n := σ 0 22) ⟨by have := h.1; omega, h.2⟩ hi hj
  refine ok_aload_n 0 rfl rfl rfl (ok_getR 1 rfl rfl fl_X12_39 rfl rfl (ok_aload_n 2 rfl rfl rfl (ok_getI 3 rfl rfl fl_X12_234 rfl rfl (Or.inl rfl) (ok_iload_n 4 rfl rfl rfl (ok_imul 5 rfl rfl (by first | omega | (simp [up_if]; omega) | (simp [up_if] at *; omega)) (ok_iload_n 6 rfl rfl rfl (ok_iadd 7 rfl rfl (by first | omega | (simp [up_if]; omega) | (simp [up_if] at *; omega)) (ok_iald 8 rfl rfl rfl (by first | omega | (simp [up_if]; omega) | (simp [up_if] at *; omega)) (ok_iret 9 rfl rfl rfl ?_)))))))))
  exact ⟨_, rfl, rfl, rfl⟩
def opB (σ : eS) (l r c i j : Int) : Prop := l ≤ wk σ i j ∧ (i = r ↔ j = c)
theorem s_Mo_isOpen {σ : eS} {i j l r c : Int} (h : nW σ) (hi : 0 ≤ i ∧ i < σ 0 22) (hj : 0 ≤ j ∧ j < σ 0 22) : MtI shB M_Mo_isOpen [vr 0, vi i, vi j, vi l, vi r, vi c] σ (fun σ' z => σ' = σ ∧ ((z = 1 ∧ opB σ l r c i j) ∨ (z = 0 ∧ ¬ opB σ l r c i j))) := by
  refine Mt.of okM_Mo_isOpen (Nat.le_of_ble_eq_true rfl) (fun hk hg => ?_)
  refine ok_aload_n 0 rfl rfl rfl (ok_iload_n 1 rfl rfl rfl (ok_iload_n 2 rfl rfl rfl (ok_callVI (M' := M_Mo_worked) (as := [_, _]) 3 rfl rfl ml_X12_244 (s_Mo_worked h hi hj) rfl rfl (Nat.le_of_ble_eq_true rfl) ⟨Nat.le_of_ble_eq_true rfl, Nat.le_of_ble_eq_true rfl⟩ rfl (Nat.le_of_ble_eq_true rfl) (fun σ' z hz => ?_))))
  rw [hz.1, hz.2]
  clear hz z σ'
  refine ok_iload_n 4 rfl rfl rfl (ok_icmp_lt 5 39 rfl rfl rfl (fun h7 => ?_) (fun h7 => ?_))
  · refine ok_iconst 21 rfl rfl (by decide) (ok_zret 22 rfl rfl rfl (by first | omega | (simp [up_if]; omega) | (simp [up_if] at *; omega)) ?_)
    exact ⟨_, rfl, rfl, by unfold opB; omega⟩
  · refine ok_iload_n 6 rfl rfl rfl (ok_iload 7 rfl rfl rfl (ok_icmp_ne 8 20 rfl rfl rfl (fun h13 => ?_) (fun h13 => ?_)))
    · refine ok_iconst 11 rfl rfl (by decide) (ok_iload_n 12 rfl rfl rfl (ok_iload 13 rfl rfl rfl (ok_icmp_ne 14 31 rfl rfl rfl (fun h24 => ?_) (fun h24 => ?_))))
      · refine ok_iconst 17 rfl rfl (by decide) (ok_icmp_ne 18 39 rfl rfl rfl (fun h32 => ?_) (fun h32 => ?_))
        · refine ok_iconst 21 rfl rfl (by decide) (ok_zret 22 rfl rfl rfl (by first | omega | (simp [up_if]; omega) | (simp [up_if] at *; omega)) ?_)
          exact ⟨_, rfl, rfl, by unfold opB; omega⟩
        · refine ok_iconst 19 rfl rfl (by decide) (ok_goto 20 40 rfl rfl rfl (ok_zret 22 rfl rfl rfl (by first | omega | (simp [up_if]; omega) | (simp [up_if] at *; omega)) ?_))
          exact ⟨_, rfl, rfl, by unfold opB; omega⟩
      · refine ok_iconst 15 rfl rfl (by decide) (ok_goto 16 32 rfl rfl rfl (ok_icmp_ne 18 39 rfl rfl rfl (fun h32 => ?_) (fun h32 => ?_)))
        · refine ok_iconst 21 rfl rfl (by decide) (ok_zret 22 rfl rfl rfl (by first | omega | (simp [up_if]; omega) | (simp [up_if] at *; omega)) ?_)
          exact ⟨_, rfl, rfl, by unfold opB; omega⟩
        · refine ok_iconst 19 rfl rfl (by decide) (ok_goto 20 40 rfl rfl rfl (ok_zret 22 rfl rfl rfl (by first | omega | (simp [up_if]; omega) | (simp [up_if] at *; omega)) ?_))
          exact ⟨_, rfl, rfl, by unfold opB; omega⟩
    · refine ok_iconst 9 rfl rfl (by decide) (ok_goto 10 21 rfl rfl rfl (ok_iload_n 12 rfl rfl rfl (ok_iload 13 rfl rfl rfl (ok_icmp_ne 14 31 rfl rfl rfl (fun h24 => ?_) (fun h24 => ?_)))))
      · refine ok_iconst 17 rfl rfl (by decide) (ok_icmp_ne 18 39 rfl rfl rfl (fun h32 => ?_) (fun h32 => ?_))
        · refine ok_iconst 21 rfl rfl (by decide) (ok_zret 22 rfl rfl rfl (by first | omega | (simp [up_if]; omega) | (simp [up_if] at *; omega)) ?_)
          exact ⟨_, rfl, rfl, by unfold opB; omega⟩
        · refine ok_iconst 19 rfl rfl (by decide) (ok_goto 20 40 rfl rfl rfl (ok_zret 22 rfl rfl rfl (by first | omega | (simp [up_if]; omega) | (simp [up_if] at *; omega)) ?_))
          exact ⟨_, rfl, rfl, by unfold opB; omega⟩
      · refine ok_iconst 15 rfl rfl (by decide) (ok_goto 16 32 rfl rfl rfl (ok_icmp_ne 18 39 rfl rfl rfl (fun h32 => ?_) (fun h32 => ?_)))
        · refine ok_iconst 21 rfl rfl (by decide) (ok_zret 22 rfl rfl rfl (by first | omega | (simp [up_if]; omega) | (simp [up_if] at *; omega)) ?_)
          exact ⟨_, rfl, rfl, by unfold opB; omega⟩
        · refine ok_iconst 19 rfl rfl (by decide) (ok_goto 20 40 rfl rfl rfl (ok_zret 22 rfl rfl rfl (by first | omega | (simp [up_if]; omega) | (simp [up_if] at *; omega)) ?_))
          exact ⟨_, rfl, rfl, by unfold opB; omega⟩
/-- what is left can be chosen: m rows from a set of used columns on -/
def cpl (n : Int) (op : Int → Int → Prop) : Nat → Int → Prop
  | 0, _ => True
  | m + 1, S => ∃ j, 0 ≤ j ∧ j < n ∧ bt S j = false ∧ op (n - ((m + 1 : Nat) : Int)) j ∧ cpl n op m (sB S j)
def cs (ch : Int → Int) : Nat → Int
  | 0 => 0
  | i + 1 => sB (cs ch i) (ch i)
/-- the j-th column may follow the set T -/
def okJ (n : Int) (op : Int → Int → Prop) (T j : Int) : Prop := bt T j = false ∧ op (pc T) j ∧ cpl n op (n - pc T - 1).toNat (sB T j)
theorem cpl_iff {n : Int} {op : Int → Int → Prop} {T : Int} (h : pc T < n) (h0 : 0 ≤ pc T) : cpl n op (n - pc T).toNat T ↔ ∃ j, 0 ≤ j ∧ j < n ∧ okJ n op T j := by
  have e : (n - pc T).toNat = (n - pc T - 1).toNat + 1 := by omega
  have e2 : n - (((n - pc T - 1).toNat + 1 : Nat) : Int) = pc T := by omega
  rw [e]
  show (∃ j, 0 ≤ j ∧ j < n ∧ bt T j = false ∧ op (n - (((n - pc T - 1).toNat + 1 : Nat) : Int)) j ∧ cpl n op (n - pc T - 1).toNat (sB T j)) ↔ _
  rw [e2]
  rfl
/-- the first choice -/
def lexCh (n : Int) (op : Int → Int → Prop) (ch : Int → Int) : Prop := ∀ i : Int, 0 ≤ i → i < n → 0 ≤ ch i ∧ ch i < n ∧ okJ n op (cs ch i.toNat) (ch i) ∧ ∀ j, 0 ≤ j → j < ch i → ¬ okJ n op (cs ch i.toNat) j
theorem cs_cg {f g : Int → Int} : ∀ {i : Nat}, (∀ k : Int, 0 ≤ k → k < i → f k = g k) → cs f i = cs g i
  | 0, _ => rfl
  | i + 1, h => by
    show sB (cs f i) (f i) = sB (cs g i) (g i)
    rw [cs_cg (fun k a b => h k a (by omega)), h i (by omega) (by omega)]
theorem cs_s (f : Int → Int) {i : Int} (h : 0 ≤ i) : cs f (i + 1).toNat = sB (cs f i.toNat) (f i) := by
  have : (i + 1).toNat = i.toNat + 1 := by omega
  rw [this]
  show sB (cs f i.toNat) (f ((i.toNat : Nat) : Int)) = _
  rw [Int.toNat_of_nonneg h]
def Qch (σ : eS) (n : Int) (op : Int → Int → Prop) (σ' : eS) (z : Int) : Prop := (z = 0 ∧ ¬ cpl n op n.toNat 0 ∧ fr (fun c _ => c = 10) σ σ') ∨ (z = 1 ∧ cpl n op n.toNat 0 ∧ fr (fun c _ => c = 10 ∨ c = 11) σ σ' ∧ lexCh n op (fun i => σ' 11 i))
def dpC (n : Int) (op : Int → Int → Prop) (τ : eS) (T : Int) : Prop := (τ 10 T = 1 ∧ cpl n op (n - pc T).toNat T) ∨ (τ 10 T = -1 ∧ ¬ cpl n op (n - pc T).toNat T)
theorem nW.fr' {σ τ : eS} (h : nW σ) (e : τ 0 22 = σ 0 22) : nW τ := by unfold nW; rw [e]; exact h
theorem s_Mo_isChosen {σ : eS} {l r c : Int} (h : nW σ) : MtI shB M_Mo_isChosen [vr 0, vi l, vi r, vi c] σ (Qch σ (σ 0 22) (opB σ l r c)) := by
  refine Mt.of okM_Mo_isChosen (Nat.le_of_ble_eq_true rfl) (fun hk hg => ?_)
  obtain ⟨n, en⟩ : ∃ x, x = σ 0 22 := ⟨_, rfl⟩
  obtain ⟨op, eop⟩ : ∃ x, x = opB σ l r c := ⟨_, rfl⟩
  have hn : 1 ≤ n ∧ n ≤ 8 := by rw [en]; exact h
  obtain ⟨z1, z2, z3, z4⟩ := bit2 (n := n) (by omega)
  have z4 := z4 hn.1
  rw [← en, ← eop]
  have hop : ∀ τ : eS, fr (fun c _ => c = 10 ∨ c = 11) σ τ → opB τ l r c = op ∧ τ 0 22 = n ∧ nW τ := fun τ f => by
    have e1 : τ 0 22 = n := by rw [f 0 22 (by omega), en]
    refine ⟨?_, e1, h.fr' (by rw [e1, en])⟩
    rw [eop]
    funext i j
    unfold opB wk
    rw [f 0 22 (by omega), f 9 _ (by omega)]
  refine ok_iconst 0 rfl rfl (by decide) (ok_aload_n 1 rfl rfl rfl (ok_getI 2 rfl rfl fl_X12_234 rfl rfl (Or.inl rfl) (ok_ishl 3 rfl rfl ?_)))
  rw [← en, z1]
  refine ok_iconst 4 rfl rfl (by decide) (ok_isub 5 rfl rfl (by first | omega | (simp [up_if]; omega) | (simp [up_if] at *; omega)) (ok_ist4 6 rfl rfl rfl (ok_aload_n 7 rfl rfl rfl (ok_getR 8 rfl rfl fl_X12_42 rfl rfl (ok_iload 9 rfl rfl rfl (ok_lconst (w := 1) 10 rfl rfl rfl (by decide) (ok_last 11 rfl rfl rfl (by first | omega | (simp [up_if]; omega) | (simp [up_if] at *; omega)) (ok_iload 12 rfl rfl rfl (ok_iconst 13 rfl rfl (by decide) (ok_isub 14 rfl rfl (by first | omega | (simp [up_if]; omega) | (simp [up_if] at *; omega)) (ok_ist5 15 rfl rfl rfl ?_)))))))))))
  refine lpO2 (fun (s : Int) (_ : eS) => [some (vr 0), some (vi l), some (vi r), some (vi c), some (vi (p2 n - 1)), some (vi s), none, none]) (fun _ τ => τ) (fun s τ => -1 ≤ s ∧ s < p2 n - 1 ∧ fr (fun c _ => c = 10) σ τ ∧ ∀ T, s < T → T < p2 n → dpC n op τ T) (fun s _ => (s + 1).toNat) ?_ (p2 n - 1 - 1) _ ⟨by omega, by omega, fr_up fr.rf rfl, fun T a b => ?_⟩
  rotate_left
  · have e : T = p2 n - 1 := by omega
    have := (bitL (s := T) (n := n) (by omega) (by omega)).2.1 e
    refine Or.inl ⟨by rw [e, up_same], ?_⟩
    rw [this, show (n - n).toNat = 0 by omega]
    trivial
  rintro s τ ⟨i1, i2, i3, i4⟩ ih
  obtain ⟨o1, o2, o3⟩ := hop τ (i3.mono (fun c k q => by omega))
  refine ok_iload 16 rfl rfl rfl (ok_if_lt 17 119 rfl rfl rfl (fun h26 => ?_) (fun h26 => ?_))
  · rw [show s = -1 by omega] at i4
    refine ok_aload_n 66 rfl rfl rfl (ok_getR 67 rfl rfl fl_X12_42 rfl rfl (ok_iconst 68 rfl rfl (by decide) (ok_lald 69 rfl rfl rfl (by first | omega | (simp [up_if]; omega) | (simp [up_if] at *; omega)) (ok_lconst (w := 0) 70 rfl rfl rfl (by decide) (ok_lcmp_ge 71 72 132 rfl rfl rfl rfl rfl (fun h126 => ?_) (fun h126 => ?_))))))
    · refine ok_iconst 75 rfl rfl (by decide) (ok_ist5 76 rfl rfl rfl (ok_iconst 77 rfl rfl (by decide) (ok_ist6 78 rfl rfl rfl ?_)))
      have hc0 : cpl n op n.toNat 0 := by
        rcases i4 0 (by omega) (by omega) with q | q
        · have := q.2
          rwa [show pc 0 = 0 by simp [pc], Int.sub_zero] at this
        · omega
      refine lpO2 (fun (i : Int) (ρ : eS) => [some (vr 0), some (vi l), some (vi r), some (vi c), some (vi (p2 n - 1)), some (vi (cs (fun i => ρ 11 i) i.toNat)), some (vi i), none]) (fun _ ρ => ρ) (fun i ρ => 0 ≤ i ∧ i ≤ n ∧ fr (fun c _ => c = 11) τ ρ ∧ 0 ≤ cs (fun i => ρ 11 i) i.toNat ∧ cs (fun i => ρ 11 i) i.toNat < p2 n ∧ pc (cs (fun i => ρ 11 i) i.toNat) = i ∧ cpl n op (n - i).toNat (cs (fun i => ρ 11 i) i.toNat) ∧ ∀ k : Int, 0 ≤ k → k < i → 0 ≤ ρ 11 k ∧ ρ 11 k < n ∧ okJ n op (cs (fun i => ρ 11 i) k.toNat) (ρ 11 k) ∧ ∀ j, 0 ≤ j → j < ρ 11 k → ¬ okJ n op (cs (fun i => ρ 11 i) k.toNat) j) (fun i _ => (n - i).toNat) ?_ 0 τ ⟨by omega, by omega, fr.rf, Int.le_refl _, by show (0 : Int) < p2 n; omega, by show pc 0 = 0; simp [pc], by rw [Int.sub_zero]; exact hc0, fun k a b => by omega⟩
      clear ih
      rintro i ρ ⟨k1, k2, k3, k4, k5, k6, k7, k8⟩ ih
      obtain ⟨S, eS⟩ : ∃ x, x = cs (fun i => ρ 11 i) i.toNat := ⟨_, rfl⟩
      rw [← eS] at k4 k5 k6 k7 ⊢
      obtain ⟨u1, u2, u3⟩ := hop ρ (fun c k q => by rw [k3 c k (by omega), i3 c k (by omega)])
      refine ok_iload 79 rfl rfl rfl (ok_aload_n 80 rfl rfl rfl (ok_getI 81 rfl rfl fl_X12_234 rfl rfl (Or.inl rfl) (ok_icmp_ge 82 222 rfl rfl rfl (fun h144 => ?_) (fun h144 => ?_))))
      · refine ok_iconst 126 rfl rfl (by decide) (ok_zret 127 rfl rfl rfl (by first | omega | (simp [up_if]; omega) | (simp [up_if] at *; omega)) ?_)
        refine ⟨_, rfl, Or.inr ⟨rfl, hc0, fun c k q => by rw [k3 c k (by omega), i3 c k (by omega)], fun k a b => ?_⟩⟩
        exact k8 k a (by omega)
      · refine ok_iconst 83 rfl rfl (by decide) (ok_ist7 84 rfl rfl rfl ?_)
        have hin : i < n := by omega
        have hex : ∃ j, 0 ≤ j ∧ j < n ∧ okJ n op S j := (cpl_iff (by omega) (by omega)).mp (by rw [k6]; exact k7)
        refine lpO (fun j : Int => [some (vr 0), some (vi l), some (vi r), some (vi c), some (vi (p2 n - 1)), some (vi S), some (vi i), some (vi j)]) (fun _ => ρ) (fun j => 0 ≤ j ∧ j < n ∧ ∀ j', 0 ≤ j' → j' < j → ¬ okJ n op S j') (fun j => (n - j).toNat) ?_ 0 ⟨by omega, by omega, fun j' a b => by omega⟩
        rintro j ⟨j1, j2, j3⟩ ih2
        have e1 := bitG (s := S) (j := j) (by omega) (by omega)
        have e2 := bitP (s := S) (j := j) (by omega) (by omega)
        obtain ⟨l1, l2⟩ := sB_lt (s := S) (j := j) (n := n) ⟨k4, k5⟩ ⟨j1, j2⟩
        have nxt : ¬ okJ n op S j → Ok shB M_Mo_isChosen 192 [some (vr 0), some (vi l), some (vi r), some (vi c), some (vi (p2 n - 1)), some (vi S), some (vi i), some (vi j)] [] ρ (fun σ' v => ∃ z, v = some (vi z) ∧ Qch σ n op σ' z) := by
          intro hno
          have hj : j + 1 < n := by
            obtain ⟨j', a1, a2, a3⟩ := hex
            by_cases q : j' < j
            · exact absurd a3 (j3 j' a1 q)
            · by_cases q' : j' = j
              · rw [q'] at a3; exact absurd a3 hno
              · omega
          refine ok_inc7 111 rfl rfl rfl (by first | omega | (simp [up_if]; omega) | (simp [up_if] at *; omega)) (ok_goto 112 150 rfl rfl rfl ?_)
          exact ih2 (j + 1) ⟨by omega, hj, lt_ext j3 hno⟩ (by omega)
        refine ok_iload 85 rfl rfl rfl (ok_iload 86 rfl rfl rfl (ok_ishr 87 rfl rfl (ok_iconst 88 rfl rfl (by decide) (ok_iand 89 rfl rfl ?_))))
        rw [e1]
        refine ok_iconst 90 rfl rfl (by decide) (ok_icmp_eq 91 192 rfl rfl rfl (fun h158 => ?_) (fun h158 => ?_))
        · exact nxt (fun q => by have q1 := q.1; rw [b1'.mp h158] at q1; cases q1)
        · have hb : bt S j = false := by
            cases hq : bt S j with
            | false => rfl
            | true => exact absurd (b1'.mpr hq) h158
          refine ok_aload_n 92 rfl rfl rfl (ok_iload 93 rfl rfl rfl (ok_iload 94 rfl rfl rfl (ok_iload_n 95 rfl rfl rfl (ok_iload_n 96 rfl rfl rfl (ok_iload_n 97 rfl rfl rfl (ok_callVI (M' := M_Mo_isOpen) (as := [_, _, _, _, _]) 98 rfl rfl ml_X12_252 (s_Mo_isOpen u3 (by omega) (by omega)) rfl rfl (Nat.le_of_ble_eq_true rfl) ⟨Nat.le_of_ble_eq_true rfl, Nat.le_of_ble_eq_true rfl⟩ rfl (Nat.le_of_ble_eq_true rfl) (fun σ' z hz => ?_)))))))
          obtain ⟨hs_, hz⟩ := hz
          rw [hs_]; clear hs_ σ'
          rw [u1] at hz
          refine ok_if_eq 99 192 rfl rfl rfl (fun h172 => ?_) (fun h172 => ?_)
          · exact nxt (fun q => no1 hz h172 (by have := q.2.1; rwa [k6] at this))
          · refine ok_aload_n 100 rfl rfl rfl (ok_getR 101 rfl rfl fl_X12_42 rfl rfl (ok_iload 102 rfl rfl rfl (ok_iconst 103 rfl rfl (by decide) (ok_iload 104 rfl rfl rfl (ok_ishl 105 rfl rfl (ok_ior 106 rfl rfl ?_))))))
            rw [e2]
            refine ok_lald 107 rfl rfl rfl (by omega) ?_
            have hd := i4 (sB S j) (by omega) l2
            have hcp := (bitC (s := S) (j := j) (by omega) (by omega) hb).1
            have er : ρ 10 (sB S j) = τ 10 (sB S j) := k3 10 _ (by omega)
            refine ok_lconst (w := 0) 108 rfl rfl rfl (by decide) (ok_lcmp_ge 109 110 198 rfl rfl rfl rfl rfl (fun h188 => ?_) (fun h188 => ?_))
            · have hok : okJ n op S j := by
                refine ⟨hb, by rw [k6]; exact yes1 hz h172, ?_⟩
                rcases hd with y | y
                · have := y.2
                  rwa [show n - pc (sB S j) = n - pc S - 1 by omega] at this
                · omega
              refine ok_aload_n 113 rfl rfl rfl (ok_getR 114 rfl rfl fl_X12_45 rfl rfl (ok_iload 115 rfl rfl rfl (ok_iload 116 rfl rfl rfl (ok_iast 117 rfl rfl rfl (by first | omega | (simp [up_if]; omega) | (simp [up_if] at *; omega)) (ok_iload 118 rfl rfl rfl (ok_iconst 119 rfl rfl (by decide) (ok_iload 120 rfl rfl rfl (ok_ishl 121 rfl rfl (ok_ior 122 rfl rfl (ok_ist5 123 rfl rfl rfl (ok_inc6 124 rfl rfl rfl (by first | omega | (simp [up_if]; omega) | (simp [up_if] at *; omega)) (ok_goto 125 138 rfl rfl rfl ?_))))))))))))
              rw [e2]
              have ecs : ∀ k : Int, 0 ≤ k → k ≤ i → cs (fun q => up ρ 11 i j 11 q) k.toNat = cs (fun q => ρ 11 q) k.toNat := fun k a b => cs_cg (fun q a' b' => by rw [up_nk _ _ _ _ (by omega)])
              have ec1 : cs (fun q => up ρ 11 i j 11 q) (i + 1).toNat = sB S j := by
                rw [cs_s _ k1, ecs i k1 (Int.le_refl _), ← eS, up_same]
              have hfin := ih (i + 1) (up ρ 11 i j) ⟨by omega, by omega, fr_up k3 rfl, by rw [ec1]; exact l1, by rw [ec1]; exact l2, by rw [ec1]; omega, by rw [ec1]; have := hok.2.2; rwa [k6, show n - i - 1 = n - (i + 1) by omega] at this, fun k a b => ?_⟩ (by omega)
              · rw [ec1] at hfin
                exact ok_fg [some (vr 0), some (vi l), some (vi r), some (vi c), some (vi (p2 n - 1)), some (vi (sB S j)), some (vi (i + 1)), none] ⟨rfl, rfl, rfl, rfl, rfl, rfl, rfl, trivial⟩ hfin
              · rw [ecs k a (by omega)]
                by_cases q : k = i
                · rw [q, up_same, ← eS]
                  exact ⟨j1, j2, hok, j3⟩
                · rw [up_nk _ _ _ _ q]
                  exact k8 k a (by omega)
            · exact nxt (fun q => by
                rcases hd with y | y
                · omega
                · refine y.2 ?_
                  have := q.2.2
                  rwa [show n - pc (sB S j) = n - pc S - 1 by omega])
    · refine ok_iconst 73 rfl rfl (by decide) (ok_zret 74 rfl rfl rfl (by first | omega | (simp [up_if]; omega) | (simp [up_if] at *; omega)) ?_)
      refine ⟨_, rfl, Or.inl ⟨rfl, ?_, i3⟩⟩
      rcases i4 0 (by omega) (by omega) with q | q
      · omega
      · have := q.2
        rwa [show pc 0 = 0 by simp [pc], Int.sub_zero] at this
  · refine ok_iload 18 rfl rfl rfl (ok_callSI (M' := M_Mo_bits) (as := [_]) 19 rfl rfl ml_X12_241 (s_Mo_bits (by omega)) ⟨Nat.le_of_ble_eq_true rfl, Nat.le_of_ble_eq_true rfl⟩ rfl (Nat.le_of_ble_eq_true rfl) (fun σ' z hz => ?_))
    rw [hz.1, hz.2]
    clear hz z σ'
    refine ok_ist6 20 rfl rfl rfl ?_
    have hp := (bitL (s := s) (n := n) (by omega) (by omega)).1 (by omega)
    have hp0 := (bitL (s := s) (n := n) (by omega) (by omega)).2.2.1
    refine ok_aload_n 21 rfl rfl rfl (ok_getR 22 rfl rfl fl_X12_42 rfl rfl (ok_iload 23 rfl rfl rfl (ok_ldc2 24 (-1) rfl rfl kc_X12_219 (by decide) (ok_last 25 rfl rfl rfl (by omega) (ok_iconst 26 rfl rfl (by decide) (ok_ist7 27 rfl rfl rfl ?_))))))
    refine lpO2 (fun (j : Int) (_ : eS) => [some (vr 0), some (vi l), some (vi r), some (vi c), some (vi (p2 n - 1)), some (vi s), some (vi (pc s)), some (vi j)]) (fun _ ρ => ρ) (fun j ρ => 0 ≤ j ∧ j ≤ n ∧ fr (fun c _ => c = 10) σ ρ ∧ (∀ T, s < T → T < p2 n → dpC n op ρ T) ∧ ((ρ 10 s = 1 ∧ ∃ j', 0 ≤ j' ∧ j' < n ∧ okJ n op s j') ∨ (ρ 10 s = -1 ∧ ∀ j', 0 ≤ j' → j' < j → ¬ okJ n op s j'))) (fun j _ => (n - j).toNat) ?_ 0 _ ⟨by omega, by omega, fr_up i3 rfl, fun T a b => ?_, Or.inr ⟨by rw [up_same], fun j' a b => by omega⟩⟩
    rotate_left
    · unfold dpC
      rw [up_nk _ _ _ _ (by omega)]
      exact i4 T a b
    rintro j ρ ⟨j1, j2, j3, j4, j5⟩ ih2
    obtain ⟨u1, u2, u3⟩ := hop ρ (j3.mono (fun c k q => by omega))
    have nxt : j < n → (¬ okJ n op s j ∨ ρ 10 s = 1) → Ok shB M_Mo_isChosen 107 [some (vr 0), some (vi l), some (vi r), some (vi c), some (vi (p2 n - 1)), some (vi s), some (vi (pc s)), some (vi j)] [] ρ (fun σ' v => ∃ z, v = some (vi z) ∧ Qch σ n op σ' z) := by
      intro hj hno
      refine ok_inc7 62 rfl rfl rfl (by first | omega | (simp [up_if]; omega) | (simp [up_if] at *; omega)) (ok_goto 63 49 rfl rfl rfl ?_)
      refine ih2 (j + 1) ρ ⟨by omega, by omega, j3, j4, ?_⟩ (by omega)
      rcases j5 with q | q
      · exact Or.inl q
      · rcases hno with y | y
        · exact Or.inr ⟨q.1, lt_ext q.2 y⟩
        · omega
    refine ok_iload 28 rfl rfl rfl (ok_aload_n 29 rfl rfl rfl (ok_getI 30 rfl rfl fl_X12_234 rfl rfl (Or.inl rfl) (ok_icmp_ge 31 113 rfl rfl rfl (fun h55 => ?_) (fun h55 => ?_))))
    · refine ok_inc5 64 rfl rfl rfl (by first | omega | (simp [up_if]; omega) | (simp [up_if] at *; omega)) (ok_goto 65 24 rfl rfl rfl ?_)
      refine ok_fg [some (vr 0), some (vi l), some (vi r), some (vi c), some (vi (p2 n - 1)), some (vi (s + -1)), none, none] ⟨rfl, rfl, rfl, rfl, rfl, rfl, trivial⟩ (ih (s + -1) ρ ⟨by omega, by omega, j3, fun T a b => ?_⟩ (by omega))
      by_cases q : T = s
      · rw [q]
        have hiff := cpl_iff (op := op) hp hp0
        rcases j5 with y | y
        · exact Or.inl ⟨y.1, hiff.mpr y.2⟩
        · exact Or.inr ⟨y.1, fun w => by obtain ⟨j', a1, a2, a3⟩ := hiff.mp w; exact y.2 j' a1 (by omega) a3⟩
      · exact j4 T (by omega) b
    · have e1 := bitG (s := s) (j := j) (by omega) (by omega)
      have e2 := bitP (s := s) (j := j) (by omega) (by omega)
      obtain ⟨l1, l2⟩ := sB_lt (s := s) (j := j) (n := n) ⟨by omega, by omega⟩ ⟨by omega, by omega⟩
      refine ok_iload 32 rfl rfl rfl (ok_iload 33 rfl rfl rfl (ok_ishr 34 rfl rfl (ok_iconst 35 rfl rfl (by decide) (ok_iand 36 rfl rfl ?_))))
      rw [e1]
      refine ok_if_ne 37 107 rfl rfl rfl (fun h65 => ?_) (fun h65 => ?_)
      · exact nxt (by omega) (Or.inl (fun q => h65 (b0.mpr q.1)))
      · refine ok_aload_n 38 rfl rfl rfl (ok_iload 39 rfl rfl rfl (ok_iload 40 rfl rfl rfl (ok_iload_n 41 rfl rfl rfl (ok_iload_n 42 rfl rfl rfl (ok_iload_n 43 rfl rfl rfl (ok_callVI (M' := M_Mo_isOpen) (as := [_, _, _, _, _]) 44 rfl rfl ml_X12_252 (s_Mo_isOpen u3 ⟨by omega, by omega⟩ ⟨by omega, by omega⟩) rfl rfl (Nat.le_of_ble_eq_true rfl) ⟨Nat.le_of_ble_eq_true rfl, Nat.le_of_ble_eq_true rfl⟩ rfl (Nat.le_of_ble_eq_true rfl) (fun σ' z hz => ?_)))))))
        obtain ⟨hs_, hz⟩ := hz
        rw [hs_]; clear hs_ σ'
        rw [u1] at hz
        have hb := b0.mp h65
        obtain ⟨hc1, hc2⟩ := bitC (s := s) (j := j) (by omega) (by omega) hb
        have hd := j4 (sB s j) hc2 l2
        refine ok_if_eq 45 107 rfl rfl rfl (fun h79 => ?_) (fun h79 => ?_)
        · exact nxt (by omega) (Or.inl (fun q => no1 hz h79 q.2.1))
        · refine ok_aload_n 46 rfl rfl rfl (ok_getR 47 rfl rfl fl_X12_42 rfl rfl (ok_iload 48 rfl rfl rfl (ok_iconst 49 rfl rfl (by decide) (ok_iload 50 rfl rfl rfl (ok_ishl 51 rfl rfl (ok_ior 52 rfl rfl ?_))))))
          rw [e2]
          refine ok_lald 53 rfl rfl rfl (by omega) (ok_lconst (w := 0) 54 rfl rfl rfl (by decide) (ok_lcmp_le 55 56 107 rfl rfl rfl rfl rfl (fun h95 => ?_) (fun h95 => ?_)))
          · refine nxt (by omega) (Or.inl (fun q => ?_))
            rcases hd with y | y
            · omega
            · exact y.2 (by have := q.2.2; rwa [show n - pc (sB s j) = n - pc s - 1 by omega])
          · refine ok_aload_n 57 rfl rfl rfl (ok_getR 58 rfl rfl fl_X12_42 rfl rfl (ok_iload 59 rfl rfl rfl (ok_lconst (w := 1) 60 rfl rfl rfl (by decide) (ok_last 61 rfl rfl rfl (by first | omega | (simp [up_if]; omega) | (simp [up_if] at *; omega)) ?_))))
            have hok : okJ n op s j := by
              refine ⟨hb, yes1 hz h79, ?_⟩
              rcases hd with y | y
              · have := y.2
                rwa [show n - pc (sB s j) = n - pc s - 1 by omega] at this
              · omega
            refine ok_inc7 62 rfl rfl rfl (by first | omega | (simp [up_if]; omega) | (simp [up_if] at *; omega)) (ok_goto 63 49 rfl rfl rfl ?_)
            refine ih2 (j + 1) _ ⟨by omega, by omega, fr_up j3 rfl, fun T a b => ?_, Or.inl ⟨by rw [up_same], j, j1, by omega, hok⟩⟩ (by omega)
            unfold dpC
            rw [up_nk _ _ _ _ (by omega)]
            exact j4 T a b
end
section
/-! the greatest: what is left of the rows, by sets of columns -/
/-- a column j that may follow the set T: free, great enough, and the rest has a choice -/
def okG (n l : Int) (w : Int → Int → Int) (v : Int → Int) (T j : Int) : Prop := bt T j = false ∧ l ≤ w (pc T) j ∧ 0 ≤ v (sB T j)
def cmbG (sums : Int) (a b : Int) : Int := if sums = 0 then min a b else a + b
def dpG (n l sums : Int) (w : Int → Int → Int) (v : Int → Int) (T : Int) : Prop := (∀ j, 0 ≤ j → j < n → okG n l w v T j → cmbG sums (w (pc T) j) (v (sB T j)) ≤ v T) ∧ ((v T = -1 ∧ ∀ j, 0 ≤ j → j < n → ¬ okG n l w v T j) ∨ ∃ j, 0 ≤ j ∧ j < n ∧ okG n l w v T j ∧ v T = cmbG sums (w (pc T) j) (v (sB T j)))
def dpP (n l sums : Int) (w : Int → Int → Int) (v : Int → Int) (T j : Int) : Prop := (v T = -1 ∧ ∀ j', 0 ≤ j' → j' < j → ¬ okG n l w v T j') ∨ ∃ j', 0 ≤ j' ∧ j' < n ∧ okG n l w v T j' ∧ v T = cmbG sums (w (pc T) j') (v (sB T j'))
def wBd (σ : eS) : Prop := ∀ i j, 0 ≤ i → i < σ 0 22 → 0 ≤ j → j < σ 0 22 → 0 ≤ wk σ i j ∧ wk σ i j ≤ 799999992
def Qlc (σ : eS) (n l sums : Int) (σ' : eS) : Prop := fr (fun c _ => c = 10) σ σ' ∧ σ' 10 (p2 n - 1) = (if sums = 0 then 9223372036854775807 else 0) ∧ ∀ T, 0 ≤ T → T < p2 n - 1 → dpG n l sums (wk σ) (fun k => σ' 10 k) T ∧ -1 ≤ σ' 10 T ∧ σ' 10 T ≤ 799999992 * 8
theorem s_Mo_laysCan {σ : eS} {l b : Int} (h : nW σ) (hw : wBd σ) (hl : 0 ≤ l) (hb : b = 0 ∨ b = 1) : MtV shB M_Mo_laysCan [vr 0, vi l, vi b] σ (Qlc σ (σ 0 22) l b) := by
  refine Mt.of okM_Mo_laysCan (Nat.le_of_ble_eq_true rfl) (fun hk hg => ?_)
  obtain ⟨n, en⟩ : ∃ x, x = σ 0 22 := ⟨_, rfl⟩
  have hn : 1 ≤ n ∧ n ≤ 8 := by rw [en]; exact h
  obtain ⟨z1, z2, z3, z4⟩ := bit2 (n := n) (by omega)
  have z4 := z4 hn.1
  rw [← en]
  have hop : ∀ τ : eS, fr (fun c _ => c = 10) σ τ → wk τ = wk σ ∧ τ 0 22 = n ∧ nW τ := fun τ f => by
    have e1 : τ 0 22 = n := by rw [f 0 22 (by omega), en]
    refine ⟨?_, e1, h.fr' (by rw [e1, en])⟩
    funext i j
    unfold wk
    rw [f 0 22 (by omega), f 9 _ (by omega)]
  have hwb : ∀ i j, 0 ≤ i → i < n → 0 ≤ j → j < n → 0 ≤ wk σ i j ∧ wk σ i j ≤ 799999992 := fun i j a1 a2 a3 a4 => hw i j a1 (by omega) a3 (by omega)
  have main : ∀ (τ : eS), fr (fun c _ => c = 10) σ τ → τ 10 (p2 n - 1) = (if b = 0 then 9223372036854775807 else 0) → Ok shB M_Mo_laysCan 26 [some (vr 0), some (vi l), some (vi b), some (vi (p2 n - 1)), none, none, none, none, none] [] τ (fun σ' v => v = none ∧ Qlc σ n l b σ') := by
    intro τ f0 v0
    refine ok_iload_n 16 rfl rfl rfl (ok_iconst 17 rfl rfl (by decide) (ok_isub 18 rfl rfl (by first | omega | (simp [up_if]; omega) | (simp [up_if] at *; omega)) (ok_ist4 19 rfl rfl rfl ?_)))
    refine lpO2 (fun (s : Int) (_ : eS) => [some (vr 0), some (vi l), some (vi b), some (vi (p2 n - 1)), some (vi s), none, none, none, none]) (fun _ τ => τ) (fun s τ => -1 ≤ s ∧ s < p2 n - 1 ∧ fr (fun c _ => c = 10) σ τ ∧ τ 10 (p2 n - 1) = (if b = 0 then 9223372036854775807 else 0) ∧ ∀ T, s < T → T < p2 n - 1 → dpG n l b (wk σ) (fun k => τ 10 k) T ∧ -1 ≤ τ 10 T ∧ τ 10 T ≤ 799999992 * (n - pc T)) (fun s _ => (s + 1).toNat) ?_ (p2 n - 1 - 1) _ ⟨by omega, by omega, f0, v0, fun T a b => by omega⟩
    clear f0 v0 τ
    rintro s τ ⟨i1, i2, i3, i5, i4⟩ ih
    refine ok_iload 20 rfl rfl rfl (ok_if_lt 21 194 rfl rfl rfl (fun h33 => ?_) (fun h33 => ?_))
    · refine ok_vret 107 rfl rfl rfl ?_
      refine ⟨rfl, i3, i5, fun T a b' => ?_⟩
      obtain ⟨y1, y2, y3⟩ := i4 T (by omega) b'
      have := (bitL (s := T) (n := n) (by omega) (by omega)).2.2.1
      exact ⟨y1, y2, by omega⟩
    · refine ok_iload 22 rfl rfl rfl (ok_callSI (M' := M_Mo_bits) (as := [_]) 23 rfl rfl ml_X12_241 (s_Mo_bits (by omega)) ⟨Nat.le_of_ble_eq_true rfl, Nat.le_of_ble_eq_true rfl⟩ rfl (Nat.le_of_ble_eq_true rfl) (fun σ' z hz => ?_))
      rw [hz.1, hz.2]
      clear hz z σ'
      refine ok_ist5 24 rfl rfl rfl ?_
      have hp := (bitL (s := s) (n := n) (by omega) (by omega)).1 (by omega)
      have hp0 := (bitL (s := s) (n := n) (by omega) (by omega)).2.2.1
      refine ok_aload_n 25 rfl rfl rfl (ok_getR 26 rfl rfl fl_X12_42 rfl rfl (ok_iload 27 rfl rfl rfl (ok_ldc2 28 (-1) rfl rfl kc_X12_219 (by decide) (ok_last 29 rfl rfl rfl (by omega) (ok_iconst 30 rfl rfl (by decide) (ok_ist6 31 rfl rfl rfl ?_))))))
      refine lpO2 (fun (j : Int) (_ : eS) => [some (vr 0), some (vi l), some (vi b), some (vi (p2 n - 1)), some (vi s), some (vi (pc s)), some (vi j), none, none]) (fun _ ρ => ρ) (fun j ρ => 0 ≤ j ∧ j ≤ n ∧ fr (fun c _ => c = 10) σ ρ ∧ ρ 10 (p2 n - 1) = (if b = 0 then 9223372036854775807 else 0) ∧ (∀ T, s < T → T < p2 n - 1 → dpG n l b (wk σ) (fun k => ρ 10 k) T ∧ -1 ≤ ρ 10 T ∧ ρ 10 T ≤ 799999992 * (n - pc T)) ∧ -1 ≤ ρ 10 s ∧ ρ 10 s ≤ 799999992 * (n - pc s) ∧ (∀ j', 0 ≤ j' → j' < j → okG n l (wk σ) (fun k => ρ 10 k) s j' → cmbG b (wk σ (pc s) j') (ρ 10 (sB s j')) ≤ ρ 10 s) ∧ dpP n l b (wk σ) (fun k => ρ 10 k) s j) (fun j _ => (n - j).toNat) ?_ 0 _ ⟨by omega, by omega, fr_up i3 rfl, by rw [up_nk _ _ _ _ (by omega)]; exact i5, fun T a b' => ?_, by rw [up_same]; omega, by rw [up_same]; omega, fun j' a b => by omega, Or.inl ⟨up_same _ _ _ _, fun j' a b => by omega⟩⟩
      rotate_left
      · obtain ⟨y1, y2, y3⟩ := i4 T a b'
        refine ⟨?_, by rw [up_nk _ _ _ _ (by omega)]; exact y2, by rw [up_nk _ _ _ _ (by omega)]; exact y3⟩
        have e : ∀ j, 0 ≤ j → j < n → bt T j = false → up τ 10 s (-1) 10 (sB T j) = τ 10 (sB T j) := fun j a1 a2 a3 => by
          have := (bitC (s := T) (j := j) (by omega) (by omega) a3).2
          rw [up_nk _ _ _ _ (by omega)]
        have eT : up τ 10 s (-1) 10 T = τ 10 T := up_nk _ _ _ _ (by omega)
        have eok : ∀ j, 0 ≤ j → j < n → (okG n l (wk σ) (fun k => up τ 10 s (-1) 10 k) T j ↔ okG n l (wk σ) (fun k => τ 10 k) T j) := fun j a1 a2 => by
          unfold okG
          constructor
          · rintro ⟨q1, q2, q3⟩; dsimp only at q3; rw [e j a1 a2 q1] at q3; exact ⟨q1, q2, q3⟩
          · rintro ⟨q1, q2, q3⟩; refine ⟨q1, q2, ?_⟩; dsimp only; rw [e j a1 a2 q1]; exact q3
        refine ⟨fun j a1 a2 a3 => ?_, ?_⟩
        · dsimp only
          rw [eT, e j a1 a2 a3.1]
          exact y1.1 j a1 a2 ((eok j a1 a2).mp a3)
        · dsimp only
          rw [eT]
          rcases y1.2 with q | ⟨j, q1, q2, q3, q4⟩
          · exact Or.inl ⟨q.1, fun j a1 a2 a3 => q.2 j a1 a2 ((eok j a1 a2).mp a3)⟩
          · exact Or.inr ⟨j, q1, q2, (eok j q1 q2).mpr q3, by rw [e j q1 q2 q3.1]; exact q4⟩
      rintro j ρ ⟨j1, j2, j3, jA, j4, j5, j6, j7, j8⟩ ih2
      obtain ⟨u1, u2, u3⟩ := hop ρ j3
      have nxt : j < n → ¬ okG n l (wk σ) (fun k => ρ 10 k) s j → Ok shB M_Mo_laysCan 182 [some (vr 0), some (vi l), some (vi b), some (vi (p2 n - 1)), some (vi s), some (vi (pc s)), some (vi j), none, none] [] ρ (fun σ' v => v = none ∧ Qlc σ n l b σ') := by
        intro hj hno
        refine ok_inc6 103 rfl rfl rfl (by first | omega | (simp [up_if]; omega) | (simp [up_if] at *; omega)) (ok_goto 104 56 rfl rfl rfl ?_)
        refine ih2 (j + 1) ρ ⟨by omega, by omega, j3, jA, j4, j5, j6, lt_ext j7 (fun q => absurd q hno), ?_⟩ (by omega)
        rcases j8 with q | q
        · exact Or.inl ⟨q.1, lt_ext q.2 hno⟩
        · exact Or.inr q
      refine ok_iload 32 rfl rfl rfl (ok_aload_n 33 rfl rfl rfl (ok_getI 34 rfl rfl fl_X12_234 rfl rfl (Or.inl rfl) (ok_icmp_ge 35 188 rfl rfl rfl (fun h62 => ?_) (fun h62 => ?_))))
      · refine ok_inc4 105 rfl rfl rfl (by first | omega | (simp [up_if]; omega) | (simp [up_if] at *; omega)) (ok_goto 106 31 rfl rfl rfl ?_)
        refine ok_fg [some (vr 0), some (vi l), some (vi b), some (vi (p2 n - 1)), some (vi (s + -1)), none, none, none, none] ⟨rfl, rfl, rfl, rfl, rfl, trivial⟩ (ih (s + -1) ρ ⟨by omega, by omega, j3, jA, fun T a b' => ?_⟩ (by omega))
        by_cases q : T = s
        · rw [q]
          refine ⟨⟨fun j' a1 a2 a3 => j7 j' a1 (by omega) a3, ?_⟩, j5, j6⟩
          rcases j8 with y | y
          · exact Or.inl ⟨y.1, fun j' a1 a2 => y.2 j' a1 (by omega)⟩
          · exact Or.inr y
        · exact j4 T (by omega) b'
      · have e1 := bitG (s := s) (j := j) (by omega) (by omega)
        have e2 := bitP (s := s) (j := j) (by omega) (by omega)
        obtain ⟨l1, l2⟩ := sB_lt (s := s) (j := j) (n := n) ⟨by omega, by omega⟩ ⟨by omega, by omega⟩
        have wb := hwb (pc s) j (by omega) (by omega) (by omega) (by omega)
        refine ok_iload 36 rfl rfl rfl (ok_iload 37 rfl rfl rfl (ok_ishr 38 rfl rfl (ok_iconst 39 rfl rfl (by decide) (ok_iand 40 rfl rfl ?_))))
        rw [e1]
        refine ok_iconst 41 rfl rfl (by decide) (ok_icmp_eq 42 182 rfl rfl rfl (fun h73 => ?_) (fun h73 => ?_))
        · exact nxt (by omega) (fun q => by have q1 := q.1; rw [b1'.mp h73] at q1; cases q1)
        · refine ok_aload_n 43 rfl rfl rfl (ok_iload 44 rfl rfl rfl (ok_iload 45 rfl rfl rfl (ok_callVI (M' := M_Mo_worked) (as := [_, _]) 46 rfl rfl ml_X12_244 (s_Mo_worked u3 ⟨by omega, by omega⟩ ⟨by omega, by omega⟩) rfl rfl (Nat.le_of_ble_eq_true rfl) ⟨Nat.le_of_ble_eq_true rfl, Nat.le_of_ble_eq_true rfl⟩ rfl (Nat.le_of_ble_eq_true rfl) (fun σ' z hz => ?_))))
          rw [hz.1, hz.2, u1]; clear hz z σ'
          have hb' : bt s j = false := by
            cases hq : bt s j with
            | false => rfl
            | true => exact absurd (b1'.mpr hq) h73
          obtain ⟨hc1, hc2⟩ := bitC (s := s) (j := j) (by omega) (by omega) hb'
          refine ok_iload_n 47 rfl rfl rfl (ok_icmp_lt 48 182 rfl rfl rfl (fun h85 => ?_) (fun h85 => ?_))
          · exact nxt (by omega) (fun q => by have := q.2.1; omega)
          · refine ok_aload_n 49 rfl rfl rfl (ok_getR 50 rfl rfl fl_X12_42 rfl rfl (ok_iload 51 rfl rfl rfl (ok_iconst 52 rfl rfl (by decide) (ok_iload 53 rfl rfl rfl (ok_ishl 54 rfl rfl (ok_ior 55 rfl rfl ?_))))))
            rw [e2]
            refine ok_lald 56 rfl rfl rfl (by omega) (ok_lconst (w := 0) 57 rfl rfl rfl (by decide) (ok_lcmp_ge 58 59 108 rfl rfl rfl rfl rfl (fun h101 => ?_) (fun h101 => ?_)))
            · have hok : okG n l (wk σ) (fun k => ρ 10 k) s j := ⟨hb', by omega, by omega⟩
              have vb : (b = 1 → ρ 10 (sB s j) ≤ 799999992 * (n - pc s - 1)) ∧ 0 ≤ ρ 10 (sB s j) := by
                refine ⟨fun hb1 => ?_, by omega⟩
                by_cases q : sB s j = p2 n - 1
                · rw [q, jA, if_neg (by omega)]; omega
                · have := (j4 (sB s j) hc2 (by omega)).2.2; omega
              refine ok_iload_n 61 rfl rfl rfl (ok_if_eq 62 137 rfl rfl rfl (fun h109 => ?_) (fun h109 => ?_))
              · refine ok_aload_n 78 rfl rfl rfl (ok_iload 79 rfl rfl rfl (ok_iload 80 rfl rfl rfl (ok_callVI (M' := M_Mo_worked) (as := [_, _]) 81 rfl rfl ml_X12_244 (s_Mo_worked u3 ⟨by omega, by omega⟩ ⟨by omega, by omega⟩) rfl rfl (Nat.le_of_ble_eq_true rfl) ⟨Nat.le_of_ble_eq_true rfl, Nat.le_of_ble_eq_true rfl⟩ rfl (Nat.le_of_ble_eq_true rfl) (fun σ' z hz => ?_))))
                rw [hz.1, hz.2, u1]; clear hz z σ'
                refine ok_i2l 82 rfl rfl (ok_aload_n 83 rfl rfl rfl (ok_getR 84 rfl rfl fl_X12_42 rfl rfl (ok_iload 85 rfl rfl rfl (ok_iconst 86 rfl rfl (by decide) (ok_iload 87 rfl rfl rfl (ok_ishl 88 rfl rfl (ok_ior 89 rfl rfl ?_)))))))
                rw [e2]
                refine ok_lald 90 rfl rfl rfl (by omega) (ok_mminL 91 rfl rfl ml_X12_247 ⟨Nat.le_of_ble_eq_true rfl, Nat.le_of_ble_eq_true rfl⟩ (ok_lst7 92 rfl rfl rfl (ok_aload_n 93 rfl rfl rfl (ok_getR 94 rfl rfl fl_X12_42 rfl rfl (ok_iload 95 rfl rfl rfl (ok_aload_n 96 rfl rfl rfl (ok_getR 97 rfl rfl fl_X12_42 rfl rfl (ok_iload 98 rfl rfl rfl (ok_lald 99 rfl rfl rfl (by omega) (ok_lload 100 rfl rfl rfl (ok_mmaxL 101 rfl rfl ml_X12_250 ⟨Nat.le_of_ble_eq_true rfl, Nat.le_of_ble_eq_true rfl⟩ (ok_last 102 rfl rfl rfl (by omega) (ok_inc6 103 rfl rfl rfl (by first | omega | (simp [up_if]; omega) | (simp [up_if] at *; omega)) (ok_goto 104 56 rfl rfl rfl ?_))))))))))))))
                obtain ⟨X, eX⟩ : ∃ x, x = cmbG b (wk σ (pc s) j) (ρ 10 (sB s j)) := ⟨_, rfl⟩
                have hX : 0 ≤ X ∧ X ≤ 799999992 * (n - pc s) := by
                  rw [eX]; unfold cmbG
                  split
                  · omega
                  · have := vb.1 (by omega); omega
                first | (have eX' : wk σ (pc s) j + ρ 10 (sB s j) = X := by
                           rw [eX]; unfold cmbG; rw [if_neg (by omega)]
                         rw [eX']) | (have eX' : min (wk σ (pc s) j) (ρ 10 (sB s j)) = X := by
                                       rw [eX]; unfold cmbG; rw [if_pos (by omega)]
                                      rw [eX'])
                have ev : ∀ k, s < k → up ρ 10 s (max (ρ 10 s) X) 10 k = ρ 10 k := fun k hk => up_nk _ _ _ _ (by omega)
                have eok : ∀ T j', s ≤ T → T < p2 n - 1 → 0 ≤ j' → j' < n → (okG n l (wk σ) (fun k => up ρ 10 s (max (ρ 10 s) X) 10 k) T j' ↔ okG n l (wk σ) (fun k => ρ 10 k) T j') := fun T j' a0 a1 a2 a3 => by
                  unfold okG
                  constructor
                  · rintro ⟨q1, q2, q3⟩; have := (bitC (s := T) (j := j') (by omega) (by omega) q1).2; dsimp only at q3; rw [ev _ (by omega)] at q3; exact ⟨q1, q2, q3⟩
                  · rintro ⟨q1, q2, q3⟩; have := (bitC (s := T) (j := j') (by omega) (by omega) q1).2; refine ⟨q1, q2, ?_⟩; dsimp only; rw [ev _ (by omega)]; exact q3
                refine ok_fg [some (vr 0), some (vi l), some (vi b), some (vi (p2 n - 1)), some (vi s), some (vi (pc s)), some (vi (j + 1)), none, none] ⟨rfl, rfl, rfl, rfl, rfl, rfl, rfl, trivial⟩ (ih2 (j + 1) _ ⟨by omega, by omega, fr_up j3 rfl, by rw [ev _ (by omega)]; exact jA, fun T a b' => ?_, by rw [up_same]; omega, by rw [up_same]; omega, ?_, ?_⟩ (by omega))
                · obtain ⟨y1, y2, y3⟩ := j4 T a b'
                  refine ⟨⟨fun j' a1 a2 a3 => ?_, ?_⟩, by rw [ev T a]; exact y2, by rw [ev T a]; exact y3⟩
                  · have hh := (eok T j' (by omega) b' a1 a2).mp a3
                    have := (bitC (s := T) (j := j') (by omega) (by omega) hh.1).2
                    dsimp only
                    rw [ev T a, ev _ (by omega)]
                    exact y1.1 j' a1 a2 hh
                  · dsimp only
                    rw [ev T a]
                    rcases y1.2 with q | ⟨j', q1, q2, q3, q4⟩
                    · exact Or.inl ⟨q.1, fun j' a1 a2 a3 => q.2 j' a1 a2 ((eok T j' (by omega) b' a1 a2).mp a3)⟩
                    · have := (bitC (s := T) (j := j') (by omega) (by omega) q3.1).2
                      exact Or.inr ⟨j', q1, q2, (eok T j' (by omega) b' q1 q2).mpr q3, by rw [ev _ (by omega)]; exact q4⟩
                · intro j' a1 a2 a3
                  have hh := (eok s j' (Int.le_refl _) (by omega) a1 (by omega)).mp a3
                  have h8 := (bitC (s := s) (j := j') (by omega) (by omega) hh.1).2
                  rw [up_same, ev _ h8]
                  by_cases q : j' = j
                  · rw [q, ← eX]; omega
                  · have := j7 j' a1 (by omega) hh; omega
                · unfold dpP
                  dsimp only
                  rw [up_same]
                  by_cases q : ρ 10 s < X
                  · refine Or.inr ⟨j, j1, by omega, (eok s j (Int.le_refl _) (by omega) j1 (by omega)).mpr hok, ?_⟩
                    rw [ev _ hc2, ← eX]; omega
                  · rcases j8 with y | ⟨j', q1, q2, q3, q4⟩
                    · have y1 : ρ 10 s = -1 := y.1
                      omega
                    · have h8 := (bitC (s := s) (j := j') (by omega) (by omega) q3.1).2
                      refine Or.inr ⟨j', q1, q2, (eok s j' (Int.le_refl _) (by omega) q1 q2).mpr q3, ?_⟩
                      have q5 : ρ 10 s = cmbG b (wk σ (pc s) j') (ρ 10 (sB s j')) := q4
                      rw [ev _ h8, ← q5]; omega
              · refine ok_aload_n 63 rfl rfl rfl (ok_iload 64 rfl rfl rfl (ok_iload 65 rfl rfl rfl (ok_callVI (M' := M_Mo_worked) (as := [_, _]) 66 rfl rfl ml_X12_244 (s_Mo_worked u3 ⟨by omega, by omega⟩ ⟨by omega, by omega⟩) rfl rfl (Nat.le_of_ble_eq_true rfl) ⟨Nat.le_of_ble_eq_true rfl, Nat.le_of_ble_eq_true rfl⟩ rfl (Nat.le_of_ble_eq_true rfl) (fun σ' z hz => ?_))))
                rw [hz.1, hz.2, u1]; clear hz z σ'
                refine ok_i2l 67 rfl rfl (ok_aload_n 68 rfl rfl rfl (ok_getR 69 rfl rfl fl_X12_42 rfl rfl (ok_iload 70 rfl rfl rfl (ok_iconst 71 rfl rfl (by decide) (ok_iload 72 rfl rfl rfl (ok_ishl 73 rfl rfl (ok_ior 74 rfl rfl ?_)))))))
                rw [e2]
                refine ok_lald 75 rfl rfl rfl (by omega) (ok_ladd 76 rfl rfl (by have := vb.1 (by omega); omega) (ok_goto 77 161 rfl rfl rfl (ok_lst7 92 rfl rfl rfl (ok_aload_n 93 rfl rfl rfl (ok_getR 94 rfl rfl fl_X12_42 rfl rfl (ok_iload 95 rfl rfl rfl (ok_aload_n 96 rfl rfl rfl (ok_getR 97 rfl rfl fl_X12_42 rfl rfl (ok_iload 98 rfl rfl rfl (ok_lald 99 rfl rfl rfl (by omega) (ok_lload 100 rfl rfl rfl (ok_mmaxL 101 rfl rfl ml_X12_250 ⟨Nat.le_of_ble_eq_true rfl, Nat.le_of_ble_eq_true rfl⟩ (ok_last 102 rfl rfl rfl (by omega) (ok_inc6 103 rfl rfl rfl (by first | omega | (simp [up_if]; omega) | (simp [up_if] at *; omega)) (ok_goto 104 56 rfl rfl rfl ?_)))))))))))))))
                obtain ⟨X, eX⟩ : ∃ x, x = cmbG b (wk σ (pc s) j) (ρ 10 (sB s j)) := ⟨_, rfl⟩
                have hX : 0 ≤ X ∧ X ≤ 799999992 * (n - pc s) := by
                  rw [eX]; unfold cmbG
                  split
                  · omega
                  · have := vb.1 (by omega); omega
                first | (have eX' : wk σ (pc s) j + ρ 10 (sB s j) = X := by
                           rw [eX]; unfold cmbG; rw [if_neg (by omega)]
                         rw [eX']) | (have eX' : min (wk σ (pc s) j) (ρ 10 (sB s j)) = X := by
                                       rw [eX]; unfold cmbG; rw [if_pos (by omega)]
                                      rw [eX'])
                have ev : ∀ k, s < k → up ρ 10 s (max (ρ 10 s) X) 10 k = ρ 10 k := fun k hk => up_nk _ _ _ _ (by omega)
                have eok : ∀ T j', s ≤ T → T < p2 n - 1 → 0 ≤ j' → j' < n → (okG n l (wk σ) (fun k => up ρ 10 s (max (ρ 10 s) X) 10 k) T j' ↔ okG n l (wk σ) (fun k => ρ 10 k) T j') := fun T j' a0 a1 a2 a3 => by
                  unfold okG
                  constructor
                  · rintro ⟨q1, q2, q3⟩; have := (bitC (s := T) (j := j') (by omega) (by omega) q1).2; dsimp only at q3; rw [ev _ (by omega)] at q3; exact ⟨q1, q2, q3⟩
                  · rintro ⟨q1, q2, q3⟩; have := (bitC (s := T) (j := j') (by omega) (by omega) q1).2; refine ⟨q1, q2, ?_⟩; dsimp only; rw [ev _ (by omega)]; exact q3
                refine ok_fg [some (vr 0), some (vi l), some (vi b), some (vi (p2 n - 1)), some (vi s), some (vi (pc s)), some (vi (j + 1)), none, none] ⟨rfl, rfl, rfl, rfl, rfl, rfl, rfl, trivial⟩ (ih2 (j + 1) _ ⟨by omega, by omega, fr_up j3 rfl, by rw [ev _ (by omega)]; exact jA, fun T a b' => ?_, by rw [up_same]; omega, by rw [up_same]; omega, ?_, ?_⟩ (by omega))
                · obtain ⟨y1, y2, y3⟩ := j4 T a b'
                  refine ⟨⟨fun j' a1 a2 a3 => ?_, ?_⟩, by rw [ev T a]; exact y2, by rw [ev T a]; exact y3⟩
                  · have hh := (eok T j' (by omega) b' a1 a2).mp a3
                    have := (bitC (s := T) (j := j') (by omega) (by omega) hh.1).2
                    dsimp only
                    rw [ev T a, ev _ (by omega)]
                    exact y1.1 j' a1 a2 hh
                  · dsimp only
                    rw [ev T a]
                    rcases y1.2 with q | ⟨j', q1, q2, q3, q4⟩
                    · exact Or.inl ⟨q.1, fun j' a1 a2 a3 => q.2 j' a1 a2 ((eok T j' (by omega) b' a1 a2).mp a3)⟩
                    · have := (bitC (s := T) (j := j') (by omega) (by omega) q3.1).2
                      exact Or.inr ⟨j', q1, q2, (eok T j' (by omega) b' q1 q2).mpr q3, by rw [ev _ (by omega)]; exact q4⟩
                · intro j' a1 a2 a3
                  have hh := (eok s j' (Int.le_refl _) (by omega) a1 (by omega)).mp a3
                  have h8 := (bitC (s := s) (j := j') (by omega) (by omega) hh.1).2
                  rw [up_same, ev _ h8]
                  by_cases q : j' = j
                  · rw [q, ← eX]; omega
                  · have := j7 j' a1 (by omega) hh; omega
                · unfold dpP
                  dsimp only
                  rw [up_same]
                  by_cases q : ρ 10 s < X
                  · refine Or.inr ⟨j, j1, by omega, (eok s j (Int.le_refl _) (by omega) j1 (by omega)).mpr hok, ?_⟩
                    rw [ev _ hc2, ← eX]; omega
                  · rcases j8 with y | ⟨j', q1, q2, q3, q4⟩
                    · have y1 : ρ 10 s = -1 := y.1
                      omega
                    · have h8 := (bitC (s := s) (j := j') (by omega) (by omega) q3.1).2
                      refine Or.inr ⟨j', q1, q2, (eok s j' (Int.le_refl _) (by omega) q1 q2).mpr q3, ?_⟩
                      have q5 : ρ 10 s = cmbG b (wk σ (pc s) j') (ρ 10 (sB s j')) := q4
                      rw [ev _ h8, ← q5]; omega
            · refine ok_goto 60 182 rfl rfl rfl ?_
              exact nxt (by omega) (fun q => by have q9 : 0 ≤ ρ 10 (sB s j) := q.2.2; omega)
  refine ok_iconst 0 rfl rfl (by decide) (ok_aload_n 1 rfl rfl rfl (ok_getI 2 rfl rfl fl_X12_234 rfl rfl (Or.inl rfl) (ok_ishl 3 rfl rfl ?_)))
  rw [← en, z1]
  refine ok_iconst 4 rfl rfl (by decide) (ok_isub 5 rfl rfl (by first | omega | (simp [up_if]; omega) | (simp [up_if] at *; omega)) (ok_ist3 6 rfl rfl rfl (ok_aload_n 7 rfl rfl rfl (ok_getR 8 rfl rfl fl_X12_42 rfl rfl (ok_iload_n 9 rfl rfl rfl (ok_iload_n 10 rfl rfl rfl (ok_if_eq 11 22 rfl rfl rfl (fun h15 => ?_) (fun h15 => ?_))))))))
  · refine ok_ldc2 14 (9223372036854775807) rfl rfl kc_X12_239 (by decide) (ok_last 15 rfl rfl rfl (by first | omega | (simp [up_if]; omega) | (simp [up_if] at *; omega)) ?_)
    first | exact main _ (fr_up fr.rf rfl) (by rw [up_same, if_neg (by omega)]) | exact main _ (fr_up fr.rf rfl) (by rw [up_same, if_pos (by omega)])
  · refine ok_lconst (w := 0) 12 rfl rfl rfl (by decide) (ok_goto 13 25 rfl rfl rfl (ok_last 15 rfl rfl rfl (by first | omega | (simp [up_if]; omega) | (simp [up_if] at *; omega)) ?_))
    first | exact main _ (fr_up fr.rf rfl) (by rw [up_same, if_neg (by omega)]) | exact main _ (fr_up fr.rf rfl) (by rw [up_same, if_pos (by omega)])
end
section
/-! from pairings to sets, and even tables -/
theorem bt_cs {f : Int → Int} : ∀ {k : Nat}, (∀ i : Int, 0 ≤ i → i < k → 0 ≤ f i) → ∀ {c : Int}, 0 ≤ c → (bt (cs f k) c = true ↔ ∃ i : Int, 0 ≤ i ∧ i < k ∧ f i = c)
  | 0, _, c, hc => by
    show bt 0 c = true ↔ _
    rw [bt_0]
    constructor
    · intro h; cases h
    · rintro ⟨i, h1, h2, -⟩; omega
  | k + 1, h, c, hc => by
    show bt (sB (cs f k) (f k)) c = true ↔ _
    rw [bt_sB (h k (by omega) (by omega)) hc, Bool.or_eq_true, bt_cs (k := k) (fun i a b => h i a (by omega)) hc, decide_eq_true_eq]
    constructor
    · rintro (⟨i, h1, h2, h3⟩ | h1)
      · exact ⟨i, h1, by omega, h3⟩
      · exact ⟨k, by omega, by omega, h1.symm⟩
    · rintro ⟨i, h1, h2, h3⟩
      by_cases q : i = k
      · exact Or.inr (by rw [← h3, q])
      · exact Or.inl ⟨i, h1, by omega, h3⟩
/-- columns that rows have, one each -/
def perm (n : Int) (f : Int → Int) : Prop := (∀ i, 0 ≤ i → i < n → 0 ≤ f i ∧ f i < n) ∧ ∀ i k, 0 ≤ i → i < k → k < n → f i ≠ f k
theorem cpl_of {n : Int} {op : Int → Int → Prop} {f : Int → Int} (hn : 0 ≤ n) (hf : perm n f) (ho : ∀ i, 0 ≤ i → i < n → op i (f i)) : cpl n op n.toNat 0 := by
  have key : ∀ m : Nat, (m : Int) ≤ n → cpl n op m (cs f (n - m).toNat) := by
    intro m
    induction m with
    | zero => intro _; trivial
    | succ m ih =>
      intro hm
      have e : (n - (m : Nat)).toNat = (n - ((m + 1 : Nat) : Int)).toNat + 1 := by omega
      have h1 := ih (by omega)
      have hk : (((n - ((m + 1 : Nat) : Int)).toNat : Nat) : Int) = n - ((m + 1 : Nat) : Int) := by omega
      rw [e] at h1
      have h2 : cpl n op m (sB (cs f (n - ((m + 1 : Nat) : Int)).toNat) (f (((n - ((m + 1 : Nat) : Int)).toNat : Nat) : Int))) := h1
      rw [hk] at h2
      have hb := hf.1 (n - ((m + 1 : Nat) : Int)) (by omega) (by omega)
      refine ⟨f (n - ((m + 1 : Nat) : Int)), hb.1, hb.2, ?_, ho _ (by omega) (by omega), h2⟩
      cases hq : bt (cs f (n - ((m + 1 : Nat) : Int)).toNat) (f (n - ((m + 1 : Nat) : Int))) with
      | false => rfl
      | true =>
        obtain ⟨i, a1, a2, a3⟩ := (bt_cs (fun i a b => (hf.1 i a (by omega)).1) hb.1).mp hq
        exact absurd a3 (hf.2 i _ a1 (by omega) (by omega))
  have := key n.toNat (by omega)
  rw [show (n - ((n.toNat : Nat) : Int)).toNat = 0 by omega] at this
  exact this
theorem lexCh_perm {n : Int} {op : Int → Int → Prop} {ch : Int → Int} (h : lexCh n op ch) : perm n ch ∧ ∀ i, 0 ≤ i → i < n → op (pc (cs ch i.toNat)) (ch i) := by
  refine ⟨⟨fun i a b => ⟨(h i a b).1, (h i a b).2.1⟩, fun i k a b c q => ?_⟩, fun i a b => (h i a b).2.2.1.2.1⟩
  have h1 := (h k (by omega) c).2.2.1.1
  have h2 : bt (cs ch k.toNat) (ch k) = true := (bt_cs (fun j x y => (h j x (by omega)).1) (h k (by omega) c).1).mpr ⟨i, a, by omega, q⟩
  rw [h1] at h2
  cases h2
theorem lexCh_pc {n : Int} {op : Int → Int → Prop} {ch : Int → Int} (hn : n ≤ 8) (h : lexCh n op ch) : ∀ i : Nat, (i : Int) ≤ n → 0 ≤ cs ch i ∧ cs ch i < p2 n ∧ pc (cs ch i) = i := by
  intro i
  induction i with
  | zero => intro h0; exact ⟨Int.le_refl _, by show (0 : Int) < p2 n; exact Int.lt_of_lt_of_le (by decide) (bit2 (n := n) (by omega)).2.1, by show pc 0 = 0; simp [pc]⟩
  | succ i ih =>
    intro hi
    obtain ⟨h1, h2, h3⟩ := ih (by omega)
    have hh := h i (by omega) (by omega)
    have h4 := (bit2 (n := n) (by omega)).2.2.1
    rw [Int.toNat_natCast] at hh
    obtain ⟨l1, l2⟩ := sB_lt (s := cs ch i) (j := ch i) (n := n) ⟨h1, h2⟩ ⟨hh.1, hh.2.1⟩
    have h5 := (bitC (s := cs ch i) (j := ch i) ⟨h1, by omega⟩ ⟨hh.1, by omega⟩ hh.2.2.1.1).1
    refine ⟨l1, l2, ?_⟩
    have h6 : cs ch (i + 1) = sB (cs ch i) (ch i) := rfl
    rw [h6]
    omega
theorem s2_sm (f : Int → Int) : ∀ n : Nat, s2 (fun k => f (k : Int)) n = sm f n
  | 0 => rfl
  | n + 1 => by
    show s2 (fun k => f (k : Int)) n + f n = sm f n + f n
    rw [s2_sm f n]
/-- an even table of numbers -/
def EvW (n : Int) (w : Int → Int → Int) (m : Int) : Prop := (∀ i j, 0 ≤ i → i < n → 0 ≤ j → j < n → 0 ≤ w i j) ∧ (∀ i, 0 ≤ i → i < n → sm (fun j => w i j) n.toNat = m) ∧ (∀ j, 0 ≤ j → j < n → sm (fun i => w i j) n.toNat = m)
/-- there is a choice of cells above 0, through a cell above 0 where one is told -/
theorem birk {n : Int} {w : Int → Int → Int} {m : Int} (h : EvW n w m) (hm : 0 < m) (hn : 0 ≤ n) : ∃ f, perm n f ∧ ∀ i, 0 ≤ i → i < n → 0 < w i (f i) := by
  obtain ⟨h1, h2, h3⟩ := h
  obtain ⟨f, hf⟩ := hall (n := n.toNat) (w := fun r c => w r c) (A := fun _ => true) (B := fun _ => true) (e := fun _ => 0) (m := m) (fun r c a b => h1 r c (by omega) (by omega) (by omega) (by omega)) (fun r _ => Int.le_refl _)
    (fun r a _ => by simp only [if_true]; rw [s2_sm (fun c => w r c), h2 r (by omega) (by omega)]; omega) (fun c a _ => by simp only [if_true]; rw [s2_sm (fun r => w r c), h3 c (by omega) (by omega)]; omega) (by simp only [if_true]; rw [s2_0]; exact hm)
  refine ⟨fun i => (f i.toNat : Int), ⟨fun i a b => ?_, fun i k a b c q => ?_⟩, fun i a b => ?_⟩
  · have := (hf.1 i.toNat (by omega) rfl).1
    dsimp only
    exact ⟨by omega, by omega⟩
  · have := hf.2 i.toNat k.toNat (by omega) (by omega) rfl rfl (by dsimp only at q; omega)
    omega
  · have := (hf.1 i.toNat (by omega) rfl).2
    simp at this
    rwa [show max i 0 = i by omega] at this
theorem birk2 {n : Int} {w : Int → Int → Int} {m i0 j0 : Int} (h : EvW n w m) (hi : 0 ≤ i0 ∧ i0 < n) (hj : 0 ≤ j0 ∧ j0 < n) (hp : 0 < w i0 j0) : ∃ f, perm n f ∧ f i0 = j0 ∧ ∀ i, 0 ≤ i → i < n → 0 < w i (f i) := by
  obtain ⟨h1, h2, h3⟩ := h
  obtain ⟨N, eN⟩ : ∃ N : Nat, (N : Int) = n := ⟨n.toNat, by omega⟩
  obtain ⟨a, ea⟩ : ∃ N : Nat, (N : Int) = i0 := ⟨i0.toNat, by omega⟩
  obtain ⟨b, eb⟩ : ∃ N : Nat, (N : Int) = j0 := ⟨j0.toNat, by omega⟩
  subst eN; subst ea; subst eb
  simp only [Int.toNat_natCast] at h2 h3
  have hrow : ∀ r : Nat, r < N → s2 (fun c => w r c) N = m := fun r hr => by rw [s2_sm (fun c => w r c)]; exact h2 r (by omega) (by omega)
  have hcol : ∀ c : Nat, c < N → s2 (fun r => w r c) N = m := fun c hc => by rw [s2_sm (fun r => w r c)]; exact h3 c (by omega) (by omega)
  have hnn : ∀ r c : Nat, r < N → c < N → 0 ≤ w r c := fun r c x y => h1 r c (by omega) (by omega) (by omega) (by omega)
  obtain ⟨f, hf⟩ := hall (n := N) (w := fun r c => w r c) (A := fun r => decide (r ≠ a)) (B := fun c => decide (c ≠ b)) (e := fun r => w r b) (m := m) hnn (fun r x => hnn r b x (by omega))
    (fun r x _ => by
      have e1 : s2 (fun c => if decide (c ≠ b) = true then w r c else 0) N = s2 (fun c => w r c - (if c = b then w r c else 0)) N := s2_cg (fun c _ => by
        by_cases q : c = b
        · simp [q]
        · simp [q])
      rw [e1, s2_sub, s2_one (fun c => w r c) (by omega), hrow r x]
      exact Int.le_refl _)
    (fun c x _ => by
      rw [← hcol c x]
      exact s2_le (fun r y => by split; exact Int.le_refl _; exact hnn r c y x))
    (by
      have e1 : s2 (fun r => if decide (r ≠ a) = true then w r b else 0) N = s2 (fun r => w r b - (if r = a then w r b else 0)) N := s2_cg (fun r _ => by
        by_cases q : r = a
        · simp [q]
        · simp [q])
      rw [e1, s2_sub, s2_one (fun r => w r b) (by omega), hcol b (by omega)]
      omega)
  refine ⟨fun i => if i = a then b else (f i.toNat : Int), ⟨fun i x y => ?_, fun i k x y z q => ?_⟩, if_pos rfl, fun i x y => ?_⟩
  · dsimp only
    split
    · exact ⟨by omega, by omega⟩
    · next q =>
      have := (hf.1 i.toNat (by omega) (by simp; omega)).1
      exact ⟨by omega, by omega⟩
  · dsimp only at q
    have nb : ∀ i : Int, 0 ≤ i → i < N → i ≠ a → (f i.toNat : Int) ≠ b := fun i x y z => by
      have := (hf.1 i.toNat (by omega) (by simp; omega)).2
      simp at this
      have := this.2
      omega
    by_cases q1 : i = a
    · rw [if_pos q1, if_neg (by omega)] at q
      exact nb k (by omega) z (by omega) q.symm
    · by_cases q2 : k = a
      · rw [if_neg q1, if_pos q2] at q
        exact nb i x (by omega) q1 q
      · rw [if_neg q1, if_neg q2] at q
        have := hf.2 i.toNat k.toNat (by omega) (by omega) (by simp; omega) (by simp; omega) (by omega)
        omega
  · dsimp only
    split
    · next q => rw [q]; exact hp
    · next q =>
      have := (hf.1 i.toNat (by omega) (by simp; omega)).2
      simp at this
      have h9 := this.1
      rwa [show max i 0 = i by omega] at h9
/-- every column has one row -/
theorem perm_col {n : Int} {f : Int → Int} (hn : 0 ≤ n) (h : perm n f) (v : Int) {j : Int} (hj : 0 ≤ j ∧ j < n) : sm (fun i => if f i = j then v else 0) n.toNat = v := by
  obtain ⟨N, eN⟩ : ∃ N : Nat, (N : Int) = n := ⟨n.toNat, by omega⟩
  subst eN
  rw [Int.toNat_natCast, ← s2_sm]
  have cnt1 : ∀ c : Nat, c < N → s2 (fun i : Nat => if f i = c then (1 : Int) else 0) N ≤ 1 := by
    intro c hc
    by_cases q : ∃ i : Nat, i < N ∧ f i = c
    · obtain ⟨i, a1, a2⟩ := q
      have : s2 (fun k : Nat => if f k = c then (1 : Int) else 0) N = s2 (fun k => if k = i then (1 : Int) else 0) N := s2_cg (fun k hk => by
        by_cases z : k = i
        · rw [if_pos z, z, if_pos a2]
        · rw [if_neg z, if_neg]
          intro y
          rcases Nat.lt_or_ge k i with w | w
          · exact h.2 k i (by omega) (by omega) (by omega) (by rw [y, a2])
          · exact h.2 i k (by omega) (by omega) (by omega) (by rw [y, a2]))
      rw [this, s2_one (fun _ => 1) a1]
      exact Int.le_refl _
    · have : s2 (fun k : Nat => if f k = c then (1 : Int) else 0) N = s2 (fun _ => 0) N := s2_cg (fun k hk => if_neg (fun y => q ⟨k, hk, y⟩))
      rw [this, s2_0]
      decide
  have tot : s2 (fun c : Nat => s2 (fun i : Nat => if f i = c then (1 : Int) else 0) N) N = s2 (fun _ => 1) N := by
    rw [s2_swap (fun c i : Nat => if f i = c then (1 : Int) else 0) N N]
    refine s2_cg (fun i hi => ?_)
    have hb := h.1 i (by omega) (by omega)
    have : s2 (fun c : Nat => if f i = c then (1 : Int) else 0) N = s2 (fun c => if c = (f i).toNat then (1 : Int) else 0) N := s2_cg (fun c hc => by
      by_cases z : f i = c
      · rw [if_pos z, if_pos (by omega)]
      · rw [if_neg z, if_neg (by omega)])
    rw [this, s2_one (fun _ => 1) (by omega)]
  have one : ∀ c : Nat, c < N → s2 (fun i : Nat => if f i = c then (1 : Int) else 0) N = 1 := by
    intro c hc
    have h1 := cnt1 c hc
    have h2 : s2 (fun c' : Nat => s2 (fun i : Nat => if f i = c' then (1 : Int) else 0) N) N ≤ s2 (fun c' => (1 : Int) - (if c' = c then (1 - s2 (fun i : Nat => if f i = c' then (1 : Int) else 0) N) else 0)) N := s2_le (fun c' hc' => by
      split
      · omega
      · have := cnt1 c' hc'; omega)
    rw [s2_sub, s2_one (fun c' => 1 - s2 (fun i : Nat => if f i = c' then (1 : Int) else 0) N) hc, tot] at h2
    omega
  have e := one j.toNat (by omega)
  have e2 : s2 (fun i : Nat => if f i = j then v else 0) N = s2 (fun i : Nat => (if f i = ((j.toNat : Nat) : Int) then (1 : Int) else 0) * v) N := s2_cg (fun i hi => by
    by_cases z : f i = j
    · rw [if_pos z, if_pos (by omega)]; omega
    · rw [if_neg z, if_neg (by omega)]; omega)
  rw [e2, s2_mul, e]
  omega
end
section
def wo (σ : eS) (s n j : Int) : eS := fun c k => if c = 0 ∧ k = 22 then n else if c = 9 ∧ 0 ≤ k ∧ k < j then σ 3 (64 * s + k) else σ c k
theorem wo_0 (σ : eS) (s n : Int) : up σ 0 22 n = wo σ s n 0 := by
  funext c k
  simp only [up_if, wo]
  by_cases h : c = 0 ∧ k = 22
  · rw [if_pos h, if_pos h]
  · rw [if_neg h, if_neg h, if_neg (by omega)]
theorem wo_s {σ : eS} {s n j : Int} (h : 0 ≤ j) : up (wo σ s n j) 9 j (σ 3 (64 * s + j)) = wo σ s n (j + 1) := by
  funext c k
  simp only [up_if, wo]
  by_cases h1 : c = 9 ∧ k = j
  · rw [if_pos h1, if_neg (by omega), if_pos ⟨h1.1, by omega, by omega⟩, h1.2]
  · rw [if_neg h1]
    by_cases h2 : c = 0 ∧ k = 22
    · rw [if_pos h2, if_pos h2]
    · rw [if_neg h2, if_neg h2]
      by_cases h3 : c = 9 ∧ 0 ≤ k ∧ k < j
      · rw [if_pos h3, if_pos ⟨h3.1, by omega, by omega⟩]
      · rw [if_neg h3, if_neg (by omega)]
theorem s_Mo_worksOn {σ : eS} {s : Int} (hB : iB1 σ) (hs : tabB σ s) : MtV shB M_Mo_worksOn [vr 0, vi s] σ (fun σ' => σ' = wo σ s (σ 1 s) (σ 1 s * σ 1 s)) := by
  refine Mt.of okM_Mo_worksOn (Nat.le_of_ble_eq_true rfl) (fun hk hg => ?_)
  obtain ⟨s1, s2, s3⟩ := id hs
  obtain ⟨g1, g2, -⟩ := hB.1 s s1 s2
  obtain ⟨n, en⟩ : ∃ x, x = σ 1 s := ⟨_, rfl⟩
  rw [← en] at s3 g1 g2 ⊢
  obtain ⟨q1, q2⟩ := sq8 (n := n) ⟨by omega, by omega⟩
  refine ok_aload_n 0 rfl rfl rfl (ok_aload_n 1 rfl rfl rfl (ok_getR 2 rfl rfl fl_X12_7 rfl rfl (ok_iload_n 3 rfl rfl rfl (ok_iald 4 rfl rfl rfl (by first | omega | (simp [up_if]; omega) | (simp [up_if] at *; omega)) (ok_putI 5 rfl rfl fl_X12_234 rfl rfl rfl rfl ?_)))))
  rw [← en, wo_0 σ s n]
  refine ok_iconst 6 rfl rfl (by decide) (ok_ist2 7 rfl rfl rfl ?_)
  refine lpO (fun j : Int => [some (vr 0), some (vi s), some (vi j)]) (fun j => wo σ s n j) (fun j => 0 ≤ j ∧ j ≤ n * n) (fun j => (n * n - j).toNat) ?_ 0 ⟨by omega, by omega⟩
  rintro j ⟨j1, j2⟩ ih
  have e22 : wo σ s n j 0 22 = n := by simp [wo]
  have e3 : ∀ k, wo σ s n j 3 k = σ 3 k := fun k => by simp [wo]
  refine ok_iload_n 8 rfl rfl rfl (ok_aload_n 9 rfl rfl rfl (ok_getI 10 rfl rfl fl_X12_234 rfl rfl (Or.inl rfl) (ok_aload_n 11 rfl rfl rfl (ok_getI 12 rfl rfl fl_X12_234 rfl rfl (Or.inl rfl) (ok_imul 13 rfl rfl (by rw [e22]; omega) ?_)))))
  rw [e22]
  refine ok_icmp_ge 14 48 rfl rfl rfl (fun h22 => ?_) (fun h22 => ?_)
  · refine ok_vret 29 rfl rfl rfl ?_
    exact ⟨rfl, by rw [show j = n * n by omega]⟩
  · refine ok_aload_n 15 rfl rfl rfl (ok_getR 16 rfl rfl fl_X12_39 rfl rfl (ok_iload_n 17 rfl rfl rfl (ok_aload_n 18 rfl rfl rfl (ok_getR 19 rfl rfl fl_X12_16 rfl rfl (ok_bipush 20 rfl rfl (by decide) (by decide) (ok_iload_n 21 rfl rfl rfl (ok_imul 22 rfl rfl (by first | omega | (simp [up_if]; omega) | (simp [up_if] at *; omega)) (ok_iload_n 23 rfl rfl rfl (ok_iadd 24 rfl rfl (by first | omega | (simp [up_if]; omega) | (simp [up_if] at *; omega)) (ok_iald 25 rfl rfl rfl (by first | omega | (simp [up_if]; omega) | (simp [up_if] at *; omega)) (ok_iast 26 rfl rfl rfl (by first | omega | (simp [up_if]; omega) | (simp [up_if] at *; omega)) (ok_inc2 27 rfl rfl rfl (by first | omega | (simp [up_if]; omega) | (simp [up_if] at *; omega)) (ok_goto 28 12 rfl rfl rfl ?_)))))))))))))
    rw [e3, wo_s j1]
    exact ih (j + 1) ⟨by omega, by omega⟩ (by omega)
theorem s_Mo_isLeft {σ : eS} (h : nW σ) : MtI shB M_Mo_isLeft [vr 0] σ (fun σ' z => σ' = σ ∧ ((z = 1 ∧ ∃ k, 0 ≤ k ∧ k < σ 0 22 * σ 0 22 ∧ 0 < σ 9 k) ∨ (z = 0 ∧ ∀ k, 0 ≤ k → k < σ 0 22 * σ 0 22 → σ 9 k ≤ 0))) := by
  refine Mt.of okM_Mo_isLeft (Nat.le_of_ble_eq_true rfl) (fun hk hg => ?_)
  obtain ⟨n, en⟩ : ∃ x, x = σ 0 22 := ⟨_, rfl⟩
  have hn : 1 ≤ n ∧ n ≤ 8 := by rw [en]; exact h
  obtain ⟨q1, q2⟩ := sq8 (n := n) ⟨by omega, by omega⟩
  rw [← en]
  refine ok_iconst 0 rfl rfl (by decide) (ok_ist1 1 rfl rfl rfl ?_)
  refine lpO (fun j : Int => [some (vr 0), some (vi j)]) (fun _ => σ) (fun j => 0 ≤ j ∧ j ≤ n * n ∧ ∀ k, 0 ≤ k → k < j → σ 9 k ≤ 0) (fun j => (n * n - j).toNat) ?_ 0 ⟨by omega, by omega, fun k a b => by omega⟩
  rintro j ⟨j1, j2, j3⟩ ih
  refine ok_iload_n 2 rfl rfl rfl (ok_aload_n 3 rfl rfl rfl (ok_getI 4 rfl rfl fl_X12_234 rfl rfl (Or.inl rfl) (ok_aload_n 5 rfl rfl rfl (ok_getI 6 rfl rfl fl_X12_234 rfl rfl (Or.inl rfl) (ok_imul 7 rfl rfl (by rw [← en]; omega) ?_)))))
  rw [← en]
  refine ok_icmp_ge 8 32 rfl rfl rfl (fun h12 => ?_) (fun h12 => ?_)
  · refine ok_iconst 18 rfl rfl (by decide) (ok_zret 19 rfl rfl rfl (by first | omega | (simp [up_if]; omega) | (simp [up_if] at *; omega)) ?_)
    exact ⟨_, rfl, rfl, Or.inr ⟨rfl, fun k a b => j3 k a (by omega)⟩⟩
  · refine ok_aload_n 9 rfl rfl rfl (ok_getR 10 rfl rfl fl_X12_39 rfl rfl (ok_iload_n 11 rfl rfl rfl (ok_iald 12 rfl rfl rfl (by first | omega | (simp [up_if]; omega) | (simp [up_if] at *; omega)) (ok_if_le 13 26 rfl rfl rfl (fun h21 => ?_) (fun h21 => ?_)))))
    · refine ok_inc1 16 rfl rfl rfl (by first | omega | (simp [up_if]; omega) | (simp [up_if] at *; omega)) (ok_goto 17 2 rfl rfl rfl ?_)
      exact ih (j + 1) ⟨by omega, by omega, lt_ext j3 h21⟩ (by omega)
    · refine ok_iconst 14 rfl rfl (by decide) (ok_zret 15 rfl rfl rfl (by first | omega | (simp [up_if]; omega) | (simp [up_if] at *; omega)) ?_)
      exact ⟨_, rfl, rfl, Or.inl ⟨rfl, j, j1, by omega, h21⟩⟩
/-! what the greatest sums and least cells tell -/
theorem dp_ge {n l sums : Int} {w : Int → Int → Int} {v : Int → Int} (hn : 1 ≤ n ∧ n ≤ 8) (hw : ∀ i j, 0 ≤ i → i < n → 0 ≤ j → j < n → 0 ≤ w i j) (ha : v (p2 n - 1) = (if sums = 0 then 9223372036854775807 else 0)) (hd : ∀ T, 0 ≤ T → T < p2 n - 1 → dpG n l sums w v T) :
    ∀ (m : Nat) (T : Int), 0 ≤ T → T < p2 n → (n - pc T).toNat = m → cpl n (fun i j => l ≤ w i j) m T → 0 ≤ v T ∧ (sums = 0 → 1 ≤ l → 1 ≤ v T) := by
  obtain ⟨z1, z2, z3, z4⟩ := bit2 (n := n) (by omega)
  intro m
  induction m with
  | zero =>
    intro T h1 h2 h3 _
    have : T = p2 n - 1 := by
      by_cases q : T = p2 n - 1
      · exact q
      · have := (bitL (s := T) (n := n) (by omega) (by omega)).1 (by omega); omega
    rw [this, ha]
    split
    · exact ⟨by decide, fun _ _ => by decide⟩
    · exact ⟨by decide, fun q => by omega⟩
  | succ m ih =>
    intro T h1 h2 h3 ⟨j, a1, a2, a3, a4, a5⟩
    have hp := bitL (s := T) (n := n) (by omega) (by omega)
    have hT : T < p2 n - 1 := by
      by_cases q : T = p2 n - 1
      · have := hp.2.1 q; omega
      · omega
    have hlt := hp.1 hT
    have hc := bitC (s := T) (j := j) (by omega) (by omega) a3
    have hs := sB_lt (s := T) (j := j) (n := n) ⟨h1, h2⟩ ⟨a1, a2⟩
    have e : n - ((m + 1 : Nat) : Int) = pc T := by omega
    rw [e] at a4
    have hi := ih (sB T j) hs.1 hs.2 (by omega) a5
    have hg := (hd T h1 hT).1 j a1 a2 ⟨a3, a4, hi.1⟩
    have hwn := hw (pc T) j hp.2.2.1 hlt a1 a2
    unfold cmbG at hg
    split at hg
    · next q =>
      refine ⟨by omega, fun _ hl => ?_⟩
      have := hi.2 q hl
      omega
    · next q => exact ⟨by omega, fun y => absurd y q⟩
theorem dp_le {n l : Int} {w : Int → Int → Int} {v : Int → Int} {x : Int} (hx : 1 ≤ x) (hn : 1 ≤ n ∧ n ≤ 8) (hd : ∀ T, 0 ≤ T → T < p2 n - 1 → dpG n l 0 w v T) :
    ∀ (m : Nat) (T : Int), 0 ≤ T → T < p2 n → (n - pc T).toNat = m → x ≤ v T → cpl n (fun i j => x ≤ w i j) m T := by
  obtain ⟨z1, z2, z3, z4⟩ := bit2 (n := n) (by omega)
  intro m
  induction m with
  | zero => intro T h1 h2 h3 _; trivial
  | succ m ih =>
    intro T h1 h2 h3 h4
    have hp := bitL (s := T) (n := n) (by omega) (by omega)
    have hT : T < p2 n - 1 := by
      by_cases q : T = p2 n - 1
      · have := hp.2.1 q; omega
      · omega
    have hlt := hp.1 hT
    rcases (hd T h1 hT).2 with q | ⟨j, a1, a2, a3, a4⟩
    · have := q.1; omega
    · have hc := bitC (s := T) (j := j) (by omega) (by omega) a3.1
      have hs := sB_lt (s := T) (j := j) (n := n) ⟨h1, h2⟩ ⟨a1, a2⟩
      unfold cmbG at a4
      rw [if_pos rfl] at a4
      have e : n - ((m + 1 : Nat) : Int) = pc T := by omega
      refine ⟨j, a1, a2, a3.1, ?_, ih (sB T j) hs.1 hs.2 (by omega) (by omega)⟩
      dsimp only
      rw [e]
      omega
theorem cpl_mono {n : Int} {op op' : Int → Int → Prop} (h : ∀ i j, 0 ≤ i → i < n → 0 ≤ j → j < n → op i j → op' i j) : ∀ (m : Nat) (T : Int), (m : Int) ≤ n → cpl n op m T → cpl n op' m T := by
  intro m
  induction m with
  | zero => intro T _ _; trivial
  | succ m ih =>
    intro T hm ⟨j, a1, a2, a3, a4, a5⟩
    exact ⟨j, a1, a2, a3, h _ j (by omega) (by omega) a1 a2 a4, ih _ (by omega) a5⟩
/-- a choice of cells that are so much at least -/
def chB (σ : eS) (n l : Int) (ch : Int → Int) : Prop := perm n ch ∧ ∀ i, 0 ≤ i → i < n → l ≤ wk σ i (ch i)
theorem s_Mo_chooseGreatest {σ : eS} {l : Int} (h : nW σ) (hw : wBd σ) (hl : 0 ≤ l) (hc : cpl (σ 0 22) (fun i j => l ≤ wk σ i j) (σ 0 22).toNat 0) : MtL shB M_Mo_chooseGreatest [vr 0, vi l] σ (fun σ' z => fr (fun c _ => c = 10 ∨ c = 11) σ σ' ∧ z = σ' 10 0 ∧ chB σ (σ 0 22) l (fun i => σ' 11 i)) := by
  refine Mt.of okM_Mo_chooseGreatest (Nat.le_of_ble_eq_true rfl) (fun hk hg => ?_)
  obtain ⟨n, en⟩ : ∃ x, x = σ 0 22 := ⟨_, rfl⟩
  have hn : 1 ≤ n ∧ n ≤ 8 := by rw [en]; exact h
  obtain ⟨z1, z2, z3, z4⟩ := bit2 (n := n) (by omega)
  have z4 := z4 hn.1
  rw [← en] at hc ⊢
  have hwb : ∀ i j, 0 ≤ i → i < n → 0 ≤ j → j < n → 0 ≤ wk σ i j ∧ wk σ i j ≤ 799999992 := fun i j a1 a2 a3 a4 => hw i j a1 (by omega) a3 (by omega)
  refine ok_aload_n 0 rfl rfl rfl (ok_iload_n 1 rfl rfl rfl (ok_iconst 2 rfl rfl (by decide) (ok_callVV (M' := M_Mo_laysCan) (as := [_, _]) 3 rfl rfl ml_X12_256 (s_Mo_laysCan h hw hl (Or.inr rfl)) rfl rfl (Nat.le_of_ble_eq_true rfl) ⟨Nat.le_of_ble_eq_true rfl, Nat.le_of_ble_eq_true rfl⟩ rfl (Nat.le_of_ble_eq_true rfl) (fun τ hq => ?_))))
  rw [← en] at hq
  obtain ⟨q1, q2, q3⟩ := hq
  rw [if_neg (by decide)] at q2
  have hv0 : 0 ≤ τ 10 0 := (dp_ge (sums := 1) (v := fun k => τ 10 k) hn (fun i j a b c d => (hwb i j a b c d).1) q2 (fun T a b => (q3 T a b).1) n.toNat 0 (by omega) (by omega) (by simp [pc]) hc).1
  refine ok_iconst 4 rfl rfl (by decide) (ok_ist2 5 rfl rfl rfl (ok_iconst 6 rfl rfl (by decide) (ok_ist3 7 rfl rfl rfl ?_)))
  refine lpO2 (fun (i : Int) (ρ : eS) => [some (vr 0), some (vi l), some (vi (cs (fun i => ρ 11 i) i.toNat)), some (vi i), none]) (fun _ ρ => ρ) (fun i ρ => 0 ≤ i ∧ i ≤ n ∧ fr (fun c _ => c = 11) τ ρ ∧ 0 ≤ cs (fun i => ρ 11 i) i.toNat ∧ cs (fun i => ρ 11 i) i.toNat < p2 n ∧ pc (cs (fun i => ρ 11 i) i.toNat) = i ∧ 0 ≤ τ 10 (cs (fun i => ρ 11 i) i.toNat) ∧ ∀ k : Int, 0 ≤ k → k < i → 0 ≤ ρ 11 k ∧ ρ 11 k < n ∧ l ≤ wk σ k (ρ 11 k) ∧ bt (cs (fun i => ρ 11 i) k.toNat) (ρ 11 k) = false) (fun i _ => (n - i).toNat) ?_ 0 τ ⟨by omega, by omega, fr.rf, Int.le_refl _, by show (0 : Int) < p2 n; omega, by show pc 0 = 0; simp [pc], hv0, fun k a b => by omega⟩
  rintro i ρ ⟨k1, k2, k3, k4, k5, k6, k7, k8⟩ ih
  obtain ⟨S, eS⟩ : ∃ x, x = cs (fun i => ρ 11 i) i.toNat := ⟨_, rfl⟩
  rw [← eS] at k4 k5 k6 k7 ⊢
  have f1 : fr (fun c _ => c = 10 ∨ c = 11) σ ρ := fun c k q => by rw [k3 c k (by omega), q1 c k (by omega)]
  have u2 : ρ 0 22 = n := by rw [f1 0 22 (by omega), en]
  have u3 : nW ρ := h.fr' (by rw [u2, en])
  have u1 : wk ρ = wk σ := by funext a b; unfold wk; rw [f1 0 22 (by omega), f1 9 _ (by omega)]
  have u10 : ∀ k, ρ 10 k = τ 10 k := fun k => k3 10 k (by omega)
  refine ok_iload_n 8 rfl rfl rfl (ok_aload_n 9 rfl rfl rfl (ok_getI 10 rfl rfl fl_X12_234 rfl rfl (Or.inl rfl) (ok_icmp_ge 11 115 rfl rfl rfl (fun h15 => ?_) (fun h15 => ?_))))
  · refine ok_aload_n 73 rfl rfl rfl (ok_getR 74 rfl rfl fl_X12_42 rfl rfl (ok_iconst 75 rfl rfl (by decide) (ok_lald 76 rfl rfl rfl (by first | omega | (simp [up_if]; omega) | (simp [up_if] at *; omega)) (ok_lret 77 rfl rfl rfl ?_))))
    refine ⟨_, rfl, f1, rfl, ⟨fun k a b => ?_, fun a b c d e q => ?_⟩, fun k a b => ?_⟩
    · have := k8 k a (by omega); exact ⟨this.1, this.2.1⟩
    · have x1 := (k8 b (by omega) (by omega)).2.2.2
      have x2 : bt (cs (fun i => ρ 11 i) b.toNat) (ρ 11 b) = true := (bt_cs (fun j x y => (k8 j x (by omega)).1) (k8 b (by omega) (by omega)).1).mpr ⟨a, c, by omega, q⟩
      rw [x1] at x2
      cases x2
    · exact (k8 k a (by omega)).2.2.1
  · refine ok_iconst 12 rfl rfl (by decide) (ok_ist4 13 rfl rfl rfl ?_)
    have hin : i < n := by omega
    have hS : S < p2 n - 1 := by
      by_cases q : S = p2 n - 1
      · have := (bitL (s := S) (n := n) (by omega) (by omega)).2.1 q; omega
      · omega
    have hex : ∃ j, 0 ≤ j ∧ j < n ∧ okG n l (wk σ) (fun k => τ 10 k) S j ∧ τ 10 S = wk σ i j + τ 10 (sB S j) := by
      rcases (q3 S k4 hS).1.2 with q | ⟨j, a1, a2, a3, a4⟩
      · have q5 : τ 10 S = -1 := q.1
        omega
      · refine ⟨j, a1, a2, a3, ?_⟩
        unfold cmbG at a4
        rw [if_neg (by decide), k6] at a4
        exact a4
    refine lpO (fun j : Int => [some (vr 0), some (vi l), some (vi S), some (vi i), some (vi j)]) (fun _ => ρ) (fun j => 0 ≤ j ∧ j < n ∧ ∀ j', 0 ≤ j' → j' < j → ¬ (okG n l (wk σ) (fun k => τ 10 k) S j' ∧ τ 10 S = wk σ i j' + τ 10 (sB S j'))) (fun j => (n - j).toNat) ?_ 0 ⟨by omega, by omega, fun j' a b => by omega⟩
    rintro j ⟨j1, j2, j3⟩ ih2
    have e1 := bitG (s := S) (j := j) (by omega) (by omega)
    have e2 := bitP (s := S) (j := j) (by omega) (by omega)
    obtain ⟨l1, l2⟩ := sB_lt (s := S) (j := j) (n := n) ⟨k4, k5⟩ ⟨j1, j2⟩
    have wb := hwb i j k1 hin j1 j2
    have nxt : ¬ (okG n l (wk σ) (fun k => τ 10 k) S j ∧ τ 10 S = wk σ i j + τ 10 (sB S j)) → Ok shB M_Mo_chooseGreatest 88 [some (vr 0), some (vi l), some (vi S), some (vi i), some (vi j)] [] ρ (fun σ' v => ∃ z, v = some (vl z) ∧ fr (fun c _ => c = 10 ∨ c = 11) σ σ' ∧ z = σ' 10 0 ∧ chB σ n l (fun i => σ' 11 i)) := by
      intro hno
      have hj : j + 1 < n := by
        obtain ⟨j', a1, a2, a3, a4⟩ := hex
        by_cases q : j' < j
        · exact absurd ⟨a3, a4⟩ (j3 j' a1 q)
        · by_cases q' : j' = j
          · rw [q'] at a3 a4; exact absurd ⟨a3, a4⟩ hno
          · omega
      clear hex
      refine ok_inc4 58 rfl rfl rfl (by first | omega | (simp [up_if]; omega) | (simp [up_if] at *; omega)) (ok_goto 59 21 rfl rfl rfl ?_)
      exact ih2 (j + 1) ⟨by omega, hj, lt_ext j3 hno⟩ (by omega)
    clear hex
    refine ok_iload_n 14 rfl rfl rfl (ok_iload 15 rfl rfl rfl (ok_ishr 16 rfl rfl (ok_iconst 17 rfl rfl (by decide) (ok_iand 18 rfl rfl ?_))))
    rw [e1]
    refine ok_iconst 19 rfl rfl (by decide) (ok_icmp_eq 20 88 rfl rfl rfl (fun h28 => ?_) (fun h28 => ?_))
    · exact nxt (fun q => by have q1 := q.1.1; rw [b1'.mp h28] at q1; cases q1)
    · have hb : bt S j = false := by
        cases hq : bt S j with
        | false => rfl
        | true => exact absurd (b1'.mpr hq) h28
      have hcp := bitC (s := S) (j := j) (by omega) (by omega) hb
      refine ok_aload_n 21 rfl rfl rfl (ok_iload_n 22 rfl rfl rfl (ok_iload 23 rfl rfl rfl (ok_callVI (M' := M_Mo_worked) (as := [_, _]) 24 rfl rfl ml_X12_244 (s_Mo_worked u3 (by omega) (by omega)) rfl rfl (Nat.le_of_ble_eq_true rfl) ⟨Nat.le_of_ble_eq_true rfl, Nat.le_of_ble_eq_true rfl⟩ rfl (Nat.le_of_ble_eq_true rfl) (fun σ' z hz => ?_))))
      rw [hz.1, hz.2, u1]; clear hz z σ'
      refine ok_iload_n 25 rfl rfl rfl (ok_icmp_lt 26 88 rfl rfl rfl (fun h39 => ?_) (fun h39 => ?_))
      · exact nxt (fun q => by have := q.1.2.1; rw [k6] at this; omega)
      · refine ok_aload_n 27 rfl rfl rfl (ok_getR 28 rfl rfl fl_X12_42 rfl rfl (ok_iload_n 29 rfl rfl rfl (ok_iconst 30 rfl rfl (by decide) (ok_iload 31 rfl rfl rfl (ok_ishl 32 rfl rfl (ok_ior 33 rfl rfl ?_))))))
        rw [e2]
        refine ok_lald 34 rfl rfl rfl (by omega) ?_
        rw [u10]
        refine ok_lconst (w := 0) 35 rfl rfl rfl (by decide) (ok_lcmp_lt 36 37 88 rfl rfl rfl rfl rfl (fun h54 => ?_) (fun h54 => ?_))
        · exact nxt (fun q => by have q9 : 0 ≤ τ 10 (sB S j) := q.1.2.2; omega)
        · have vb : τ 10 (sB S j) ≤ 6399999936 := by
            by_cases q : sB S j = p2 n - 1
            · rw [q, q2]; decide
            · have := (q3 (sB S j) l1 (by omega)).2.2; omega
          refine ok_aload_n 38 rfl rfl rfl (ok_iload_n 39 rfl rfl rfl (ok_iload 40 rfl rfl rfl (ok_callVI (M' := M_Mo_worked) (as := [_, _]) 41 rfl rfl ml_X12_244 (s_Mo_worked u3 (by omega) (by omega)) rfl rfl (Nat.le_of_ble_eq_true rfl) ⟨Nat.le_of_ble_eq_true rfl, Nat.le_of_ble_eq_true rfl⟩ rfl (Nat.le_of_ble_eq_true rfl) (fun σ' z hz => ?_))))
          rw [hz.1, hz.2, u1]; clear hz z σ'
          refine ok_i2l 42 rfl rfl (ok_aload_n 43 rfl rfl rfl (ok_getR 44 rfl rfl fl_X12_42 rfl rfl (ok_iload_n 45 rfl rfl rfl (ok_iconst 46 rfl rfl (by decide) (ok_iload 47 rfl rfl rfl (ok_ishl 48 rfl rfl (ok_ior 49 rfl rfl ?_)))))))
          rw [e2]
          refine ok_lald 50 rfl rfl rfl (by omega) ?_
          rw [u10]
          refine ok_ladd 51 rfl rfl (by first | omega | (simp [up_if]; omega) | (simp [up_if] at *; omega)) (ok_aload_n 52 rfl rfl rfl (ok_getR 53 rfl rfl fl_X12_42 rfl rfl (ok_iload_n 54 rfl rfl rfl (ok_lald 55 rfl rfl rfl (by omega) ?_))))
          rw [u10]
          refine ok_lcmp_eq 56 57 94 rfl rfl rfl rfl rfl (fun h84 => ?_) (fun h84 => ?_)
          · have hok : l ≤ wk σ i j := by omega
            refine ok_aload_n 60 rfl rfl rfl (ok_getR 61 rfl rfl fl_X12_45 rfl rfl (ok_iload_n 62 rfl rfl rfl (ok_iload 63 rfl rfl rfl (ok_iast 64 rfl rfl rfl (by first | omega | (simp [up_if]; omega) | (simp [up_if] at *; omega)) (ok_iload_n 65 rfl rfl rfl (ok_iconst 66 rfl rfl (by decide) (ok_iload 67 rfl rfl rfl (ok_ishl 68 rfl rfl (ok_ior 69 rfl rfl (ok_ist2 70 rfl rfl rfl (ok_inc3 71 rfl rfl rfl (by first | omega | (simp [up_if]; omega) | (simp [up_if] at *; omega)) (ok_goto 72 10 rfl rfl rfl ?_))))))))))))
            rw [e2]
            have ecs : ∀ k : Int, 0 ≤ k → k ≤ i → cs (fun q => up ρ 11 i j 11 q) k.toNat = cs (fun q => ρ 11 q) k.toNat := fun k a b => cs_cg (fun q a' b' => by rw [up_nk _ _ _ _ (by omega)])
            have ec1 : cs (fun q => up ρ 11 i j 11 q) (i + 1).toNat = sB S j := by
              rw [cs_s _ k1, ecs i k1 (Int.le_refl _), ← eS, up_same]
            have hfin := ih (i + 1) (up ρ 11 i j) ⟨by omega, by omega, fr_up k3 rfl, by rw [ec1]; exact l1, by rw [ec1]; exact l2, by rw [ec1]; omega, by rw [ec1]; omega, fun k a b => ?_⟩ (by omega)
            · rw [ec1] at hfin
              exact ok_fg [some (vr 0), some (vi l), some (vi (sB S j)), some (vi (i + 1)), none] ⟨rfl, rfl, rfl, rfl, trivial⟩ hfin
            · rw [ecs k a (by omega)]
              by_cases q : k = i
              · rw [q, up_same, ← eS]
                exact ⟨j1, j2, hok, hb⟩
              · rw [up_nk _ _ _ _ q]
                exact k8 k a (by omega)
          · exact nxt (fun q => h84 q.2.symm)
end
section
theorem Qch_yes {σ σ' : eS} {n l r c z : Int} (hn : 1 ≤ n ∧ n ≤ 8) (h : Qch σ n (opB σ l r c) σ' z) (hc : cpl n (opB σ l r c) n.toNat 0) : fr (fun c _ => c = 10 ∨ c = 11) σ σ' ∧ lexCh n (opB σ l r c) (fun i => σ' 11 i) ∧ chB σ n l (fun i => σ' 11 i) := by
  rcases h with ⟨-, h, -⟩ | ⟨-, -, h1, h2⟩
  · exact absurd hc h
  · obtain ⟨p1, p2⟩ := lexCh_perm h2
    refine ⟨h1, h2, p1, fun i a b => ?_⟩
    have h3 := (lexCh_pc hn.2 h2 i.toNat (by omega)).2.2
    have h4 := (p2 i a b).1
    rw [h3, Int.toNat_of_nonneg a] at h4
    exact h4
theorem cpl_pos {σ : eS} {n m : Int} (hn : 1 ≤ n) (he : EvW n (wk σ) m) (hm : 1 ≤ m) : cpl n (opB σ 1 (-1) (-1)) n.toNat 0 := by
  obtain ⟨f, hf, hp⟩ := birk he (by omega) (by omega)
  exact cpl_of (by omega) hf (fun i a b => ⟨by have := hp i a b; omega, by have := (hf.1 i a b).1; omega⟩)
theorem s_Mo_choose {σ : eS} {r m : Int} (h : nW σ) (hw : wBd σ) (he : EvW (σ 0 22) (wk σ) m) (hm : 1 ≤ m) : MtV shB M_Mo_choose [vr 0, vi r] σ (fun σ' => fr (fun c _ => c = 10 ∨ c = 11) σ σ' ∧ chB σ (σ 0 22) 1 (fun i => σ' 11 i)) := by
  refine Mt.of okM_Mo_choose (Nat.le_of_ble_eq_true rfl) (fun hk hg => ?_)
  obtain ⟨n, en⟩ : ∃ x, x = σ 0 22 := ⟨_, rfl⟩
  have hn : 1 ≤ n ∧ n ≤ 8 := by rw [en]; exact h
  obtain ⟨z1, z2, z3, z4⟩ := bit2 (n := n) (by omega)
  have z4 := z4 hn.1
  obtain ⟨sq1, sq2⟩ := sq8 (n := n) ⟨by omega, by omega⟩
  rw [← en] at he ⊢
  have hwb : ∀ i j, 0 ≤ i → i < n → 0 ≤ j → j < n → 0 ≤ wk σ i j ∧ wk σ i j ≤ 799999992 := fun i j a1 a2 a3 a4 => hw i j a1 (by omega) a3 (by omega)
  have hcp := cpl_pos (σ := σ) hn.1 he hm
  have hc1 : cpl n (fun i j => 1 ≤ wk σ i j) n.toNat 0 := cpl_mono (fun i j _ _ _ _ q => q.1) n.toNat 0 (by omega) hcp
  refine ok_iload_n 0 rfl rfl rfl (ok_if_ne 1 15 rfl rfl rfl (fun h1 => ?_) (fun h1 => ?_))
  · refine ok_iload_n 9 rfl rfl rfl (ok_iconst 10 rfl rfl (by decide) (ok_icmp_ne 11 43 rfl rfl rfl (fun h17 => ?_) (fun h17 => ?_)))
    · refine ok_iload_n 27 rfl rfl rfl (ok_iconst 28 rfl rfl (by decide) (ok_icmp_ne 29 123 rfl rfl rfl (fun h45 => ?_) (fun h45 => ?_)))
      · refine ok_aload_n 75 rfl rfl rfl (ok_iconst 76 rfl rfl (by decide) (ok_callVL (M' := M_Mo_chooseGreatest) (as := [_]) 77 rfl rfl ml_X12_263 (s_Mo_chooseGreatest h hw (by decide) (by rw [← en]; exact hc1)) rfl rfl (Nat.le_of_ble_eq_true rfl) ⟨Nat.le_of_ble_eq_true rfl, Nat.le_of_ble_eq_true rfl⟩ rfl (Nat.le_of_ble_eq_true rfl) (fun τ z hz => ?_)))
        rw [← en] at hz
        refine ok_pop2 78 rfl rfl (ok_vret 79 rfl rfl rfl ?_)
        first | exact ⟨rfl, hy.1, hy.2.2⟩ | exact ⟨rfl, fun c k q => by rw [hy2.1 c k q, q1 c k (by omega)], hy3.1, fun i a b => by have := hy3.2 i a b; have hv3 : 1 ≤ τ 10 0 := hv; omega⟩ | exact ⟨rfl, hz.1, hz.2.2⟩
      · refine ok_iconst 30 rfl rfl (by decide) (ok_ist2 31 rfl rfl rfl (ok_iconst 32 rfl rfl (by decide) (ok_ist3 33 rfl rfl rfl ?_)))
        refine lpO2 (fun b k : Int => [some (vr 0), some (vi r), some (vi b), some (vi k)]) (fun _ _ => σ) (fun b k => 0 ≤ k ∧ k ≤ n * n ∧ -1 ≤ b ∧ b < k ∧ (b = -1 → ∀ q, 0 ≤ q → q < k → σ 9 q ≤ 0) ∧ (0 ≤ b → 0 < σ 9 b)) (fun _ k => (n * n - k).toNat) ?_ (-1) 0 ⟨by omega, by omega, by omega, by omega, fun _ q a b => by omega, fun a => by omega⟩
        rintro b k ⟨i1, i2, i3, i4, i5, i6⟩ ih
        refine ok_iload_n 34 rfl rfl rfl (ok_aload_n 35 rfl rfl rfl (ok_getI 36 rfl rfl fl_X12_234 rfl rfl (Or.inl rfl) (ok_aload_n 37 rfl rfl rfl (ok_getI 38 rfl rfl fl_X12_234 rfl rfl (Or.inl rfl) (ok_imul 39 rfl rfl (by rw [← en]; omega) ?_)))))
        rw [← en]
        refine ok_icmp_ge 40 102 rfl rfl rfl (fun h62 => ?_) (fun h62 => ?_)
        · have hb : 0 ≤ b := by
            rcases (show b = -1 ∨ 0 ≤ b by omega) with y | y
            · exfalso
              obtain ⟨f, hf, hp⟩ := birk he (by omega) (by omega)
              have g1 := hf.1 0 (by omega) (by omega)
              have g2 := hp 0 (by omega) (by omega)
              have g3 := ix8 (n := n) (i := 0) (j := f 0) ⟨by omega, by omega⟩ ⟨by omega, by omega⟩ g1
              unfold wk at g2
              rw [← en] at g2
              have := i5 y (n * 0 + f 0) (by omega) (by omega)
              omega
            · exact y
          have hbp := i6 hb
          have e1 : n * (b / n) + b % n = b := Int.mul_ediv_add_emod b n
          have e2 := Int.emod_nonneg b (by omega : n ≠ 0)
          have e3 := Int.emod_lt_of_pos b (by omega : 0 < n)
          have e4 : b / n < n := Int.ediv_lt_of_lt_mul (by omega) (by omega)
          have e5 : 0 ≤ b / n := Int.ediv_nonneg hb (by omega)
          have hcq : cpl n (opB σ 1 (b / n) (b % n)) n.toNat 0 := by
            obtain ⟨f, hf, hf0, hp⟩ := birk2 (i0 := b / n) (j0 := b % n) he ⟨e5, e4⟩ ⟨e2, e3⟩ (by unfold wk; rw [← en, e1]; exact hbp)
            refine cpl_of (by omega) hf (fun i a c => ⟨by have := hp i a c; omega, fun q => by rw [q]; exact hf0, fun q => ?_⟩)
            rcases (show i < b / n ∨ i = b / n ∨ b / n < i by omega) with y | y | y
            · exact absurd (by rw [q, hf0]) (hf.2 i (b / n) a y e4)
            · exact y
            · exact absurd (by rw [q, hf0]) (hf.2 (b / n) i e5 y c)
          refine ok_aload_n 62 rfl rfl rfl (ok_iconst 63 rfl rfl (by decide) (ok_iload_n 64 rfl rfl rfl (ok_aload_n 65 rfl rfl rfl (ok_getI 66 rfl rfl fl_X12_234 rfl rfl (Or.inl rfl) (ok_idiv 67 rfl rfl (by omega) (by rw [← en]; omega) (ok_iload_n 68 rfl rfl rfl (ok_aload_n 69 rfl rfl rfl (ok_getI 70 rfl rfl fl_X12_234 rfl rfl (Or.inl rfl) (ok_irem 71 rfl rfl (by omega) (by rw [← en]; omega) ?_)))))))))
          rw [← en]
          refine ok_callVI (M' := M_Mo_isChosen) (as := [_, _, _]) 72 rfl rfl ml_X12_260 (s_Mo_isChosen h) rfl rfl (Nat.le_of_ble_eq_true rfl) ⟨Nat.le_of_ble_eq_true rfl, Nat.le_of_ble_eq_true rfl⟩ rfl (Nat.le_of_ble_eq_true rfl) (fun τ z hz => ?_)
          rw [← en] at hz
          have hy := Qch_yes hn hz hcq
          refine ok_pop 73 rfl rfl rfl (ok_goto 74 129 rfl rfl rfl (ok_vret 79 rfl rfl rfl ?_))
          exact ⟨rfl, hy.1, hy.2.2⟩
        · refine ok_aload_n 41 rfl rfl rfl (ok_getR 42 rfl rfl fl_X12_39 rfl rfl (ok_iload_n 43 rfl rfl rfl (ok_iald 44 rfl rfl rfl (by first | omega | (simp [up_if]; omega) | (simp [up_if] at *; omega)) (ok_if_le 45 96 rfl rfl rfl (fun h71 => ?_) (fun h71 => ?_)))))
          · refine ok_inc3 60 rfl rfl rfl (by first | omega | (simp [up_if]; omega) | (simp [up_if] at *; omega)) (ok_goto 61 52 rfl rfl rfl ?_)
            first
              | exact ih k (k + 1) ⟨by omega, by omega, by omega, by omega, fun y => by omega, fun _ => by omega⟩ (by omega)
              | exact ih b (k + 1) ⟨by omega, by omega, by omega, by omega, fun y => lt_ext (i5 y) (by omega), i6⟩ (by omega)
          · refine ok_iload_n 46 rfl rfl rfl (ok_iconst 47 rfl rfl (by decide) (ok_icmp_eq 48 94 rfl rfl rfl (fun h76 => ?_) (fun h76 => ?_)))
            · refine ok_iload_n 58 rfl rfl rfl (ok_ist2 59 rfl rfl rfl (ok_inc3 60 rfl rfl rfl (by first | omega | (simp [up_if]; omega) | (simp [up_if] at *; omega)) (ok_goto 61 52 rfl rfl rfl ?_)))
              first
                | exact ih k (k + 1) ⟨by omega, by omega, by omega, by omega, fun y => by omega, fun _ => by omega⟩ (by omega)
                | exact ih b (k + 1) ⟨by omega, by omega, by omega, by omega, fun y => lt_ext (i5 y) (by omega), i6⟩ (by omega)
            · refine ok_aload_n 49 rfl rfl rfl (ok_getR 50 rfl rfl fl_X12_39 rfl rfl (ok_iload_n 51 rfl rfl rfl (ok_iald 52 rfl rfl rfl (by first | omega | (simp [up_if]; omega) | (simp [up_if] at *; omega)) (ok_aload_n 53 rfl rfl rfl (ok_getR 54 rfl rfl fl_X12_39 rfl rfl (ok_iload_n 55 rfl rfl rfl (ok_iald 56 rfl rfl rfl (by first | omega | (simp [up_if]; omega) | (simp [up_if] at *; omega)) (ok_icmp_ge 57 96 rfl rfl rfl (fun h91 => ?_) (fun h91 => ?_)))))))))
              · refine ok_inc3 60 rfl rfl rfl (by first | omega | (simp [up_if]; omega) | (simp [up_if] at *; omega)) (ok_goto 61 52 rfl rfl rfl ?_)
                first
                  | exact ih k (k + 1) ⟨by omega, by omega, by omega, by omega, fun y => by omega, fun _ => by omega⟩ (by omega)
                  | exact ih b (k + 1) ⟨by omega, by omega, by omega, by omega, fun y => lt_ext (i5 y) (by omega), i6⟩ (by omega)
              · refine ok_iload_n 58 rfl rfl rfl (ok_ist2 59 rfl rfl rfl (ok_inc3 60 rfl rfl rfl (by first | omega | (simp [up_if]; omega) | (simp [up_if] at *; omega)) (ok_goto 61 52 rfl rfl rfl ?_)))
                first
                  | exact ih k (k + 1) ⟨by omega, by omega, by omega, by omega, fun y => by omega, fun _ => by omega⟩ (by omega)
                  | exact ih b (k + 1) ⟨by omega, by omega, by omega, by omega, fun y => lt_ext (i5 y) (by omega), i6⟩ (by omega)
    · refine ok_aload_n 12 rfl rfl rfl (ok_iconst 13 rfl rfl (by decide) (ok_iconst 14 rfl rfl (by decide) (ok_callVV (M' := M_Mo_laysCan) (as := [_, _]) 15 rfl rfl ml_X12_256 (s_Mo_laysCan h hw (by decide) (Or.inl rfl)) rfl rfl (Nat.le_of_ble_eq_true rfl) ⟨Nat.le_of_ble_eq_true rfl, Nat.le_of_ble_eq_true rfl⟩ rfl (Nat.le_of_ble_eq_true rfl) (fun τ hq => ?_))))
      rw [← en] at hq
      obtain ⟨q1, q2, q3⟩ := hq
      rw [if_pos rfl] at q2
      have hv := (dp_ge (sums := 0) (v := fun k => τ 10 k) hn (fun i j a b c d => (hwb i j a b c d).1) (by rw [if_pos rfl]; exact q2) (fun T a b => (q3 T a b).1) n.toNat 0 (by omega) (by omega) (by simp [pc]) hc1).2 rfl (by decide)
      have hv2 : τ 10 0 ≤ 799999992 := by
        rcases (q3 0 (by omega) (by omega)).1.2 with q | ⟨j, a1, a2, a3, a4⟩
        · have q5 : τ 10 0 = -1 := q.1
          omega
        · unfold cmbG at a4
          rw [if_pos rfl] at a4
          have := hwb (pc 0) j (by simp [pc]) (by simp [pc]; omega) a1 a2
          have q5 : τ 10 0 = min (wk σ (pc 0) j) (τ 10 (sB 0 j)) := a4
          clear a4
          omega
      have hcl := dp_le (x := τ 10 0) (v := fun k => τ 10 k) hv hn (fun T a b => (q3 T a b).1) n.toNat 0 (by omega) (by omega) (by simp [pc]) (Int.le_refl _)
      have t22 : τ 0 22 = n := by rw [q1 0 22 (by omega), en]
      have twk : wk τ = wk σ := by funext a b; unfold wk; rw [q1 0 22 (by omega), q1 9 _ (by omega)]
      refine ok_aload_n 16 rfl rfl rfl (ok_aload_n 17 rfl rfl rfl (ok_getR 18 rfl rfl fl_X12_42 rfl rfl (ok_iconst 19 rfl rfl (by decide) (ok_lald 20 rfl rfl rfl (by first | omega | (simp [up_if]; omega) | (simp [up_if] at *; omega)) (ok_l2i 21 rfl rfl (by first | omega | (simp [up_if]; omega) | (simp [up_if] at *; omega)) (ok_iconst 22 rfl rfl (by decide) (ok_iconst 23 rfl rfl (by decide) (ok_callVI (M' := M_Mo_isChosen) (as := [_, _, _]) 24 rfl rfl ml_X12_260 (s_Mo_isChosen (h.fr' (by rw [t22, en]))) rfl rfl (Nat.le_of_ble_eq_true rfl) ⟨Nat.le_of_ble_eq_true rfl, Nat.le_of_ble_eq_true rfl⟩ rfl (Nat.le_of_ble_eq_true rfl) (fun τ2 z hz => ?_)))))))))
      rw [t22] at hz
      have hy2 := Qch_yes hn hz (by unfold opB; rw [twk]; exact cpl_mono (fun i j a _ b _ q => ⟨q, by omega⟩) n.toNat 0 (by omega) hcl)
      have hy3 : chB σ n (τ 10 0) (fun i => τ2 11 i) := by have := hy2.2.2; unfold chB at this; rw [twk] at this; exact this
      refine ok_pop 25 rfl rfl rfl (ok_goto 26 129 rfl rfl rfl (ok_vret 79 rfl rfl rfl ?_))
      first | exact ⟨rfl, hy.1, hy.2.2⟩ | exact ⟨rfl, fun c k q => by rw [hy2.1 c k q, q1 c k (by omega)], hy3.1, fun i a b => by have := hy3.2 i a b; have hv3 : 1 ≤ τ 10 0 := hv; omega⟩ | exact ⟨rfl, hz.1, hz.2.2⟩
  · refine ok_aload_n 2 rfl rfl rfl (ok_iconst 3 rfl rfl (by decide) (ok_iconst 4 rfl rfl (by decide) (ok_iconst 5 rfl rfl (by decide) (ok_callVI (M' := M_Mo_isChosen) (as := [_, _, _]) 6 rfl rfl ml_X12_260 (s_Mo_isChosen h) rfl rfl (Nat.le_of_ble_eq_true rfl) ⟨Nat.le_of_ble_eq_true rfl, Nat.le_of_ble_eq_true rfl⟩ rfl (Nat.le_of_ble_eq_true rfl) (fun τ z hz => ?_)))))
    rw [← en] at hz
    have hy := Qch_yes hn hz hcp
    refine ok_pop 7 rfl rfl rfl (ok_goto 8 129 rfl rfl rfl (ok_vret 79 rfl rfl rfl ?_))
    first | exact ⟨rfl, hy.1, hy.2.2⟩ | exact ⟨rfl, fun c k q => by rw [hy2.1 c k q, q1 c k (by omega)], hy3.1, fun i a b => by have := hy3.2 i a b; have hv3 : 1 ≤ τ 10 0 := hv; omega⟩ | exact ⟨rfl, hz.1, hz.2.2⟩
end
