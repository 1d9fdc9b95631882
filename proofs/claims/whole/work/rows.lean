section
-- ===== PART A: goes FIRST, ahead of the names: the tables' words, and 'selects' of the private methods out of them =====
/-- a private method of a class that the tables say can be made, by its rows of tables_1 -/
def lw_okq (q : MethodName × Nat) : Prop := (q.1.cls ≠ "java/lang/invoke/MethodHandle" ∧ q.1.cls ≠ "java/lang/invoke/VarHandle") ∧ Cond.instantiable q.1.cls q.2 ∈ tables_1 ∧ Cond.privateMethod q.1 ∈ tables_1 ∧ Cond.instanceMethod q.1 ∈ tables_1
theorem lw_p0 : lw_okq (⟨"DivideSmith", "openForm", "(I)LDivideSmith$Form;"⟩, 10) := ⟨⟨by decide +kernel, by decide +kernel⟩, List.mem_of_getElem? (i := 16) (by decide +kernel), List.mem_of_getElem? (i := 163) (by decide +kernel), List.mem_of_getElem? (i := 164) (by decide +kernel)⟩
theorem lw_p1 : lw_okq (⟨"DivideSmith", "formAt", "(I)LDivideSmith$Form;"⟩, 10) := ⟨⟨by decide +kernel, by decide +kernel⟩, List.mem_of_getElem? (i := 16) (by decide +kernel), List.mem_of_getElem? (i := 232) (by decide +kernel), List.mem_of_getElem? (i := 233) (by decide +kernel)⟩
theorem lw_p2 : lw_okq (⟨"DivideSmith$Writer", "signedQuotient", "()I"⟩, 6) := ⟨⟨by decide +kernel, by decide +kernel⟩, List.mem_of_getElem? (i := 267) (by decide +kernel), List.mem_of_getElem? (i := 327) (by decide +kernel), List.mem_of_getElem? (i := 328) (by decide +kernel)⟩
theorem lw_p3 : lw_okq (⟨"DivideSmith$Writer", "signedByShifting", "()I"⟩, 6) := ⟨⟨by decide +kernel, by decide +kernel⟩, List.mem_of_getElem? (i := 267) (by decide +kernel), List.mem_of_getElem? (i := 332) (by decide +kernel), List.mem_of_getElem? (i := 333) (by decide +kernel)⟩
theorem lw_p4 : lw_okq (⟨"DivideSmith$Writer", "signedByMultiplying", "()I"⟩, 6) := ⟨⟨by decide +kernel, by decide +kernel⟩, List.mem_of_getElem? (i := 267) (by decide +kernel), List.mem_of_getElem? (i := 336) (by decide +kernel), List.mem_of_getElem? (i := 337) (by decide +kernel)⟩
theorem lw_p5 : lw_okq (⟨"DivideSmith$Writer", "quotientDownwards", "()I"⟩, 6) := ⟨⟨by decide +kernel, by decide +kernel⟩, List.mem_of_getElem? (i := 267) (by decide +kernel), List.mem_of_getElem? (i := 378) (by decide +kernel), List.mem_of_getElem? (i := 379) (by decide +kernel)⟩
theorem lw_p6 : lw_okq (⟨"DivideSmith$Writer", "plainQuotient", "(I)I"⟩, 6) := ⟨⟨by decide +kernel, by decide +kernel⟩, List.mem_of_getElem? (i := 267) (by decide +kernel), List.mem_of_getElem? (i := 382) (by decide +kernel), List.mem_of_getElem? (i := 383) (by decide +kernel)⟩
theorem lw_p7 : lw_okq (⟨"DivideSmith$Writer", "restAfter", "(I)V"⟩, 6) := ⟨⟨by decide +kernel, by decide +kernel⟩, List.mem_of_getElem? (i := 267) (by decide +kernel), List.mem_of_getElem? (i := 386) (by decide +kernel), List.mem_of_getElem? (i := 387) (by decide +kernel)⟩
theorem lw_p8 : lw_okq (⟨"DivideSmith$Writer", "sizeOfNumber", "()I"⟩, 6) := ⟨⟨by decide +kernel, by decide +kernel⟩, List.mem_of_getElem? (i := 267) (by decide +kernel), List.mem_of_getElem? (i := 390) (by decide +kernel), List.mem_of_getElem? (i := 391) (by decide +kernel)⟩
theorem lw_p9 : lw_okq (⟨"DivideSmith$Writer", "noRest", "(I)V"⟩, 6) := ⟨⟨by decide +kernel, by decide +kernel⟩, List.mem_of_getElem? (i := 267) (by decide +kernel), List.mem_of_getElem? (i := 394) (by decide +kernel), List.mem_of_getElem? (i := 395) (by decide +kernel)⟩
theorem lw_p10 : lw_okq (⟨"DivideSmith$Writer", "exact", "(IZJ)V"⟩, 6) := ⟨⟨by decide +kernel, by decide +kernel⟩, List.mem_of_getElem? (i := 267) (by decide +kernel), List.mem_of_getElem? (i := 404) (by decide +kernel), List.mem_of_getElem? (i := 405) (by decide +kernel)⟩
theorem lw_p11 : lw_okq (⟨"DivideSmith$Asking", "numberOf", "(J)J"⟩, 4) := ⟨⟨by decide +kernel, by decide +kernel⟩, List.mem_of_getElem? (i := 269) (by decide +kernel), List.mem_of_getElem? (i := 488) (by decide +kernel), List.mem_of_getElem? (i := 489) (by decide +kernel)⟩
theorem lw_p12 : lw_okq (⟨"DivideSmith$Asking", "towardsZero", "(J)J"⟩, 4) := ⟨⟨by decide +kernel, by decide +kernel⟩, List.mem_of_getElem? (i := 269) (by decide +kernel), List.mem_of_getElem? (i := 492) (by decide +kernel), List.mem_of_getElem? (i := 493) (by decide +kernel)⟩
theorem lw_p13 : lw_okq (⟨"DivideSmith$Search", "listChoices", "([J)V"⟩, 14) := ⟨⟨by decide +kernel, by decide +kernel⟩, List.mem_of_getElem? (i := 68) (by decide +kernel), List.mem_of_getElem? (i := 540) (by decide +kernel), List.mem_of_getElem? (i := 541) (by decide +kernel)⟩
theorem lw_p14 : lw_okq (⟨"DivideSmith$Search", "addChoice", "(IIJI)V"⟩, 14) := ⟨⟨by decide +kernel, by decide +kernel⟩, List.mem_of_getElem? (i := 68) (by decide +kernel), List.mem_of_getElem? (i := 545) (by decide +kernel), List.mem_of_getElem? (i := 546) (by decide +kernel)⟩
theorem lw_p15 : lw_okq (⟨"DivideSmith$Search", "listTold", "(II[J)V"⟩, 14) := ⟨⟨by decide +kernel, by decide +kernel⟩, List.mem_of_getElem? (i := 68) (by decide +kernel), List.mem_of_getElem? (i := 549) (by decide +kernel), List.mem_of_getElem? (i := 550) (by decide +kernel)⟩
def lw_privs_1 : List (MethodName × Nat) := [(⟨"DivideSmith", "openForm", "(I)LDivideSmith$Form;"⟩, 10), (⟨"DivideSmith", "formAt", "(I)LDivideSmith$Form;"⟩, 10), (⟨"DivideSmith$Writer", "signedQuotient", "()I"⟩, 6), (⟨"DivideSmith$Writer", "signedByShifting", "()I"⟩, 6), (⟨"DivideSmith$Writer", "signedByMultiplying", "()I"⟩, 6), (⟨"DivideSmith$Writer", "quotientDownwards", "()I"⟩, 6), (⟨"DivideSmith$Writer", "plainQuotient", "(I)I"⟩, 6), (⟨"DivideSmith$Writer", "restAfter", "(I)V"⟩, 6), (⟨"DivideSmith$Writer", "sizeOfNumber", "()I"⟩, 6), (⟨"DivideSmith$Writer", "noRest", "(I)V"⟩, 6), (⟨"DivideSmith$Writer", "exact", "(IZJ)V"⟩, 6), (⟨"DivideSmith$Asking", "numberOf", "(J)J"⟩, 4), (⟨"DivideSmith$Asking", "towardsZero", "(J)J"⟩, 4), (⟨"DivideSmith$Search", "listChoices", "([J)V"⟩, 14), (⟨"DivideSmith$Search", "addChoice", "(IIJI)V"⟩, 14), (⟨"DivideSmith$Search", "listTold", "(II[J)V"⟩, 14)]
theorem lw_r1 : ∀ q ∈ lw_privs_1, lw_okq q := List.forall_mem_cons.mpr ⟨lw_p0, List.forall_mem_cons.mpr ⟨lw_p1, List.forall_mem_cons.mpr ⟨lw_p2, List.forall_mem_cons.mpr ⟨lw_p3, List.forall_mem_cons.mpr ⟨lw_p4, List.forall_mem_cons.mpr ⟨lw_p5, List.forall_mem_cons.mpr ⟨lw_p6, List.forall_mem_cons.mpr ⟨lw_p7, List.forall_mem_cons.mpr ⟨lw_p8, List.forall_mem_cons.mpr ⟨lw_p9, List.forall_mem_cons.mpr ⟨lw_p10, List.forall_mem_cons.mpr ⟨lw_p11, List.forall_mem_cons.mpr ⟨lw_p12, List.forall_mem_cons.mpr ⟨lw_p13, List.forall_mem_cons.mpr ⟨lw_p14, List.forall_mem_cons.mpr ⟨lw_p15, fun _ h => absurd h List.not_mem_nil⟩⟩⟩⟩⟩⟩⟩⟩⟩⟩⟩⟩⟩⟩⟩⟩
theorem lw_p16 : lw_okq (⟨"DivideSmith$Search", "extend", "(IIII)V"⟩, 14) := ⟨⟨by decide +kernel, by decide +kernel⟩, List.mem_of_getElem? (i := 68) (by decide +kernel), List.mem_of_getElem? (i := 559) (by decide +kernel), List.mem_of_getElem? (i := 560) (by decide +kernel)⟩
theorem lw_p17 : lw_okq (⟨"DivideSmith$Search", "isRight", "(I)Z"⟩, 14) := ⟨⟨by decide +kernel, by decide +kernel⟩, List.mem_of_getElem? (i := 68) (by decide +kernel), List.mem_of_getElem? (i := 564) (by decide +kernel), List.mem_of_getElem? (i := 565) (by decide +kernel)⟩
theorem lw_p18 : lw_okq (⟨"DivideSmith$Search", "fillUpTo", "(II)V"⟩, 14) := ⟨⟨by decide +kernel, by decide +kernel⟩, List.mem_of_getElem? (i := 68) (by decide +kernel), List.mem_of_getElem? (i := 568) (by decide +kernel), List.mem_of_getElem? (i := 569) (by decide +kernel)⟩
theorem lw_p19 : lw_okq (⟨"DivideSmith$Search", "valueOf", "(II)J"⟩, 14) := ⟨⟨by decide +kernel, by decide +kernel⟩, List.mem_of_getElem? (i := 68) (by decide +kernel), List.mem_of_getElem? (i := 572) (by decide +kernel), List.mem_of_getElem? (i := 573) (by decide +kernel)⟩
theorem lw_p20 : lw_okq (⟨"DivideSmith$Search", "keep", "(II)V"⟩, 14) := ⟨⟨by decide +kernel, by decide +kernel⟩, List.mem_of_getElem? (i := 68) (by decide +kernel), List.mem_of_getElem? (i := 577) (by decide +kernel), List.mem_of_getElem? (i := 578) (by decide +kernel)⟩
theorem lw_p21 : lw_okq (⟨"DivideSmith", "takeBack", "(LDivideSmith$Act;)V"⟩, 10) := ⟨⟨by decide +kernel, by decide +kernel⟩, List.mem_of_getElem? (i := 16) (by decide +kernel), List.mem_of_getElem? (i := 598) (by decide +kernel), List.mem_of_getElem? (i := 599) (by decide +kernel)⟩
theorem lw_p22 : lw_okq (⟨"DivideSmith", "rowOf", "(ILDivideSmith$Form;II)LDivideSmith$Holding;"⟩, 10) := ⟨⟨by decide +kernel, by decide +kernel⟩, List.mem_of_getElem? (i := 16) (by decide +kernel), List.mem_of_getElem? (i := 620) (by decide +kernel), List.mem_of_getElem? (i := 621) (by decide +kernel)⟩
theorem lw_p23 : lw_okq (⟨"DivideSmith", "rowAnswer", "(IIII)I"⟩, 10) := ⟨⟨by decide +kernel, by decide +kernel⟩, List.mem_of_getElem? (i := 16) (by decide +kernel), List.mem_of_getElem? (i := 644) (by decide +kernel), List.mem_of_getElem? (i := 645) (by decide +kernel)⟩
theorem lw_p24 : lw_okq (⟨"DivideSmithModel", "add", "(I)I"⟩, 40) := ⟨⟨by decide +kernel, by decide +kernel⟩, List.mem_of_getElem? (i := 648) (by decide +kernel), List.mem_of_getElem? (i := 782) (by decide +kernel), List.mem_of_getElem? (i := 783) (by decide +kernel)⟩
theorem lw_p25 : lw_okq (⟨"DivideSmithModel", "note", "(IIIJ)V"⟩, 40) := ⟨⟨by decide +kernel, by decide +kernel⟩, List.mem_of_getElem? (i := 648) (by decide +kernel), List.mem_of_getElem? (i := 786) (by decide +kernel), List.mem_of_getElem? (i := 787) (by decide +kernel)⟩
theorem lw_p26 : lw_okq (⟨"DivideSmithModel", "moveAct", "(II)V"⟩, 40) := ⟨⟨by decide +kernel, by decide +kernel⟩, List.mem_of_getElem? (i := 648) (by decide +kernel), List.mem_of_getElem? (i := 790) (by decide +kernel), List.mem_of_getElem? (i := 791) (by decide +kernel)⟩
theorem lw_p27 : lw_okq (⟨"DivideSmithModel", "copyHeld", "(II)V"⟩, 40) := ⟨⟨by decide +kernel, by decide +kernel⟩, List.mem_of_getElem? (i := 648) (by decide +kernel), List.mem_of_getElem? (i := 794) (by decide +kernel), List.mem_of_getElem? (i := 795) (by decide +kernel)⟩
theorem lw_p28 : lw_okq (⟨"DivideSmithModel", "isForm", "(I)Z"⟩, 40) := ⟨⟨by decide +kernel, by decide +kernel⟩, List.mem_of_getElem? (i := 648) (by decide +kernel), List.mem_of_getElem? (i := 802) (by decide +kernel), List.mem_of_getElem? (i := 803) (by decide +kernel)⟩
theorem lw_p29 : lw_okq (⟨"DivideSmithModel", "put", "(IIIJ)I"⟩, 40) := ⟨⟨by decide +kernel, by decide +kernel⟩, List.mem_of_getElem? (i := 648) (by decide +kernel), List.mem_of_getElem? (i := 812) (by decide +kernel), List.mem_of_getElem? (i := 813) (by decide +kernel)⟩
theorem lw_p30 : lw_okq (⟨"DivideSmithModel", "isAsking", "(IIIJ)Z"⟩, 40) := ⟨⟨by decide +kernel, by decide +kernel⟩, List.mem_of_getElem? (i := 648) (by decide +kernel), List.mem_of_getElem? (i := 827) (by decide +kernel), List.mem_of_getElem? (i := 828) (by decide +kernel)⟩
theorem lw_p31 : lw_okq (⟨"DivideSmithModel", "take", "(IIJ)V"⟩, 40) := ⟨⟨by decide +kernel, by decide +kernel⟩, List.mem_of_getElem? (i := 648) (by decide +kernel), List.mem_of_getElem? (i := 834) (by decide +kernel), List.mem_of_getElem? (i := 835) (by decide +kernel)⟩
def lw_privs_2 : List (MethodName × Nat) := [(⟨"DivideSmith$Search", "extend", "(IIII)V"⟩, 14), (⟨"DivideSmith$Search", "isRight", "(I)Z"⟩, 14), (⟨"DivideSmith$Search", "fillUpTo", "(II)V"⟩, 14), (⟨"DivideSmith$Search", "valueOf", "(II)J"⟩, 14), (⟨"DivideSmith$Search", "keep", "(II)V"⟩, 14), (⟨"DivideSmith", "takeBack", "(LDivideSmith$Act;)V"⟩, 10), (⟨"DivideSmith", "rowOf", "(ILDivideSmith$Form;II)LDivideSmith$Holding;"⟩, 10), (⟨"DivideSmith", "rowAnswer", "(IIII)I"⟩, 10), (⟨"DivideSmithModel", "add", "(I)I"⟩, 40), (⟨"DivideSmithModel", "note", "(IIIJ)V"⟩, 40), (⟨"DivideSmithModel", "moveAct", "(II)V"⟩, 40), (⟨"DivideSmithModel", "copyHeld", "(II)V"⟩, 40), (⟨"DivideSmithModel", "isForm", "(I)Z"⟩, 40), (⟨"DivideSmithModel", "put", "(IIIJ)I"⟩, 40), (⟨"DivideSmithModel", "isAsking", "(IIIJ)Z"⟩, 40), (⟨"DivideSmithModel", "take", "(IIJ)V"⟩, 40)]
theorem lw_r2 : ∀ q ∈ lw_privs_2, lw_okq q := List.forall_mem_cons.mpr ⟨lw_p16, List.forall_mem_cons.mpr ⟨lw_p17, List.forall_mem_cons.mpr ⟨lw_p18, List.forall_mem_cons.mpr ⟨lw_p19, List.forall_mem_cons.mpr ⟨lw_p20, List.forall_mem_cons.mpr ⟨lw_p21, List.forall_mem_cons.mpr ⟨lw_p22, List.forall_mem_cons.mpr ⟨lw_p23, List.forall_mem_cons.mpr ⟨lw_p24, List.forall_mem_cons.mpr ⟨lw_p25, List.forall_mem_cons.mpr ⟨lw_p26, List.forall_mem_cons.mpr ⟨lw_p27, List.forall_mem_cons.mpr ⟨lw_p28, List.forall_mem_cons.mpr ⟨lw_p29, List.forall_mem_cons.mpr ⟨lw_p30, List.forall_mem_cons.mpr ⟨lw_p31, fun _ h => absurd h List.not_mem_nil⟩⟩⟩⟩⟩⟩⟩⟩⟩⟩⟩⟩⟩⟩⟩⟩
theorem lw_p32 : lw_okq (⟨"DivideSmithModel", "writePlain", "(II)I"⟩, 40) := ⟨⟨by decide +kernel, by decide +kernel⟩, List.mem_of_getElem? (i := 648) (by decide +kernel), List.mem_of_getElem? (i := 838) (by decide +kernel), List.mem_of_getElem? (i := 839) (by decide +kernel)⟩
theorem lw_p33 : lw_okq (⟨"DivideSmithModel", "plainQuotient", "(II)I"⟩, 40) := ⟨⟨by decide +kernel, by decide +kernel⟩, List.mem_of_getElem? (i := 648) (by decide +kernel), List.mem_of_getElem? (i := 842) (by decide +kernel), List.mem_of_getElem? (i := 843) (by decide +kernel)⟩
theorem lw_p34 : lw_okq (⟨"DivideSmithModel", "find", "(II)V"⟩, 40) := ⟨⟨by decide +kernel, by decide +kernel⟩, List.mem_of_getElem? (i := 648) (by decide +kernel), List.mem_of_getElem? (i := 846) (by decide +kernel), List.mem_of_getElem? (i := 847) (by decide +kernel)⟩
theorem lw_p35 : lw_okq (⟨"DivideSmithModel", "quotient", "(JJ)J"⟩, 40) := ⟨⟨by decide +kernel, by decide +kernel⟩, List.mem_of_getElem? (i := 648) (by decide +kernel), List.mem_of_getElem? (i := 850) (by decide +kernel), List.mem_of_getElem? (i := 851) (by decide +kernel)⟩
theorem lw_p36 : lw_okq (⟨"DivideSmithModel", "restOf", "(IIJ)I"⟩, 40) := ⟨⟨by decide +kernel, by decide +kernel⟩, List.mem_of_getElem? (i := 648) (by decide +kernel), List.mem_of_getElem? (i := 859) (by decide +kernel), List.mem_of_getElem? (i := 860) (by decide +kernel)⟩
theorem lw_p37 : lw_okq (⟨"DivideSmithModel", "plainWhole", "(II)I"⟩, 40) := ⟨⟨by decide +kernel, by decide +kernel⟩, List.mem_of_getElem? (i := 648) (by decide +kernel), List.mem_of_getElem? (i := 863) (by decide +kernel), List.mem_of_getElem? (i := 864) (by decide +kernel)⟩
theorem lw_p38 : lw_okq (⟨"DivideSmithModel", "writeSigned", "(IIJ)I"⟩, 40) := ⟨⟨by decide +kernel, by decide +kernel⟩, List.mem_of_getElem? (i := 648) (by decide +kernel), List.mem_of_getElem? (i := 871) (by decide +kernel), List.mem_of_getElem? (i := 872) (by decide +kernel)⟩
theorem lw_p39 : lw_okq (⟨"DivideSmithModel", "signedQuotient", "(IZ)I"⟩, 40) := ⟨⟨by decide +kernel, by decide +kernel⟩, List.mem_of_getElem? (i := 648) (by decide +kernel), List.mem_of_getElem? (i := 875) (by decide +kernel), List.mem_of_getElem? (i := 876) (by decide +kernel)⟩
theorem lw_p40 : lw_okq (⟨"DivideSmithModel", "signedDown", "(I)I"⟩, 40) := ⟨⟨by decide +kernel, by decide +kernel⟩, List.mem_of_getElem? (i := 648) (by decide +kernel), List.mem_of_getElem? (i := 879) (by decide +kernel), List.mem_of_getElem? (i := 880) (by decide +kernel)⟩
theorem lw_p41 : lw_okq (⟨"DivideSmithModel", "work", "(IJI)V"⟩, 40) := ⟨⟨by decide +kernel, by decide +kernel⟩, List.mem_of_getElem? (i := 648) (by decide +kernel), List.mem_of_getElem? (i := 910) (by decide +kernel), List.mem_of_getElem? (i := 911) (by decide +kernel)⟩
theorem lw_p42 : lw_okq (⟨"DivideSmithModel", "asked", "(IIIJJ)J"⟩, 40) := ⟨⟨by decide +kernel, by decide +kernel⟩, List.mem_of_getElem? (i := 648) (by decide +kernel), List.mem_of_getElem? (i := 935) (by decide +kernel), List.mem_of_getElem? (i := 936) (by decide +kernel)⟩
theorem lw_p43 : lw_okq (⟨"DivideSmithModel", "signedDivided", "(JJ)J"⟩, 40) := ⟨⟨by decide +kernel, by decide +kernel⟩, List.mem_of_getElem? (i := 648) (by decide +kernel), List.mem_of_getElem? (i := 939) (by decide +kernel), List.mem_of_getElem? (i := 940) (by decide +kernel)⟩
theorem lw_p44 : lw_okq (⟨"DivideSmithModel", "addBit", "(JI)V"⟩, 40) := ⟨⟨by decide +kernel, by decide +kernel⟩, List.mem_of_getElem? (i := 648) (by decide +kernel), List.mem_of_getElem? (i := 955) (by decide +kernel), List.mem_of_getElem? (i := 956) (by decide +kernel)⟩
theorem lw_p45 : lw_okq (⟨"DivideSmithModel", "takeBit", "(I)V"⟩, 40) := ⟨⟨by decide +kernel, by decide +kernel⟩, List.mem_of_getElem? (i := 648) (by decide +kernel), List.mem_of_getElem? (i := 960) (by decide +kernel), List.mem_of_getElem? (i := 961) (by decide +kernel)⟩
theorem lw_p46 : lw_okq (⟨"DivideSmithModel", "tryStep", "(III)V"⟩, 40) := ⟨⟨by decide +kernel, by decide +kernel⟩, List.mem_of_getElem? (i := 648) (by decide +kernel), List.mem_of_getElem? (i := 976) (by decide +kernel), List.mem_of_getElem? (i := 977) (by decide +kernel)⟩
theorem lw_p47 : lw_okq (⟨"DivideSmithModel", "mayBe", "(II)Z"⟩, 40) := ⟨⟨by decide +kernel, by decide +kernel⟩, List.mem_of_getElem? (i := 648) (by decide +kernel), List.mem_of_getElem? (i := 980) (by decide +kernel), List.mem_of_getElem? (i := 981) (by decide +kernel)⟩
def lw_privs_3 : List (MethodName × Nat) := [(⟨"DivideSmithModel", "writePlain", "(II)I"⟩, 40), (⟨"DivideSmithModel", "plainQuotient", "(II)I"⟩, 40), (⟨"DivideSmithModel", "find", "(II)V"⟩, 40), (⟨"DivideSmithModel", "quotient", "(JJ)J"⟩, 40), (⟨"DivideSmithModel", "restOf", "(IIJ)I"⟩, 40), (⟨"DivideSmithModel", "plainWhole", "(II)I"⟩, 40), (⟨"DivideSmithModel", "writeSigned", "(IIJ)I"⟩, 40), (⟨"DivideSmithModel", "signedQuotient", "(IZ)I"⟩, 40), (⟨"DivideSmithModel", "signedDown", "(I)I"⟩, 40), (⟨"DivideSmithModel", "work", "(IJI)V"⟩, 40), (⟨"DivideSmithModel", "asked", "(IIIJJ)J"⟩, 40), (⟨"DivideSmithModel", "signedDivided", "(JJ)J"⟩, 40), (⟨"DivideSmithModel", "addBit", "(JI)V"⟩, 40), (⟨"DivideSmithModel", "takeBit", "(I)V"⟩, 40), (⟨"DivideSmithModel", "tryStep", "(III)V"⟩, 40), (⟨"DivideSmithModel", "mayBe", "(II)Z"⟩, 40)]
theorem lw_r3 : ∀ q ∈ lw_privs_3, lw_okq q := List.forall_mem_cons.mpr ⟨lw_p32, List.forall_mem_cons.mpr ⟨lw_p33, List.forall_mem_cons.mpr ⟨lw_p34, List.forall_mem_cons.mpr ⟨lw_p35, List.forall_mem_cons.mpr ⟨lw_p36, List.forall_mem_cons.mpr ⟨lw_p37, List.forall_mem_cons.mpr ⟨lw_p38, List.forall_mem_cons.mpr ⟨lw_p39, List.forall_mem_cons.mpr ⟨lw_p40, List.forall_mem_cons.mpr ⟨lw_p41, List.forall_mem_cons.mpr ⟨lw_p42, List.forall_mem_cons.mpr ⟨lw_p43, List.forall_mem_cons.mpr ⟨lw_p44, List.forall_mem_cons.mpr ⟨lw_p45, List.forall_mem_cons.mpr ⟨lw_p46, List.forall_mem_cons.mpr ⟨lw_p47, fun _ h => absurd h List.not_mem_nil⟩⟩⟩⟩⟩⟩⟩⟩⟩⟩⟩⟩⟩⟩⟩⟩
theorem lw_p48 : lw_okq (⟨"DivideSmithModel", "look", "(II)V"⟩, 40) := ⟨⟨by decide +kernel, by decide +kernel⟩, List.mem_of_getElem? (i := 648) (by decide +kernel), List.mem_of_getElem? (i := 986) (by decide +kernel), List.mem_of_getElem? (i := 987) (by decide +kernel)⟩
theorem lw_p49 : lw_okq (⟨"DivideSmithModel", "madeBy", "(II)I"⟩, 40) := ⟨⟨by decide +kernel, by decide +kernel⟩, List.mem_of_getElem? (i := 648) (by decide +kernel), List.mem_of_getElem? (i := 990) (by decide +kernel), List.mem_of_getElem? (i := 991) (by decide +kernel)⟩
theorem lw_p50 : lw_okq (⟨"DivideSmithModel", "yOf", "(II)J"⟩, 40) := ⟨⟨by decide +kernel, by decide +kernel⟩, List.mem_of_getElem? (i := 648) (by decide +kernel), List.mem_of_getElem? (i := 994) (by decide +kernel), List.mem_of_getElem? (i := 995) (by decide +kernel)⟩
theorem lw_p51 : lw_okq (⟨"DivideSmithModel", "fill", "(I)V"⟩, 40) := ⟨⟨by decide +kernel, by decide +kernel⟩, List.mem_of_getElem? (i := 648) (by decide +kernel), List.mem_of_getElem? (i := 998) (by decide +kernel), List.mem_of_getElem? (i := 999) (by decide +kernel)⟩
theorem lw_p52 : lw_okq (⟨"DivideSmithModel", "isIn", "(II)Z"⟩, 40) := ⟨⟨by decide +kernel, by decide +kernel⟩, List.mem_of_getElem? (i := 648) (by decide +kernel), List.mem_of_getElem? (i := 1026) (by decide +kernel), List.mem_of_getElem? (i := 1027) (by decide +kernel)⟩
def lw_privs_4 : List (MethodName × Nat) := [(⟨"DivideSmithModel", "look", "(II)V"⟩, 40), (⟨"DivideSmithModel", "madeBy", "(II)I"⟩, 40), (⟨"DivideSmithModel", "yOf", "(II)J"⟩, 40), (⟨"DivideSmithModel", "fill", "(I)V"⟩, 40), (⟨"DivideSmithModel", "isIn", "(II)Z"⟩, 40)]
theorem lw_r4 : ∀ q ∈ lw_privs_4, lw_okq q := List.forall_mem_cons.mpr ⟨lw_p48, List.forall_mem_cons.mpr ⟨lw_p49, List.forall_mem_cons.mpr ⟨lw_p50, List.forall_mem_cons.mpr ⟨lw_p51, List.forall_mem_cons.mpr ⟨lw_p52, fun _ h => absurd h List.not_mem_nil⟩⟩⟩⟩⟩
def lw_privs : List (MethodName × Nat) := lw_privs_1 ++ (lw_privs_2 ++ (lw_privs_3 ++ (lw_privs_4)))
def lw_tbl : List Cond := k2_sels lw_privs ++ tables_1
theorem lw_privs_ok : ∀ q ∈ lw_privs, lw_okq q := by
  show ∀ q ∈ lw_privs_1 ++ (lw_privs_2 ++ (lw_privs_3 ++ (lw_privs_4))), lw_okq q
  exact List.forall_mem_append.mpr ⟨lw_r1, List.forall_mem_append.mpr ⟨lw_r2, List.forall_mem_append.mpr ⟨lw_r3, lw_r4⟩⟩⟩
end
section
def RX0 : String := "DivideSmith$Act"
def TX0 : u_T := fun k => match k with
  | 0 => ("DivideSmith$Act", "kind", "I", true)
  | 1 => ("DivideSmith$Act", "subject", "I", true)
  | 2 => ("DivideSmith$Act", "place", "I", true)
  | 3 => ("DivideSmith$Act", "old", "J", true)
  | _ => ("DivideSmith$Act", "holding", "LDivideSmith$Holding;", true)
def tyX0 : Nat → FieldType := fun k => match k with
  | 0 => .int
  | 1 => .int
  | 2 => .int
  | 3 => .long
  | _ => .object "DivideSmith$Holding"
theorem nmX0 : ∀ a, a < 5 → ∀ b, b < 5 → a ≠ b → (TX0 a).2.1 ≠ (TX0 b).2.1 := by decide +kernel
theorem tyX0_ok : ∀ k, k < 5 → parseFieldDescriptor (TX0 k).2.2.1 = some (tyX0 k) := by decide +kernel
abbrev cX0_init : ByteArray := prog_2_method_1_code
def yX0_init : MethodName := ⟨RX0, "<init>", "(IIIJLDivideSmith$Holding;)V"⟩
abbrev cX0_isOnForm : ByteArray := prog_2_method_2_code
def yX0_isOnForm : MethodName := ⟨RX0, "isOnForm", "(I)Z"⟩
def RX1 : String := "DivideSmith$Asking"
def TX1 : u_T := fun k => match k with
  | 0 => ("DivideSmith$Asking", "width", "I", true)
  | 1 => ("DivideSmith$Asking", "signed", "Z", true)
  | 2 => ("DivideSmith$Asking", "wish", "I", true)
  | _ => ("DivideSmith$Asking", "divisor", "J", true)
def tyX1 : Nat → FieldType := fun k => match k with
  | 0 => .int
  | 1 => .boolean
  | 2 => .int
  | _ => .long
theorem nmX1 : ∀ a, a < 4 → ∀ b, b < 4 → a ≠ b → (TX1 a).2.1 ≠ (TX1 b).2.1 := by decide +kernel
theorem tyX1_ok : ∀ k, k < 4 → parseFieldDescriptor (TX1 k).2.2.1 = some (tyX1 k) := by decide +kernel
abbrev cX1_init : ByteArray := prog_3_method_1_code
def yX1_init : MethodName := ⟨RX1, "<init>", "(IIIJ)V"⟩
abbrev cX1_isAsking : ByteArray := prog_3_method_2_code
def yX1_isAsking : MethodName := ⟨RX1, "isAsking", "(IIIJ)Z"⟩
abbrev cX1_asksOf : ByteArray := prog_3_method_3_code
def yX1_asksOf : MethodName := ⟨RX1, "asksOf", "(J)Z"⟩
abbrev cX1_answer : ByteArray := prog_3_method_4_code
def yX1_answer : MethodName := ⟨RX1, "answer", "(J)J"⟩
abbrev cX1_numberOf : ByteArray := prog_3_method_5_code
def yX1_numberOf : MethodName := ⟨RX1, "numberOf", "(J)J"⟩
abbrev cX1_towardsZero : ByteArray := prog_3_method_6_code
def yX1_towardsZero : MethodName := ⟨RX1, "towardsZero", "(J)J"⟩
def RX2 : String := "DivideSmith$Bits"
def TX2 : u_T := fun k => match k with
  | _ => ("", "", "", false)
def tyX2 : Nat → FieldType := fun k => match k with
  | _ => .int
theorem nmX2 : ∀ a, a < 0 → ∀ b, b < 0 → a ≠ b → (TX2 a).2.1 ≠ (TX2 b).2.1 := by decide +kernel
theorem tyX2_ok : ∀ k, k < 0 → parseFieldDescriptor (TX2 k).2.2.1 = some (tyX2 k) := by decide +kernel
abbrev cX2_isWidth : ByteArray := prog_4_method_2_code
def yX2_isWidth : MethodName := ⟨RX2, "isWidth", "(I)Z"⟩
abbrev cX2_mask : ByteArray := prog_4_method_3_code
def yX2_mask : MethodName := ⟨RX2, "mask", "(I)J"⟩
abbrev cX2_signedOf : ByteArray := prog_4_method_4_code
def yX2_signedOf : MethodName := ⟨RX2, "signedOf", "(IJ)J"⟩
abbrev cX2_below : ByteArray := prog_4_method_5_code
def yX2_below : MethodName := ⟨RX2, "below", "(JJ)Z"⟩
abbrev cX2_quotient : ByteArray := prog_4_method_6_code
def yX2_quotient : MethodName := ⟨RX2, "quotient", "(JJ)J"⟩
abbrev cX2_highPlain : ByteArray := prog_4_method_7_code
def yX2_highPlain : MethodName := ⟨RX2, "highPlain", "(IJJ)J"⟩
abbrev cX2_highSigned : ByteArray := prog_4_method_8_code
def yX2_highSigned : MethodName := ⟨RX2, "highSigned", "(IJJ)J"⟩
abbrev cX2_highOf64 : ByteArray := prog_4_method_9_code
def yX2_highOf64 : MethodName := ⟨RX2, "highOf64", "(JJ)J"⟩
abbrev cX2_inverseOf : ByteArray := prog_4_method_10_code
def yX2_inverseOf : MethodName := ⟨RX2, "inverseOf", "(IJ)J"⟩
def RX3 : String := "DivideSmith$Form"
def TX3 : u_T := fun k => match k with
  | 0 => ("DivideSmith$Form", "width", "I", false)
  | 1 => ("DivideSmith$Form", "stepCount", "I", false)
  | 2 => ("DivideSmith$Form", "kinds", "[I", true)
  | 3 => ("DivideSmith$Form", "xs", "[I", true)
  | _ => ("DivideSmith$Form", "ys", "[J", true)
def tyX3 : Nat → FieldType := fun k => match k with
  | 0 => .int
  | 1 => .int
  | 2 => .array .int
  | 3 => .array .int
  | _ => .array .long
theorem nmX3 : ∀ a, a < 5 → ∀ b, b < 5 → a ≠ b → (TX3 a).2.1 ≠ (TX3 b).2.1 := by decide +kernel
theorem tyX3_ok : ∀ k, k < 5 → parseFieldDescriptor (TX3 k).2.2.1 = some (tyX3 k) := by decide +kernel
abbrev cX3_init : ByteArray := prog_5_method_1_code
def yX3_init : MethodName := ⟨RX3, "<init>", "()V"⟩
abbrev cX3_begin : ByteArray := prog_5_method_2_code
def yX3_begin : MethodName := ⟨RX3, "begin", "(I)V"⟩
abbrev cX3_hasStep : ByteArray := prog_5_method_3_code
def yX3_hasStep : MethodName := ⟨RX3, "hasStep", "(I)Z"⟩
abbrev cX3_add : ByteArray := prog_5_method_4_code
def yX3_add : MethodName := ⟨RX3, "add", "(IIJ)I"⟩
abbrev cX3_removeLast : ByteArray := prog_5_method_5_code
def yX3_removeLast : MethodName := ⟨RX3, "removeLast", "()V"⟩
abbrev cX3_work : ByteArray := prog_5_method_6_code
def yX3_work : MethodName := ⟨RX3, "work", "(JI[J)V"⟩
def RX4 : String := "DivideSmith$History"
def TX4 : u_T := fun k => match k with
  | 0 => ("DivideSmith$History", "acts", "[LDivideSmith$Act;", true)
  | _ => ("DivideSmith$History", "size", "I", false)
def tyX4 : Nat → FieldType := fun k => match k with
  | 0 => .array (.object "DivideSmith$Act")
  | _ => .int
theorem nmX4 : ∀ a, a < 2 → ∀ b, b < 2 → a ≠ b → (TX4 a).2.1 ≠ (TX4 b).2.1 := by decide +kernel
theorem tyX4_ok : ∀ k, k < 2 → parseFieldDescriptor (TX4 k).2.2.1 = some (tyX4 k) := by decide +kernel
abbrev cX4_init : ByteArray := prog_6_method_1_code
def yX4_init : MethodName := ⟨RX4, "<init>", "()V"⟩
abbrev cX4_add : ByteArray := prog_6_method_2_code
def yX4_add : MethodName := ⟨RX4, "add", "(LDivideSmith$Act;)V"⟩
abbrev cX4_takeLatest : ByteArray := prog_6_method_3_code
def yX4_takeLatest : MethodName := ⟨RX4, "takeLatest", "()LDivideSmith$Act;"⟩
abbrev cX4_forgetForm : ByteArray := prog_6_method_4_code
def yX4_forgetForm : MethodName := ⟨RX4, "forgetForm", "(I)V"⟩
def RX5 : String := "DivideSmith$Holding"
def TX5 : u_T := fun k => match k with
  | 0 => ("DivideSmith$Holding", "kind", "I", true)
  | 1 => ("DivideSmith$Holding", "stepKind", "I", true)
  | 2 => ("DivideSmith$Holding", "stepY", "J", true)
  | _ => ("DivideSmith$Holding", "cells", "[J", true)
def tyX5 : Nat → FieldType := fun k => match k with
  | 0 => .int
  | 1 => .int
  | 2 => .long
  | _ => .array .long
theorem nmX5 : ∀ a, a < 4 → ∀ b, b < 4 → a ≠ b → (TX5 a).2.1 ≠ (TX5 b).2.1 := by decide +kernel
theorem tyX5_ok : ∀ k, k < 4 → parseFieldDescriptor (TX5 k).2.2.1 = some (tyX5 k) := by decide +kernel
abbrev cX5_init : ByteArray := prog_7_method_1_code
def yX5_init : MethodName := ⟨RX5, "<init>", "(IIJI)V"⟩
abbrev cX5_multiplies : ByteArray := prog_7_method_2_code
def yX5_multiplies : MethodName := ⟨RX5, "multiplies", "()Z"⟩
abbrev cX5_hasPlace : ByteArray := prog_7_method_3_code
def yX5_hasPlace : MethodName := ⟨RX5, "hasPlace", "(I)Z"⟩
def RX6 : String := "DivideSmith$Kinds"
def TX6 : u_T := fun k => match k with
  | _ => ("", "", "", false)
def tyX6 : Nat → FieldType := fun k => match k with
  | _ => .int
theorem nmX6 : ∀ a, a < 0 → ∀ b, b < 0 → a ≠ b → (TX6 a).2.1 ≠ (TX6 b).2.1 := by decide +kernel
theorem tyX6_ok : ∀ k, k < 0 → parseFieldDescriptor (TX6 k).2.2.1 = some (tyX6 k) := by decide +kernel
abbrev cX6_takesOperand : ByteArray := prog_8_method_2_code
def yX6_takesOperand : MethodName := ⟨RX6, "takesOperand", "(I)Z"⟩
abbrev cX6_takesCount : ByteArray := prog_8_method_3_code
def yX6_takesCount : MethodName := ⟨RX6, "takesCount", "(I)Z"⟩
abbrev cX6_apply : ByteArray := prog_8_method_4_code
def yX6_apply : MethodName := ⟨RX6, "apply", "(IIJJ)J"⟩
def RX7 : String := "DivideSmith$Magic"
def TX7 : u_T := fun k => match k with
  | 0 => ("DivideSmith$Magic", "shift", "I", true)
  | 1 => ("DivideSmith$Magic", "low", "J", true)
  | 2 => ("DivideSmith$Magic", "over", "Z", true)
  | _ => ("DivideSmith$Magic", "miss", "J", true)
def tyX7 : Nat → FieldType := fun k => match k with
  | 0 => .int
  | 1 => .long
  | 2 => .boolean
  | _ => .long
theorem nmX7 : ∀ a, a < 4 → ∀ b, b < 4 → a ≠ b → (TX7 a).2.1 ≠ (TX7 b).2.1 := by decide +kernel
theorem tyX7_ok : ∀ k, k < 4 → parseFieldDescriptor (TX7 k).2.2.1 = some (tyX7 k) := by decide +kernel
abbrev cX7_init : ByteArray := prog_9_method_1_code
def yX7_init : MethodName := ⟨RX7, "<init>", "(IJI)V"⟩
abbrev cX7_isAbovePower : ByteArray := prog_9_method_2_code
def yX7_isAbovePower : MethodName := ⟨RX7, "isAbovePower", "(JI)Z"⟩
def RX8 : String := "DivideSmith$Search"
def TX8 : u_T := fun k => match k with
  | 0 => ("DivideSmith$Search", "prices", "[I", true)
  | 1 => ("DivideSmith$Search", "askedCount", "I", false)
  | 2 => ("DivideSmith$Search", "wanted", "[J", true)
  | 3 => ("DivideSmith$Search", "rows", "[[J", true)
  | 4 => ("DivideSmith$Search", "filled", "[I", true)
  | 5 => ("DivideSmith$Search", "choiceCount", "I", false)
  | 6 => ("DivideSmith$Search", "choiceKinds", "[I", true)
  | 7 => ("DivideSmith$Search", "choiceXs", "[I", true)
  | 8 => ("DivideSmith$Search", "choiceYs", "[J", true)
  | 9 => ("DivideSmith$Search", "choiceUses", "[I", true)
  | 10 => ("DivideSmith$Search", "picked", "[I", true)
  | 11 => ("DivideSmith$Search", "bestCost", "I", false)
  | 12 => ("DivideSmith$Search", "bestLength", "I", false)
  | _ => ("DivideSmith$Search", "best", "[I", true)
def tyX8 : Nat → FieldType := fun k => match k with
  | 0 => .array .int
  | 1 => .int
  | 2 => .array .long
  | 3 => .array (.array .long)
  | 4 => .array .int
  | 5 => .int
  | 6 => .array .int
  | 7 => .array .int
  | 8 => .array .long
  | 9 => .array .int
  | 10 => .array .int
  | 11 => .int
  | 12 => .int
  | _ => .array .int
theorem nmX8 : ∀ a, a < 14 → ∀ b, b < 14 → a ≠ b → (TX8 a).2.1 ≠ (TX8 b).2.1 := by decide +kernel
theorem tyX8_ok : ∀ k, k < 14 → parseFieldDescriptor (TX8 k).2.2.1 = some (tyX8 k) := by decide +kernel
abbrev cX8_init : ByteArray := prog_10_method_1_code
def yX8_init : MethodName := ⟨RX8, "<init>", "()V"⟩
abbrev cX8_prepare : ByteArray := prog_10_method_2_code
def yX8_prepare : MethodName := ⟨RX8, "prepare", "(LDivideSmith$Asking;[J[I)V"⟩
abbrev cX8_listChoices : ByteArray := prog_10_method_3_code
def yX8_listChoices : MethodName := ⟨RX8, "listChoices", "([J)V"⟩
abbrev cX8_listTold : ByteArray := prog_10_method_4_code
def yX8_listTold : MethodName := ⟨RX8, "listTold", "(II[J)V"⟩
abbrev cX8_stoodBefore : ByteArray := prog_10_method_5_code
def yX8_stoodBefore : MethodName := ⟨RX8, "stoodBefore", "([JIJ)Z"⟩
abbrev cX8_addChoice : ByteArray := prog_10_method_6_code
def yX8_addChoice : MethodName := ⟨RX8, "addChoice", "(IIJI)V"⟩
abbrev cX8_extend : ByteArray := prog_10_method_7_code
def yX8_extend : MethodName := ⟨RX8, "extend", "(IIII)V"⟩
abbrev cX8_isRight : ByteArray := prog_10_method_8_code
def yX8_isRight : MethodName := ⟨RX8, "isRight", "(I)Z"⟩
abbrev cX8_fillUpTo : ByteArray := prog_10_method_9_code
def yX8_fillUpTo : MethodName := ⟨RX8, "fillUpTo", "(II)V"⟩
abbrev cX8_valueOf : ByteArray := prog_10_method_10_code
def yX8_valueOf : MethodName := ⟨RX8, "valueOf", "(II)J"⟩
abbrev cX8_keep : ByteArray := prog_10_method_11_code
def yX8_keep : MethodName := ⟨RX8, "keep", "(II)V"⟩
abbrev cX8_writeBest : ByteArray := prog_10_method_12_code
def yX8_writeBest : MethodName := ⟨RX8, "writeBest", "(LDivideSmith$Form;)V"⟩
def RX9 : String := "DivideSmith$Writer"
def TX9 : u_T := fun k => match k with
  | 0 => ("DivideSmith$Writer", "target", "LDivideSmith$Form;", true)
  | 1 => ("DivideSmith$Writer", "asking", "LDivideSmith$Asking;", true)
  | 2 => ("DivideSmith$Writer", "width", "I", true)
  | 3 => ("DivideSmith$Writer", "size", "J", true)
  | 4 => ("DivideSmith$Writer", "twos", "I", true)
  | _ => ("DivideSmith$Writer", "odd", "J", true)
def tyX9 : Nat → FieldType := fun k => match k with
  | 0 => .object "DivideSmith$Form"
  | 1 => .object "DivideSmith$Asking"
  | 2 => .int
  | 3 => .long
  | 4 => .int
  | _ => .long
theorem nmX9 : ∀ a, a < 6 → ∀ b, b < 6 → a ≠ b → (TX9 a).2.1 ≠ (TX9 b).2.1 := by decide +kernel
theorem tyX9_ok : ∀ k, k < 6 → parseFieldDescriptor (TX9 k).2.2.1 = some (tyX9 k) := by decide +kernel
abbrev cX9_init : ByteArray := prog_11_method_1_code
def yX9_init : MethodName := ⟨RX9, "<init>", "(LDivideSmith$Form;LDivideSmith$Asking;)V"⟩
abbrev cX9_writePlain : ByteArray := prog_11_method_2_code
def yX9_writePlain : MethodName := ⟨RX9, "writePlain", "()V"⟩
abbrev cX9_writeSigned : ByteArray := prog_11_method_3_code
def yX9_writeSigned : MethodName := ⟨RX9, "writeSigned", "()V"⟩
abbrev cX9_plainQuotient : ByteArray := prog_11_method_4_code
def yX9_plainQuotient : MethodName := ⟨RX9, "plainQuotient", "(I)I"⟩
abbrev cX9_signedQuotient : ByteArray := prog_11_method_5_code
def yX9_signedQuotient : MethodName := ⟨RX9, "signedQuotient", "()I"⟩
abbrev cX9_signedByShifting : ByteArray := prog_11_method_6_code
def yX9_signedByShifting : MethodName := ⟨RX9, "signedByShifting", "()I"⟩
abbrev cX9_signedByMultiplying : ByteArray := prog_11_method_7_code
def yX9_signedByMultiplying : MethodName := ⟨RX9, "signedByMultiplying", "()I"⟩
abbrev cX9_quotientDownwards : ByteArray := prog_11_method_8_code
def yX9_quotientDownwards : MethodName := ⟨RX9, "quotientDownwards", "()I"⟩
abbrev cX9_sizeOfNumber : ByteArray := prog_11_method_9_code
def yX9_sizeOfNumber : MethodName := ⟨RX9, "sizeOfNumber", "()I"⟩
abbrev cX9_restAfter : ByteArray := prog_11_method_10_code
def yX9_restAfter : MethodName := ⟨RX9, "restAfter", "(I)V"⟩
abbrev cX9_noRest : ByteArray := prog_11_method_11_code
def yX9_noRest : MethodName := ⟨RX9, "noRest", "(I)V"⟩
abbrev cX9_exact : ByteArray := prog_11_method_12_code
def yX9_exact : MethodName := ⟨RX9, "exact", "(IZJ)V"⟩
def RX10 : String := "DivideSmith"
def TX10 : u_T := fun k => match k with
  | 0 => ("DivideSmith", "forms", "[LDivideSmith$Form;", true)
  | 1 => ("DivideSmith", "formCount", "I", false)
  | 2 => ("DivideSmith", "prices", "[I", true)
  | 3 => ("DivideSmith", "toldNumbers", "[J", true)
  | 4 => ("DivideSmith", "hooks", "[LDivideSmith$Holding;", true)
  | 5 => ("DivideSmith", "nothing", "LDivideSmith$Holding;", true)
  | 6 => ("DivideSmith", "history", "LDivideSmith$History;", true)
  | 7 => ("DivideSmith", "search", "LDivideSmith$Search;", true)
  | 8 => ("DivideSmith", "lookCount", "I", false)
  | _ => ("DivideSmith", "made", "[J", true)
def tyX10 : Nat → FieldType := fun k => match k with
  | 0 => .array (.object "DivideSmith$Form")
  | 1 => .int
  | 2 => .array .int
  | 3 => .array .long
  | 4 => .array (.object "DivideSmith$Holding")
  | 5 => .object "DivideSmith$Holding"
  | 6 => .object "DivideSmith$History"
  | 7 => .object "DivideSmith$Search"
  | 8 => .int
  | _ => .array .long
theorem nmX10 : ∀ a, a < 10 → ∀ b, b < 10 → a ≠ b → (TX10 a).2.1 ≠ (TX10 b).2.1 := by decide +kernel
theorem tyX10_ok : ∀ k, k < 10 → parseFieldDescriptor (TX10 k).2.2.1 = some (tyX10 k) := by decide +kernel
abbrev cX10_init : ByteArray := prog_1_method_1_code
def yX10_init : MethodName := ⟨RX10, "<init>", "()V"⟩
abbrev cX10_form : ByteArray := prog_1_method_2_code
def yX10_form : MethodName := ⟨RX10, "form", "(I)I"⟩
abbrev cX10_step : ByteArray := prog_1_method_3_code
def yX10_step : MethodName := ⟨RX10, "step", "(IIIJ)I"⟩
abbrev cX10_make : ByteArray := prog_1_method_4_code
def yX10_make : MethodName := ⟨RX10, "make", "(IIIJ)I"⟩
abbrev cX10_drop : ByteArray := prog_1_method_5_code
def yX10_drop : MethodName := ⟨RX10, "drop", "()I"⟩
abbrev cX10_steps : ByteArray := prog_1_method_6_code
def yX10_steps : MethodName := ⟨RX10, "steps", "(I)I"⟩
abbrev cX10_told : ByteArray := prog_1_method_7_code
def yX10_told : MethodName := ⟨RX10, "told", "(III)J"⟩
abbrev cX10_width : ByteArray := prog_1_method_8_code
def yX10_width : MethodName := ⟨RX10, "width", "(I)I"⟩
abbrev cX10_cost : ByteArray := prog_1_method_9_code
def yX10_cost : MethodName := ⟨RX10, "cost", "(I)I"⟩
abbrev cX10_price : ByteArray := prog_1_method_10_code
def yX10_price : MethodName := ⟨RX10, "price", "(II)I"⟩
abbrev cX10_run : ByteArray := prog_1_method_11_code
def yX10_run : MethodName := ⟨RX10, "run", "(IJ)J"⟩
abbrev cX10_end : ByteArray := prog_1_method_12_code
def yX10_end : MethodName := ⟨RX10, "end", "(IJI)J"⟩
abbrev cX10_fails : ByteArray := prog_1_method_13_code
def yX10_fails : MethodName := ⟨RX10, "fails", "(IIIJ)I"⟩
abbrev cX10_plain : ByteArray := prog_1_method_14_code
def yX10_plain : MethodName := ⟨RX10, "plain", "(IIIJJ)J"⟩
abbrev cX10_proof : ByteArray := prog_1_method_15_code
def yX10_proof : MethodName := ⟨RX10, "proof", "(IJI)J"⟩
abbrev cX10_check : ByteArray := prog_1_method_16_code
def yX10_check : MethodName := ⟨RX10, "check", "(IJIJI)I"⟩
abbrev cX10_inverse : ByteArray := prog_1_method_17_code
def yX10_inverse : MethodName := ⟨RX10, "inverse", "(IJ)J"⟩
abbrev cX10_tell : ByteArray := prog_1_method_18_code
def yX10_tell : MethodName := ⟨RX10, "tell", "(IJ)J"⟩
abbrev cX10_least : ByteArray := prog_1_method_19_code
def yX10_least : MethodName := ⟨RX10, "least", "(IIJI)I"⟩
abbrev cX10_count : ByteArray := prog_1_method_20_code
def yX10_count : MethodName := ⟨RX10, "count", "(I)I"⟩
abbrev cX10_undo : ByteArray := prog_1_method_21_code
def yX10_undo : MethodName := ⟨RX10, "undo", "()I"⟩
abbrev cX10_hook : ByteArray := prog_1_method_22_code
def yX10_hook : MethodName := ⟨RX10, "hook", "(IIII)I"⟩
abbrev cX10_held : ByteArray := prog_1_method_23_code
def yX10_held : MethodName := ⟨RX10, "held", "(I)I"⟩
abbrev cX10_use : ByteArray := prog_1_method_24_code
def yX10_use : MethodName := ⟨RX10, "use", "(IIII)I"⟩
abbrev cX10_isKind : ByteArray := prog_1_method_25_code
def yX10_isKind : MethodName := ⟨RX10, "isKind", "(I)Z"⟩
abbrev cX10_fitsAsY : ByteArray := prog_1_method_26_code
def yX10_fitsAsY : MethodName := ⟨RX10, "fitsAsY", "(LDivideSmith$Form;IJ)Z"⟩
abbrev cX10_formAt : ByteArray := prog_1_method_27_code
def yX10_formAt : MethodName := ⟨RX10, "formAt", "(I)LDivideSmith$Form;"⟩
abbrev cX10_openForm : ByteArray := prog_1_method_28_code
def yX10_openForm : MethodName := ⟨RX10, "openForm", "(I)LDivideSmith$Form;"⟩
abbrev cX10_proofHolds : ByteArray := prog_1_method_29_code
def yX10_proofHolds : MethodName := ⟨RX10, "proofHolds", "(IIZJJ)Z"⟩
abbrev cX10_takeBack : ByteArray := prog_1_method_30_code
def yX10_takeBack : MethodName := ⟨RX10, "takeBack", "(LDivideSmith$Act;)V"⟩
abbrev cX10_removeStep : ByteArray := prog_1_method_31_code
def yX10_removeStep : MethodName := ⟨RX10, "removeStep", "(LDivideSmith$Form;)V"⟩
abbrev cX10_restoreCell : ByteArray := prog_1_method_32_code
def yX10_restoreCell : MethodName := ⟨RX10, "restoreCell", "(LDivideSmith$Holding;IJ)V"⟩
abbrev cX10_rowOf : ByteArray := prog_1_method_33_code
def yX10_rowOf : MethodName := ⟨RX10, "rowOf", "(ILDivideSmith$Form;II)LDivideSmith$Holding;"⟩
abbrev cX10_narrowed : ByteArray := prog_1_method_34_code
def yX10_narrowed : MethodName := ⟨RX10, "narrowed", "(IJ)J"⟩
abbrev cX10_copyAnswer : ByteArray := prog_1_method_35_code
def yX10_copyAnswer : MethodName := ⟨RX10, "copyAnswer", "(LDivideSmith$Holding;II)I"⟩
abbrev cX10_rowAnswer : ByteArray := prog_1_method_36_code
def yX10_rowAnswer : MethodName := ⟨RX10, "rowAnswer", "(IIII)I"⟩
def RX11 : String := "DivideSmithModel"
def TX11 : u_T := fun k => match k with
  | 0 => ("DivideSmithModel", "code", "I", false)
  | 1 => ("DivideSmithModel", "rest", "J", false)
  | 2 => ("DivideSmithModel", "forms", "I", false)
  | 3 => ("DivideSmithModel", "widthOf", "[I", true)
  | 4 => ("DivideSmithModel", "many", "[I", true)
  | 5 => ("DivideSmithModel", "kinds", "[I", true)
  | 6 => ("DivideSmithModel", "xs", "[I", true)
  | 7 => ("DivideSmithModel", "ys", "[J", true)
  | 8 => ("DivideSmithModel", "prices", "[I", true)
  | 9 => ("DivideSmithModel", "made", "[J", true)
  | 10 => ("DivideSmithModel", "acts", "I", false)
  | 11 => ("DivideSmithModel", "actKind", "[I", true)
  | 12 => ("DivideSmithModel", "actWhich", "[I", true)
  | 13 => ("DivideSmithModel", "actPlace", "[I", true)
  | 14 => ("DivideSmithModel", "actWas", "[J", true)
  | 15 => ("DivideSmithModel", "heldKind", "[I", true)
  | 16 => ("DivideSmithModel", "heldSize", "[I", true)
  | 17 => ("DivideSmithModel", "heldRow", "[J", true)
  | 18 => ("DivideSmithModel", "size", "J", false)
  | 19 => ("DivideSmithModel", "twos", "I", false)
  | 20 => ("DivideSmithModel", "odd", "J", false)
  | 21 => ("DivideSmithModel", "factor", "J", false)
  | 22 => ("DivideSmithModel", "over", "I", false)
  | 23 => ("DivideSmithModel", "moved", "I", false)
  | 24 => ("DivideSmithModel", "miss", "J", false)
  | 25 => ("DivideSmithModel", "leaves", "Z", false)
  | 26 => ("DivideSmithModel", "halves", "[J", true)
  | 27 => ("DivideSmithModel", "told", "[J", true)
  | 28 => ("DivideSmithModel", "looks", "I", false)
  | 29 => ("DivideSmithModel", "all", "[I", true)
  | 30 => ("DivideSmithModel", "due", "[I", true)
  | 31 => ("DivideSmithModel", "counts", "[Z", true)
  | 32 => ("DivideSmithModel", "nowKind", "[I", true)
  | 33 => ("DivideSmithModel", "nowX", "[I", true)
  | 34 => ("DivideSmithModel", "nowY", "[I", true)
  | 35 => ("DivideSmithModel", "bestKind", "[I", true)
  | 36 => ("DivideSmithModel", "bestX", "[I", true)
  | 37 => ("DivideSmithModel", "bestY", "[J", true)
  | 38 => ("DivideSmithModel", "best", "I", false)
  | _ => ("DivideSmithModel", "bestSteps", "I", false)
def tyX11 : Nat → FieldType := fun k => match k with
  | 0 => .int
  | 1 => .long
  | 2 => .int
  | 3 => .array .int
  | 4 => .array .int
  | 5 => .array .int
  | 6 => .array .int
  | 7 => .array .long
  | 8 => .array .int
  | 9 => .array .long
  | 10 => .int
  | 11 => .array .int
  | 12 => .array .int
  | 13 => .array .int
  | 14 => .array .long
  | 15 => .array .int
  | 16 => .array .int
  | 17 => .array .long
  | 18 => .long
  | 19 => .int
  | 20 => .long
  | 21 => .long
  | 22 => .int
  | 23 => .int
  | 24 => .long
  | 25 => .boolean
  | 26 => .array .long
  | 27 => .array .long
  | 28 => .int
  | 29 => .array .int
  | 30 => .array .int
  | 31 => .array .boolean
  | 32 => .array .int
  | 33 => .array .int
  | 34 => .array .int
  | 35 => .array .int
  | 36 => .array .int
  | 37 => .array .long
  | 38 => .int
  | _ => .int
theorem nmX11 : ∀ a, a < 40 → ∀ b, b < 40 → a ≠ b → (TX11 a).2.1 ≠ (TX11 b).2.1 := by decide +kernel
theorem tyX11_ok : ∀ k, k < 40 → parseFieldDescriptor (TX11 k).2.2.1 = some (tyX11 k) := by decide +kernel
abbrev cX11_init : ByteArray := prog_13_method_1_code
def yX11_init : MethodName := ⟨RX11, "<init>", "()V"⟩
abbrev cX11_isWidth : ByteArray := prog_13_method_3_code
def yX11_isWidth : MethodName := ⟨RX11, "isWidth", "(I)Z"⟩
abbrev cX11_low : ByteArray := prog_13_method_4_code
def yX11_low : MethodName := ⟨RX11, "low", "(JI)J"⟩
abbrev cX11_isUp : ByteArray := prog_13_method_5_code
def yX11_isUp : MethodName := ⟨RX11, "isUp", "(JI)Z"⟩
abbrev cX11_signed : ByteArray := prog_13_method_6_code
def yX11_signed : MethodName := ⟨RX11, "signed", "(JI)J"⟩
abbrev cX11_isUnder : ByteArray := prog_13_method_7_code
def yX11_isUnder : MethodName := ⟨RX11, "isUnder", "(JJ)Z"⟩
abbrev cX11_upper : ByteArray := prog_13_method_8_code
def yX11_upper : MethodName := ⟨RX11, "upper", "(JJ)J"⟩
abbrev cX11_upperPlain : ByteArray := prog_13_method_9_code
def yX11_upperPlain : MethodName := ⟨RX11, "upperPlain", "(JJI)J"⟩
abbrev cX11_upperSigned : ByteArray := prog_13_method_10_code
def yX11_upperSigned : MethodName := ⟨RX11, "upperSigned", "(JJI)J"⟩
abbrev cX11_quotient : ByteArray := prog_13_method_11_code
def yX11_quotient : MethodName := ⟨RX11, "quotient", "(JJ)J"⟩
abbrev cX11_inverseOf : ByteArray := prog_13_method_12_code
def yX11_inverseOf : MethodName := ⟨RX11, "inverseOf", "(J)J"⟩
abbrev cX11_isForm : ByteArray := prog_13_method_13_code
def yX11_isForm : MethodName := ⟨RX11, "isForm", "(I)Z"⟩
abbrev cX11_takesOperand : ByteArray := prog_13_method_14_code
def yX11_takesOperand : MethodName := ⟨RX11, "takesOperand", "(I)Z"⟩
abbrev cX11_takesCount : ByteArray := prog_13_method_15_code
def yX11_takesCount : MethodName := ⟨RX11, "takesCount", "(I)Z"⟩
abbrev cX11_worked : ByteArray := prog_13_method_16_code
def yX11_worked : MethodName := ⟨RX11, "worked", "(IJJI)J"⟩
abbrev cX11_work : ByteArray := prog_13_method_17_code
def yX11_work : MethodName := ⟨RX11, "work", "(IJI)V"⟩
abbrev cX11_add : ByteArray := prog_13_method_18_code
def yX11_add : MethodName := ⟨RX11, "add", "(I)I"⟩
abbrev cX11_put : ByteArray := prog_13_method_19_code
def yX11_put : MethodName := ⟨RX11, "put", "(IIIJ)I"⟩
abbrev cX11_moveAct : ByteArray := prog_13_method_20_code
def yX11_moveAct : MethodName := ⟨RX11, "moveAct", "(II)V"⟩
abbrev cX11_copyHeld : ByteArray := prog_13_method_21_code
def yX11_copyHeld : MethodName := ⟨RX11, "copyHeld", "(II)V"⟩
abbrev cX11_note : ByteArray := prog_13_method_22_code
def yX11_note : MethodName := ⟨RX11, "note", "(IIIJ)V"⟩
abbrev cX11_form : ByteArray := prog_13_method_23_code
def yX11_form : MethodName := ⟨RX11, "form", "(I)I"⟩
abbrev cX11_step : ByteArray := prog_13_method_24_code
def yX11_step : MethodName := ⟨RX11, "step", "(IIIJ)I"⟩
abbrev cX11_drop : ByteArray := prog_13_method_25_code
def yX11_drop : MethodName := ⟨RX11, "drop", "()I"⟩
abbrev cX11_isAsking : ByteArray := prog_13_method_26_code
def yX11_isAsking : MethodName := ⟨RX11, "isAsking", "(IIIJ)Z"⟩
abbrev cX11_take : ByteArray := prog_13_method_27_code
def yX11_take : MethodName := ⟨RX11, "take", "(IIJ)V"⟩
abbrev cX11_find : ByteArray := prog_13_method_28_code
def yX11_find : MethodName := ⟨RX11, "find", "(II)V"⟩
abbrev cX11_plainQuotient : ByteArray := prog_13_method_29_code
def yX11_plainQuotient : MethodName := ⟨RX11, "plainQuotient", "(II)I"⟩
abbrev cX11_plainWhole : ByteArray := prog_13_method_30_code
def yX11_plainWhole : MethodName := ⟨RX11, "plainWhole", "(II)I"⟩
abbrev cX11_restOf : ByteArray := prog_13_method_31_code
def yX11_restOf : MethodName := ⟨RX11, "restOf", "(IIJ)I"⟩
abbrev cX11_writePlain : ByteArray := prog_13_method_32_code
def yX11_writePlain : MethodName := ⟨RX11, "writePlain", "(II)I"⟩
abbrev cX11_signedQuotient : ByteArray := prog_13_method_33_code
def yX11_signedQuotient : MethodName := ⟨RX11, "signedQuotient", "(IZ)I"⟩
abbrev cX11_signedDown : ByteArray := prog_13_method_34_code
def yX11_signedDown : MethodName := ⟨RX11, "signedDown", "(I)I"⟩
abbrev cX11_writeSigned : ByteArray := prog_13_method_35_code
def yX11_writeSigned : MethodName := ⟨RX11, "writeSigned", "(IIJ)I"⟩
abbrev cX11_make : ByteArray := prog_13_method_36_code
def yX11_make : MethodName := ⟨RX11, "make", "(IIIJ)I"⟩
abbrev cX11_steps : ByteArray := prog_13_method_37_code
def yX11_steps : MethodName := ⟨RX11, "steps", "(I)I"⟩
abbrev cX11_told : ByteArray := prog_13_method_38_code
def yX11_told : MethodName := ⟨RX11, "told", "(III)J"⟩
abbrev cX11_width : ByteArray := prog_13_method_39_code
def yX11_width : MethodName := ⟨RX11, "width", "(I)I"⟩
abbrev cX11_cost : ByteArray := prog_13_method_40_code
def yX11_cost : MethodName := ⟨RX11, "cost", "(I)I"⟩
abbrev cX11_price : ByteArray := prog_13_method_41_code
def yX11_price : MethodName := ⟨RX11, "price", "(II)I"⟩
abbrev cX11_run : ByteArray := prog_13_method_42_code
def yX11_run : MethodName := ⟨RX11, "run", "(IJ)J"⟩
abbrev cX11_end : ByteArray := prog_13_method_43_code
def yX11_end : MethodName := ⟨RX11, "end", "(IJI)J"⟩
abbrev cX11_signedDivided : ByteArray := prog_13_method_44_code
def yX11_signedDivided : MethodName := ⟨RX11, "signedDivided", "(JJ)J"⟩
abbrev cX11_asked : ByteArray := prog_13_method_45_code
def yX11_asked : MethodName := ⟨RX11, "asked", "(IIIJJ)J"⟩
abbrev cX11_fails : ByteArray := prog_13_method_46_code
def yX11_fails : MethodName := ⟨RX11, "fails", "(IIIJ)I"⟩
abbrev cX11_plain : ByteArray := prog_13_method_47_code
def yX11_plain : MethodName := ⟨RX11, "plain", "(IIIJJ)J"⟩
abbrev cX11_proof : ByteArray := prog_13_method_48_code
def yX11_proof : MethodName := ⟨RX11, "proof", "(IJI)J"⟩
abbrev cX11_check : ByteArray := prog_13_method_49_code
def yX11_check : MethodName := ⟨RX11, "check", "(IJIJI)I"⟩
abbrev cX11_addBit : ByteArray := prog_13_method_50_code
def yX11_addBit : MethodName := ⟨RX11, "addBit", "(JI)V"⟩
abbrev cX11_takeBit : ByteArray := prog_13_method_51_code
def yX11_takeBit : MethodName := ⟨RX11, "takeBit", "(I)V"⟩
abbrev cX11_inverse : ByteArray := prog_13_method_52_code
def yX11_inverse : MethodName := ⟨RX11, "inverse", "(IJ)J"⟩
abbrev cX11_tell : ByteArray := prog_13_method_53_code
def yX11_tell : MethodName := ⟨RX11, "tell", "(IJ)J"⟩
abbrev cX11_mayBe : ByteArray := prog_13_method_54_code
def yX11_mayBe : MethodName := ⟨RX11, "mayBe", "(II)Z"⟩
abbrev cX11_yOf : ByteArray := prog_13_method_55_code
def yX11_yOf : MethodName := ⟨RX11, "yOf", "(II)J"⟩
abbrev cX11_tryStep : ByteArray := prog_13_method_56_code
def yX11_tryStep : MethodName := ⟨RX11, "tryStep", "(III)V"⟩
abbrev cX11_madeBy : ByteArray := prog_13_method_57_code
def yX11_madeBy : MethodName := ⟨RX11, "madeBy", "(II)I"⟩
abbrev cX11_fill : ByteArray := prog_13_method_58_code
def yX11_fill : MethodName := ⟨RX11, "fill", "(I)V"⟩
abbrev cX11_look : ByteArray := prog_13_method_59_code
def yX11_look : MethodName := ⟨RX11, "look", "(II)V"⟩
abbrev cX11_least : ByteArray := prog_13_method_60_code
def yX11_least : MethodName := ⟨RX11, "least", "(IIJI)I"⟩
abbrev cX11_count : ByteArray := prog_13_method_61_code
def yX11_count : MethodName := ⟨RX11, "count", "(I)I"⟩
abbrev cX11_undo : ByteArray := prog_13_method_62_code
def yX11_undo : MethodName := ⟨RX11, "undo", "()I"⟩
abbrev cX11_isHook : ByteArray := prog_13_method_63_code
def yX11_isHook : MethodName := ⟨RX11, "isHook", "(I)Z"⟩
abbrev cX11_hook : ByteArray := prog_13_method_64_code
def yX11_hook : MethodName := ⟨RX11, "hook", "(IIII)I"⟩
abbrev cX11_held : ByteArray := prog_13_method_65_code
def yX11_held : MethodName := ⟨RX11, "held", "(I)I"⟩
abbrev cX11_isIn : ByteArray := prog_13_method_66_code
def yX11_isIn : MethodName := ⟨RX11, "isIn", "(II)Z"⟩
abbrev cX11_use : ByteArray := prog_13_method_67_code
def yX11_use : MethodName := ⟨RX11, "use", "(IIII)I"⟩
def RJ13 : String := "java/lang/Long"
abbrev cJ13_bitCount_95d88 : ByteArray := prog_14_method_50_code
def yJ13_bitCount_95d88 : MethodName := ⟨RJ13, "bitCount", "(J)I"⟩
def RJ10 : String := "java/lang/System"
def RL : String := "DivideSmithLaw"
abbrev cL_law : ByteArray := code
def yL_law : MethodName := ⟨RL, "law", "([I)Z"⟩
end
section
theorem dX0_init_0 : decode cX0_init 0 = .ok (.aload_n 0, 1) := by decide +kernel
theorem dX0_init_1 : decode cX0_init 1 = .ok (.invokespecial 3, 3) := by decide +kernel
theorem dX0_init_4 : decode cX0_init 4 = .ok (.aload_n 0, 1) := by decide +kernel
theorem dX0_init_5 : decode cX0_init 5 = .ok (.iload_n 1, 1) := by decide +kernel
theorem dX0_init_6 : decode cX0_init 6 = .ok (.putfield 9, 3) := by decide +kernel
theorem dX0_init_9 : decode cX0_init 9 = .ok (.aload_n 0, 1) := by decide +kernel
theorem dX0_init_10 : decode cX0_init 10 = .ok (.iload_n 2, 1) := by decide +kernel
theorem dX0_init_11 : decode cX0_init 11 = .ok (.putfield 15, 3) := by decide +kernel
theorem dX0_init_14 : decode cX0_init 14 = .ok (.aload_n 0, 1) := by decide +kernel
theorem dX0_init_15 : decode cX0_init 15 = .ok (.iload_n 3, 1) := by decide +kernel
theorem dX0_init_16 : decode cX0_init 16 = .ok (.putfield 18, 3) := by decide +kernel
theorem dX0_init_19 : decode cX0_init 19 = .ok (.aload_n 0, 1) := by decide +kernel
theorem dX0_init_20 : decode cX0_init 20 = .ok (.lload 4, 2) := by decide +kernel
theorem dX0_init_22 : decode cX0_init 22 = .ok (.putfield 21, 3) := by decide +kernel
theorem dX0_init_25 : decode cX0_init 25 = .ok (.aload_n 0, 1) := by decide +kernel
theorem dX0_init_26 : decode cX0_init 26 = .ok (.aload 6, 2) := by decide +kernel
theorem dX0_init_28 : decode cX0_init 28 = .ok (.putfield 25, 3) := by decide +kernel
theorem dX0_init_31 : decode cX0_init 31 = .ok (.return_, 1) := by decide +kernel
theorem dX0_isOnForm_0 : decode cX0_isOnForm 0 = .ok (.aload_n 0, 1) := by decide +kernel
theorem dX0_isOnForm_1 : decode cX0_isOnForm 1 = .ok (.getfield 15, 3) := by decide +kernel
theorem dX0_isOnForm_4 : decode cX0_isOnForm 4 = .ok (.iload_n 1, 1) := by decide +kernel
theorem dX0_isOnForm_5 : decode cX0_isOnForm 5 = .ok (.if_icmp .ne 22, 3) := by decide +kernel
theorem dX0_isOnForm_8 : decode cX0_isOnForm 8 = .ok (.aload_n 0, 1) := by decide +kernel
theorem dX0_isOnForm_9 : decode cX0_isOnForm 9 = .ok (.getfield 9, 3) := by decide +kernel
theorem dX0_isOnForm_12 : decode cX0_isOnForm 12 = .ok (.ifCond .eq 11, 3) := by decide +kernel
theorem dX0_isOnForm_15 : decode cX0_isOnForm 15 = .ok (.aload_n 0, 1) := by decide +kernel
theorem dX0_isOnForm_16 : decode cX0_isOnForm 16 = .ok (.getfield 9, 3) := by decide +kernel
theorem dX0_isOnForm_19 : decode cX0_isOnForm 19 = .ok (.iconst 1, 1) := by decide +kernel
theorem dX0_isOnForm_20 : decode cX0_isOnForm 20 = .ok (.if_icmp .ne 7, 3) := by decide +kernel
theorem dX0_isOnForm_23 : decode cX0_isOnForm 23 = .ok (.iconst 1, 1) := by decide +kernel
theorem dX0_isOnForm_24 : decode cX0_isOnForm 24 = .ok (.goto 4, 3) := by decide +kernel
theorem dX0_isOnForm_27 : decode cX0_isOnForm 27 = .ok (.iconst 0, 1) := by decide +kernel
theorem dX0_isOnForm_28 : decode cX0_isOnForm 28 = .ok (.ireturn, 1) := by decide +kernel
theorem dX1_init_0 : decode cX1_init 0 = .ok (.aload_n 0, 1) := by decide +kernel
theorem dX1_init_1 : decode cX1_init 1 = .ok (.invokespecial 3, 3) := by decide +kernel
theorem dX1_init_4 : decode cX1_init 4 = .ok (.aload_n 0, 1) := by decide +kernel
theorem dX1_init_5 : decode cX1_init 5 = .ok (.iload_n 1, 1) := by decide +kernel
theorem dX1_init_6 : decode cX1_init 6 = .ok (.putfield 9, 3) := by decide +kernel
theorem dX1_init_9 : decode cX1_init 9 = .ok (.aload_n 0, 1) := by decide +kernel
theorem dX1_init_10 : decode cX1_init 10 = .ok (.iload_n 2, 1) := by decide +kernel
theorem dX1_init_11 : decode cX1_init 11 = .ok (.iconst 1, 1) := by decide +kernel
theorem dX1_init_12 : decode cX1_init 12 = .ok (.if_icmp .ne 7, 3) := by decide +kernel
theorem dX1_init_15 : decode cX1_init 15 = .ok (.iconst 1, 1) := by decide +kernel
theorem dX1_init_16 : decode cX1_init 16 = .ok (.goto 4, 3) := by decide +kernel
theorem dX1_init_19 : decode cX1_init 19 = .ok (.iconst 0, 1) := by decide +kernel
theorem dX1_init_20 : decode cX1_init 20 = .ok (.putfield 15, 3) := by decide +kernel
theorem dX1_init_23 : decode cX1_init 23 = .ok (.aload_n 0, 1) := by decide +kernel
theorem dX1_init_24 : decode cX1_init 24 = .ok (.iload_n 3, 1) := by decide +kernel
theorem dX1_init_25 : decode cX1_init 25 = .ok (.putfield 19, 3) := by decide +kernel
theorem dX1_init_28 : decode cX1_init 28 = .ok (.aload_n 0, 1) := by decide +kernel
theorem dX1_init_29 : decode cX1_init 29 = .ok (.aload_n 0, 1) := by decide +kernel
theorem dX1_init_30 : decode cX1_init 30 = .ok (.getfield 15, 3) := by decide +kernel
theorem dX1_init_33 : decode cX1_init 33 = .ok (.ifCond .eq 12, 3) := by decide +kernel
theorem dX1_init_36 : decode cX1_init 36 = .ok (.iload_n 1, 1) := by decide +kernel
theorem dX1_init_37 : decode cX1_init 37 = .ok (.lload 4, 2) := by decide +kernel
theorem dX1_init_39 : decode cX1_init 39 = .ok (.invokestatic 22, 3) := by decide +kernel
theorem dX1_init_42 : decode cX1_init 42 = .ok (.goto 10, 3) := by decide +kernel
theorem dX1_init_45 : decode cX1_init 45 = .ok (.lload 4, 2) := by decide +kernel
theorem dX1_init_47 : decode cX1_init 47 = .ok (.iload_n 1, 1) := by decide +kernel
theorem dX1_init_48 : decode cX1_init 48 = .ok (.invokestatic 28, 3) := by decide +kernel
theorem dX1_init_51 : decode cX1_init 51 = .ok (.land, 1) := by decide +kernel
theorem dX1_init_52 : decode cX1_init 52 = .ok (.putfield 32, 3) := by decide +kernel
theorem dX1_init_55 : decode cX1_init 55 = .ok (.return_, 1) := by decide +kernel
theorem dX1_isAsking_0 : decode cX1_isAsking 0 = .ok (.iload_n 0, 1) := by decide +kernel
theorem dX1_isAsking_1 : decode cX1_isAsking 1 = .ok (.invokestatic 36, 3) := by decide +kernel
theorem dX1_isAsking_4 : decode cX1_isAsking 4 = .ok (.ifCond .eq 21, 3) := by decide +kernel
theorem dX1_isAsking_7 : decode cX1_isAsking 7 = .ok (.iload_n 1, 1) := by decide +kernel
theorem dX1_isAsking_8 : decode cX1_isAsking 8 = .ok (.ifCond .lt 17, 3) := by decide +kernel
theorem dX1_isAsking_11 : decode cX1_isAsking 11 = .ok (.iload_n 1, 1) := by decide +kernel
theorem dX1_isAsking_12 : decode cX1_isAsking 12 = .ok (.iconst 1, 1) := by decide +kernel
theorem dX1_isAsking_13 : decode cX1_isAsking 13 = .ok (.if_icmp .gt 12, 3) := by decide +kernel
theorem dX1_isAsking_16 : decode cX1_isAsking 16 = .ok (.iload_n 2, 1) := by decide +kernel
theorem dX1_isAsking_17 : decode cX1_isAsking 17 = .ok (.ifCond .lt 8, 3) := by decide +kernel
theorem dX1_isAsking_20 : decode cX1_isAsking 20 = .ok (.iload_n 2, 1) := by decide +kernel
theorem dX1_isAsking_21 : decode cX1_isAsking 21 = .ok (.iconst 5, 1) := by decide +kernel
theorem dX1_isAsking_22 : decode cX1_isAsking 22 = .ok (.if_icmp .le 5, 3) := by decide +kernel
theorem dX1_isAsking_25 : decode cX1_isAsking 25 = .ok (.iconst 0, 1) := by decide +kernel
theorem dX1_isAsking_26 : decode cX1_isAsking 26 = .ok (.ireturn, 1) := by decide +kernel
theorem dX1_isAsking_27 : decode cX1_isAsking 27 = .ok (.iload_n 0, 1) := by decide +kernel
theorem dX1_isAsking_28 : decode cX1_isAsking 28 = .ok (.lload_n 3, 1) := by decide +kernel
theorem dX1_isAsking_29 : decode cX1_isAsking 29 = .ok (.invokestatic 22, 3) := by decide +kernel
theorem dX1_isAsking_32 : decode cX1_isAsking 32 = .ok (.lstore 5, 2) := by decide +kernel
theorem dX1_isAsking_34 : decode cX1_isAsking 34 = .ok (.iload_n 2, 1) := by decide +kernel
theorem dX1_isAsking_35 : decode cX1_isAsking 35 = .ok (.iconst 1, 1) := by decide +kernel
theorem dX1_isAsking_36 : decode cX1_isAsking 36 = .ok (.if_icmp .eq 8, 3) := by decide +kernel
theorem dX1_isAsking_39 : decode cX1_isAsking 39 = .ok (.iload_n 2, 1) := by decide +kernel
theorem dX1_isAsking_40 : decode cX1_isAsking 40 = .ok (.iconst 3, 1) := by decide +kernel
theorem dX1_isAsking_41 : decode cX1_isAsking 41 = .ok (.if_icmp .ne 7, 3) := by decide +kernel
theorem dX1_isAsking_44 : decode cX1_isAsking 44 = .ok (.iconst 1, 1) := by decide +kernel
theorem dX1_isAsking_45 : decode cX1_isAsking 45 = .ok (.goto 4, 3) := by decide +kernel
theorem dX1_isAsking_48 : decode cX1_isAsking 48 = .ok (.iconst 0, 1) := by decide +kernel
theorem dX1_isAsking_49 : decode cX1_isAsking 49 = .ok (.istore 7, 2) := by decide +kernel
theorem dX1_isAsking_51 : decode cX1_isAsking 51 = .ok (.lload 5, 2) := by decide +kernel
theorem dX1_isAsking_53 : decode cX1_isAsking 53 = .ok (.lconst 0, 1) := by decide +kernel
theorem dX1_isAsking_54 : decode cX1_isAsking 54 = .ok (.lcmp, 1) := by decide +kernel
theorem dX1_isAsking_55 : decode cX1_isAsking 55 = .ok (.ifCond .eq 23, 3) := by decide +kernel
theorem dX1_isAsking_58 : decode cX1_isAsking 58 = .ok (.iload_n 1, 1) := by decide +kernel
theorem dX1_isAsking_59 : decode cX1_isAsking 59 = .ok (.ifCond .eq 15, 3) := by decide +kernel
theorem dX1_isAsking_62 : decode cX1_isAsking 62 = .ok (.iload 7, 2) := by decide +kernel
theorem dX1_isAsking_64 : decode cX1_isAsking 64 = .ok (.ifCond .eq 10, 3) := by decide +kernel
theorem dX1_isAsking_67 : decode cX1_isAsking 67 = .ok (.lload 5, 2) := by decide +kernel
theorem dX1_isAsking_69 : decode cX1_isAsking 69 = .ok (.lconst 0, 1) := by decide +kernel
theorem dX1_isAsking_70 : decode cX1_isAsking 70 = .ok (.lcmp, 1) := by decide +kernel
theorem dX1_isAsking_71 : decode cX1_isAsking 71 = .ok (.ifCond .le 7, 3) := by decide +kernel
theorem dX1_isAsking_74 : decode cX1_isAsking 74 = .ok (.iconst 1, 1) := by decide +kernel
theorem dX1_isAsking_75 : decode cX1_isAsking 75 = .ok (.goto 4, 3) := by decide +kernel
theorem dX1_isAsking_78 : decode cX1_isAsking 78 = .ok (.iconst 0, 1) := by decide +kernel
theorem dX1_isAsking_79 : decode cX1_isAsking 79 = .ok (.ireturn, 1) := by decide +kernel
theorem dX1_asksOf_0 : decode cX1_asksOf 0 = .ok (.aload_n 0, 1) := by decide +kernel
theorem dX1_asksOf_1 : decode cX1_asksOf 1 = .ok (.lload_n 1, 1) := by decide +kernel
theorem dX1_asksOf_2 : decode cX1_asksOf 2 = .ok (.invokevirtual 40, 3) := by decide +kernel
theorem dX1_asksOf_5 : decode cX1_asksOf 5 = .ok (.lstore_n 3, 1) := by decide +kernel
theorem dX1_asksOf_6 : decode cX1_asksOf 6 = .ok (.aload_n 0, 1) := by decide +kernel
theorem dX1_asksOf_7 : decode cX1_asksOf 7 = .ok (.getfield 19, 3) := by decide +kernel
theorem dX1_asksOf_10 : decode cX1_asksOf 10 = .ok (.iconst 5, 1) := by decide +kernel
theorem dX1_asksOf_11 : decode cX1_asksOf 11 = .ok (.if_icmp .ne 18, 3) := by decide +kernel
theorem dX1_asksOf_14 : decode cX1_asksOf 14 = .ok (.lload_n 3, 1) := by decide +kernel
theorem dX1_asksOf_15 : decode cX1_asksOf 15 = .ok (.aload_n 0, 1) := by decide +kernel
theorem dX1_asksOf_16 : decode cX1_asksOf 16 = .ok (.lload_n 3, 1) := by decide +kernel
theorem dX1_asksOf_17 : decode cX1_asksOf 17 = .ok (.invokevirtual 44, 3) := by decide +kernel
theorem dX1_asksOf_20 : decode cX1_asksOf 20 = .ok (.aload_n 0, 1) := by decide +kernel
theorem dX1_asksOf_21 : decode cX1_asksOf 21 = .ok (.getfield 32, 3) := by decide +kernel
theorem dX1_asksOf_24 : decode cX1_asksOf 24 = .ok (.lmul, 1) := by decide +kernel
theorem dX1_asksOf_25 : decode cX1_asksOf 25 = .ok (.lcmp, 1) := by decide +kernel
theorem dX1_asksOf_26 : decode cX1_asksOf 26 = .ok (.ifCond .ne 7, 3) := by decide +kernel
theorem dX1_asksOf_29 : decode cX1_asksOf 29 = .ok (.iconst 1, 1) := by decide +kernel
theorem dX1_asksOf_30 : decode cX1_asksOf 30 = .ok (.goto 4, 3) := by decide +kernel
theorem dX1_asksOf_33 : decode cX1_asksOf 33 = .ok (.iconst 0, 1) := by decide +kernel
theorem dX1_asksOf_34 : decode cX1_asksOf 34 = .ok (.ireturn, 1) := by decide +kernel
theorem dX1_answer_0 : decode cX1_answer 0 = .ok (.aload_n 0, 1) := by decide +kernel
theorem dX1_answer_1 : decode cX1_answer 1 = .ok (.lload_n 1, 1) := by decide +kernel
theorem dX1_answer_2 : decode cX1_answer 2 = .ok (.invokevirtual 40, 3) := by decide +kernel
theorem dX1_answer_5 : decode cX1_answer 5 = .ok (.lstore_n 3, 1) := by decide +kernel
theorem dX1_answer_6 : decode cX1_answer 6 = .ok (.aload_n 0, 1) := by decide +kernel
theorem dX1_answer_7 : decode cX1_answer 7 = .ok (.lload_n 3, 1) := by decide +kernel
theorem dX1_answer_8 : decode cX1_answer 8 = .ok (.invokevirtual 44, 3) := by decide +kernel
theorem dX1_answer_11 : decode cX1_answer 11 = .ok (.lstore 5, 2) := by decide +kernel
theorem dX1_answer_13 : decode cX1_answer 13 = .ok (.lload_n 3, 1) := by decide +kernel
theorem dX1_answer_14 : decode cX1_answer 14 = .ok (.lload 5, 2) := by decide +kernel
theorem dX1_answer_16 : decode cX1_answer 16 = .ok (.aload_n 0, 1) := by decide +kernel
theorem dX1_answer_17 : decode cX1_answer 17 = .ok (.getfield 32, 3) := by decide +kernel
theorem dX1_answer_20 : decode cX1_answer 20 = .ok (.lmul, 1) := by decide +kernel
theorem dX1_answer_21 : decode cX1_answer 21 = .ok (.lsub, 1) := by decide +kernel
theorem dX1_answer_22 : decode cX1_answer 22 = .ok (.lstore 7, 2) := by decide +kernel
theorem dX1_answer_24 : decode cX1_answer 24 = .ok (.aload_n 0, 1) := by decide +kernel
theorem dX1_answer_25 : decode cX1_answer 25 = .ok (.getfield 15, 3) := by decide +kernel
theorem dX1_answer_28 : decode cX1_answer 28 = .ok (.ifCond .eq 41, 3) := by decide +kernel
theorem dX1_answer_31 : decode cX1_answer 31 = .ok (.lload 7, 2) := by decide +kernel
theorem dX1_answer_33 : decode cX1_answer 33 = .ok (.lconst 0, 1) := by decide +kernel
theorem dX1_answer_34 : decode cX1_answer 34 = .ok (.lcmp, 1) := by decide +kernel
theorem dX1_answer_35 : decode cX1_answer 35 = .ok (.ifCond .ge 34, 3) := by decide +kernel
theorem dX1_answer_38 : decode cX1_answer 38 = .ok (.aload_n 0, 1) := by decide +kernel
theorem dX1_answer_39 : decode cX1_answer 39 = .ok (.getfield 19, 3) := by decide +kernel
theorem dX1_answer_42 : decode cX1_answer 42 = .ok (.iconst 1, 1) := by decide +kernel
theorem dX1_answer_43 : decode cX1_answer 43 = .ok (.if_icmp .eq 11, 3) := by decide +kernel
theorem dX1_answer_46 : decode cX1_answer 46 = .ok (.aload_n 0, 1) := by decide +kernel
theorem dX1_answer_47 : decode cX1_answer 47 = .ok (.getfield 19, 3) := by decide +kernel
theorem dX1_answer_50 : decode cX1_answer 50 = .ok (.iconst 3, 1) := by decide +kernel
theorem dX1_answer_51 : decode cX1_answer 51 = .ok (.if_icmp .ne 18, 3) := by decide +kernel
theorem dX1_answer_54 : decode cX1_answer 54 = .ok (.lload 5, 2) := by decide +kernel
theorem dX1_answer_56 : decode cX1_answer 56 = .ok (.lconst 1, 1) := by decide +kernel
theorem dX1_answer_57 : decode cX1_answer 57 = .ok (.lsub, 1) := by decide +kernel
theorem dX1_answer_58 : decode cX1_answer 58 = .ok (.lstore 5, 2) := by decide +kernel
theorem dX1_answer_60 : decode cX1_answer 60 = .ok (.lload 7, 2) := by decide +kernel
theorem dX1_answer_62 : decode cX1_answer 62 = .ok (.aload_n 0, 1) := by decide +kernel
theorem dX1_answer_63 : decode cX1_answer 63 = .ok (.getfield 32, 3) := by decide +kernel
theorem dX1_answer_66 : decode cX1_answer 66 = .ok (.ladd, 1) := by decide +kernel
theorem dX1_answer_67 : decode cX1_answer 67 = .ok (.lstore 7, 2) := by decide +kernel
theorem dX1_answer_69 : decode cX1_answer 69 = .ok (.aload_n 0, 1) := by decide +kernel
theorem dX1_answer_70 : decode cX1_answer 70 = .ok (.getfield 19, 3) := by decide +kernel
theorem dX1_answer_73 : decode cX1_answer 73 = .ok (.tableswitch 51 2 4 #[27, 27, 38], 27) := by decide +kernel
theorem dX1_answer_100 : decode cX1_answer 100 = .ok (.lload 7, 2) := by decide +kernel
theorem dX1_answer_102 : decode cX1_answer 102 = .ok (.aload_n 0, 1) := by decide +kernel
theorem dX1_answer_103 : decode cX1_answer 103 = .ok (.getfield 9, 3) := by decide +kernel
theorem dX1_answer_106 : decode cX1_answer 106 = .ok (.invokestatic 28, 3) := by decide +kernel
theorem dX1_answer_109 : decode cX1_answer 109 = .ok (.land, 1) := by decide +kernel
theorem dX1_answer_110 : decode cX1_answer 110 = .ok (.lreturn, 1) := by decide +kernel
theorem dX1_answer_111 : decode cX1_answer 111 = .ok (.lload 7, 2) := by decide +kernel
theorem dX1_answer_113 : decode cX1_answer 113 = .ok (.lconst 0, 1) := by decide +kernel
theorem dX1_answer_114 : decode cX1_answer 114 = .ok (.lcmp, 1) := by decide +kernel
theorem dX1_answer_115 : decode cX1_answer 115 = .ok (.ifCond .ne 7, 3) := by decide +kernel
theorem dX1_answer_118 : decode cX1_answer 118 = .ok (.lconst 1, 1) := by decide +kernel
theorem dX1_answer_119 : decode cX1_answer 119 = .ok (.goto 4, 3) := by decide +kernel
theorem dX1_answer_122 : decode cX1_answer 122 = .ok (.lconst 0, 1) := by decide +kernel
theorem dX1_answer_123 : decode cX1_answer 123 = .ok (.lreturn, 1) := by decide +kernel
theorem dX1_answer_124 : decode cX1_answer 124 = .ok (.lload 5, 2) := by decide +kernel
theorem dX1_answer_126 : decode cX1_answer 126 = .ok (.aload_n 0, 1) := by decide +kernel
theorem dX1_answer_127 : decode cX1_answer 127 = .ok (.getfield 9, 3) := by decide +kernel
theorem dX1_answer_130 : decode cX1_answer 130 = .ok (.invokestatic 28, 3) := by decide +kernel
theorem dX1_answer_133 : decode cX1_answer 133 = .ok (.land, 1) := by decide +kernel
theorem dX1_answer_134 : decode cX1_answer 134 = .ok (.lreturn, 1) := by decide +kernel
theorem dX1_numberOf_0 : decode cX1_numberOf 0 = .ok (.aload_n 0, 1) := by decide +kernel
theorem dX1_numberOf_1 : decode cX1_numberOf 1 = .ok (.getfield 15, 3) := by decide +kernel
theorem dX1_numberOf_4 : decode cX1_numberOf 4 = .ok (.ifCond .eq 14, 3) := by decide +kernel
theorem dX1_numberOf_7 : decode cX1_numberOf 7 = .ok (.aload_n 0, 1) := by decide +kernel
theorem dX1_numberOf_8 : decode cX1_numberOf 8 = .ok (.getfield 9, 3) := by decide +kernel
theorem dX1_numberOf_11 : decode cX1_numberOf 11 = .ok (.lload_n 1, 1) := by decide +kernel
theorem dX1_numberOf_12 : decode cX1_numberOf 12 = .ok (.invokestatic 22, 3) := by decide +kernel
theorem dX1_numberOf_15 : decode cX1_numberOf 15 = .ok (.goto 12, 3) := by decide +kernel
theorem dX1_numberOf_18 : decode cX1_numberOf 18 = .ok (.lload_n 1, 1) := by decide +kernel
theorem dX1_numberOf_19 : decode cX1_numberOf 19 = .ok (.aload_n 0, 1) := by decide +kernel
theorem dX1_numberOf_20 : decode cX1_numberOf 20 = .ok (.getfield 9, 3) := by decide +kernel
theorem dX1_numberOf_23 : decode cX1_numberOf 23 = .ok (.invokestatic 28, 3) := by decide +kernel
theorem dX1_numberOf_26 : decode cX1_numberOf 26 = .ok (.land, 1) := by decide +kernel
theorem dX1_numberOf_27 : decode cX1_numberOf 27 = .ok (.lreturn, 1) := by decide +kernel
theorem dX1_towardsZero_0 : decode cX1_towardsZero 0 = .ok (.aload_n 0, 1) := by decide +kernel
theorem dX1_towardsZero_1 : decode cX1_towardsZero 1 = .ok (.getfield 32, 3) := by decide +kernel
theorem dX1_towardsZero_4 : decode cX1_towardsZero 4 = .ok (.lconst 0, 1) := by decide +kernel
theorem dX1_towardsZero_5 : decode cX1_towardsZero 5 = .ok (.lcmp, 1) := by decide +kernel
theorem dX1_towardsZero_6 : decode cX1_towardsZero 6 = .ok (.ifCond .ne 5, 3) := by decide +kernel
theorem dX1_towardsZero_9 : decode cX1_towardsZero 9 = .ok (.lconst 0, 1) := by decide +kernel
theorem dX1_towardsZero_10 : decode cX1_towardsZero 10 = .ok (.lreturn, 1) := by decide +kernel
theorem dX1_towardsZero_11 : decode cX1_towardsZero 11 = .ok (.aload_n 0, 1) := by decide +kernel
theorem dX1_towardsZero_12 : decode cX1_towardsZero 12 = .ok (.getfield 15, 3) := by decide +kernel
theorem dX1_towardsZero_15 : decode cX1_towardsZero 15 = .ok (.ifCond .eq 12, 3) := by decide +kernel
theorem dX1_towardsZero_18 : decode cX1_towardsZero 18 = .ok (.lload_n 1, 1) := by decide +kernel
theorem dX1_towardsZero_19 : decode cX1_towardsZero 19 = .ok (.aload_n 0, 1) := by decide +kernel
theorem dX1_towardsZero_20 : decode cX1_towardsZero 20 = .ok (.getfield 32, 3) := by decide +kernel
theorem dX1_towardsZero_23 : decode cX1_towardsZero 23 = .ok (.ldiv, 1) := by decide +kernel
theorem dX1_towardsZero_24 : decode cX1_towardsZero 24 = .ok (.goto 11, 3) := by decide +kernel
theorem dX1_towardsZero_27 : decode cX1_towardsZero 27 = .ok (.lload_n 1, 1) := by decide +kernel
theorem dX1_towardsZero_28 : decode cX1_towardsZero 28 = .ok (.aload_n 0, 1) := by decide +kernel
theorem dX1_towardsZero_29 : decode cX1_towardsZero 29 = .ok (.getfield 32, 3) := by decide +kernel
theorem dX1_towardsZero_32 : decode cX1_towardsZero 32 = .ok (.invokestatic 47, 3) := by decide +kernel
theorem dX1_towardsZero_35 : decode cX1_towardsZero 35 = .ok (.lreturn, 1) := by decide +kernel
theorem dX2_isWidth_0 : decode cX2_isWidth 0 = .ok (.iload_n 0, 1) := by decide +kernel
theorem dX2_isWidth_1 : decode cX2_isWidth 1 = .ok (.bipush 8, 2) := by decide +kernel
theorem dX2_isWidth_3 : decode cX2_isWidth 3 = .ok (.if_icmp .eq 21, 3) := by decide +kernel
theorem dX2_isWidth_6 : decode cX2_isWidth 6 = .ok (.iload_n 0, 1) := by decide +kernel
theorem dX2_isWidth_7 : decode cX2_isWidth 7 = .ok (.bipush 16, 2) := by decide +kernel
theorem dX2_isWidth_9 : decode cX2_isWidth 9 = .ok (.if_icmp .eq 15, 3) := by decide +kernel
theorem dX2_isWidth_12 : decode cX2_isWidth 12 = .ok (.iload_n 0, 1) := by decide +kernel
theorem dX2_isWidth_13 : decode cX2_isWidth 13 = .ok (.bipush 32, 2) := by decide +kernel
theorem dX2_isWidth_15 : decode cX2_isWidth 15 = .ok (.if_icmp .eq 9, 3) := by decide +kernel
theorem dX2_isWidth_18 : decode cX2_isWidth 18 = .ok (.iload_n 0, 1) := by decide +kernel
theorem dX2_isWidth_19 : decode cX2_isWidth 19 = .ok (.bipush 64, 2) := by decide +kernel
theorem dX2_isWidth_21 : decode cX2_isWidth 21 = .ok (.if_icmp .ne 7, 3) := by decide +kernel
theorem dX2_isWidth_24 : decode cX2_isWidth 24 = .ok (.iconst 1, 1) := by decide +kernel
theorem dX2_isWidth_25 : decode cX2_isWidth 25 = .ok (.goto 4, 3) := by decide +kernel
theorem dX2_isWidth_28 : decode cX2_isWidth 28 = .ok (.iconst 0, 1) := by decide +kernel
theorem dX2_isWidth_29 : decode cX2_isWidth 29 = .ok (.ireturn, 1) := by decide +kernel
theorem dX2_mask_0 : decode cX2_mask 0 = .ok (.ldc2_w 7, 3) := by decide +kernel
theorem dX2_mask_3 : decode cX2_mask 3 = .ok (.bipush 64, 2) := by decide +kernel
theorem dX2_mask_5 : decode cX2_mask 5 = .ok (.iload_n 0, 1) := by decide +kernel
theorem dX2_mask_6 : decode cX2_mask 6 = .ok (.isub, 1) := by decide +kernel
theorem dX2_mask_7 : decode cX2_mask 7 = .ok (.lushr, 1) := by decide +kernel
theorem dX2_mask_8 : decode cX2_mask 8 = .ok (.lreturn, 1) := by decide +kernel
theorem dX2_signedOf_0 : decode cX2_signedOf 0 = .ok (.lload_n 1, 1) := by decide +kernel
theorem dX2_signedOf_1 : decode cX2_signedOf 1 = .ok (.bipush 64, 2) := by decide +kernel
theorem dX2_signedOf_3 : decode cX2_signedOf 3 = .ok (.iload_n 0, 1) := by decide +kernel
theorem dX2_signedOf_4 : decode cX2_signedOf 4 = .ok (.isub, 1) := by decide +kernel
theorem dX2_signedOf_5 : decode cX2_signedOf 5 = .ok (.lshl, 1) := by decide +kernel
theorem dX2_signedOf_6 : decode cX2_signedOf 6 = .ok (.bipush 64, 2) := by decide +kernel
theorem dX2_signedOf_8 : decode cX2_signedOf 8 = .ok (.iload_n 0, 1) := by decide +kernel
theorem dX2_signedOf_9 : decode cX2_signedOf 9 = .ok (.isub, 1) := by decide +kernel
theorem dX2_signedOf_10 : decode cX2_signedOf 10 = .ok (.lshr, 1) := by decide +kernel
theorem dX2_signedOf_11 : decode cX2_signedOf 11 = .ok (.lreturn, 1) := by decide +kernel
theorem dX2_below_0 : decode cX2_below 0 = .ok (.lload_n 0, 1) := by decide +kernel
theorem dX2_below_1 : decode cX2_below 1 = .ok (.ldc2_w 11, 3) := by decide +kernel
theorem dX2_below_4 : decode cX2_below 4 = .ok (.lxor, 1) := by decide +kernel
theorem dX2_below_5 : decode cX2_below 5 = .ok (.lload_n 2, 1) := by decide +kernel
theorem dX2_below_6 : decode cX2_below 6 = .ok (.ldc2_w 11, 3) := by decide +kernel
theorem dX2_below_9 : decode cX2_below 9 = .ok (.lxor, 1) := by decide +kernel
theorem dX2_below_10 : decode cX2_below 10 = .ok (.lcmp, 1) := by decide +kernel
theorem dX2_below_11 : decode cX2_below 11 = .ok (.ifCond .ge 7, 3) := by decide +kernel
theorem dX2_below_14 : decode cX2_below 14 = .ok (.iconst 1, 1) := by decide +kernel
theorem dX2_below_15 : decode cX2_below 15 = .ok (.goto 4, 3) := by decide +kernel
theorem dX2_below_18 : decode cX2_below 18 = .ok (.iconst 0, 1) := by decide +kernel
theorem dX2_below_19 : decode cX2_below 19 = .ok (.ireturn, 1) := by decide +kernel
theorem dX2_quotient_0 : decode cX2_quotient 0 = .ok (.lload_n 2, 1) := by decide +kernel
theorem dX2_quotient_1 : decode cX2_quotient 1 = .ok (.lconst 0, 1) := by decide +kernel
theorem dX2_quotient_2 : decode cX2_quotient 2 = .ok (.lcmp, 1) := by decide +kernel
theorem dX2_quotient_3 : decode cX2_quotient 3 = .ok (.ifCond .ne 5, 3) := by decide +kernel
theorem dX2_quotient_6 : decode cX2_quotient 6 = .ok (.lconst 0, 1) := by decide +kernel
theorem dX2_quotient_7 : decode cX2_quotient 7 = .ok (.lreturn, 1) := by decide +kernel
theorem dX2_quotient_8 : decode cX2_quotient 8 = .ok (.lload_n 2, 1) := by decide +kernel
theorem dX2_quotient_9 : decode cX2_quotient 9 = .ok (.lconst 0, 1) := by decide +kernel
theorem dX2_quotient_10 : decode cX2_quotient 10 = .ok (.lcmp, 1) := by decide +kernel
theorem dX2_quotient_11 : decode cX2_quotient 11 = .ok (.ifCond .ge 17, 3) := by decide +kernel
theorem dX2_quotient_14 : decode cX2_quotient 14 = .ok (.lload_n 0, 1) := by decide +kernel
theorem dX2_quotient_15 : decode cX2_quotient 15 = .ok (.lload_n 2, 1) := by decide +kernel
theorem dX2_quotient_16 : decode cX2_quotient 16 = .ok (.invokestatic 13, 3) := by decide +kernel
theorem dX2_quotient_19 : decode cX2_quotient 19 = .ok (.ifCond .eq 7, 3) := by decide +kernel
theorem dX2_quotient_22 : decode cX2_quotient 22 = .ok (.lconst 0, 1) := by decide +kernel
theorem dX2_quotient_23 : decode cX2_quotient 23 = .ok (.goto 4, 3) := by decide +kernel
theorem dX2_quotient_26 : decode cX2_quotient 26 = .ok (.lconst 1, 1) := by decide +kernel
theorem dX2_quotient_27 : decode cX2_quotient 27 = .ok (.lreturn, 1) := by decide +kernel
theorem dX2_quotient_28 : decode cX2_quotient 28 = .ok (.lload_n 0, 1) := by decide +kernel
theorem dX2_quotient_29 : decode cX2_quotient 29 = .ok (.lconst 0, 1) := by decide +kernel
theorem dX2_quotient_30 : decode cX2_quotient 30 = .ok (.lcmp, 1) := by decide +kernel
theorem dX2_quotient_31 : decode cX2_quotient 31 = .ok (.ifCond .lt 7, 3) := by decide +kernel
theorem dX2_quotient_34 : decode cX2_quotient 34 = .ok (.lload_n 0, 1) := by decide +kernel
theorem dX2_quotient_35 : decode cX2_quotient 35 = .ok (.lload_n 2, 1) := by decide +kernel
theorem dX2_quotient_36 : decode cX2_quotient 36 = .ok (.ldiv, 1) := by decide +kernel
theorem dX2_quotient_37 : decode cX2_quotient 37 = .ok (.lreturn, 1) := by decide +kernel
theorem dX2_quotient_38 : decode cX2_quotient 38 = .ok (.lload_n 0, 1) := by decide +kernel
theorem dX2_quotient_39 : decode cX2_quotient 39 = .ok (.iconst 1, 1) := by decide +kernel
theorem dX2_quotient_40 : decode cX2_quotient 40 = .ok (.lushr, 1) := by decide +kernel
theorem dX2_quotient_41 : decode cX2_quotient 41 = .ok (.lload_n 2, 1) := by decide +kernel
theorem dX2_quotient_42 : decode cX2_quotient 42 = .ok (.ldiv, 1) := by decide +kernel
theorem dX2_quotient_43 : decode cX2_quotient 43 = .ok (.iconst 1, 1) := by decide +kernel
theorem dX2_quotient_44 : decode cX2_quotient 44 = .ok (.lshl, 1) := by decide +kernel
theorem dX2_quotient_45 : decode cX2_quotient 45 = .ok (.lstore 4, 2) := by decide +kernel
theorem dX2_quotient_47 : decode cX2_quotient 47 = .ok (.lload_n 0, 1) := by decide +kernel
theorem dX2_quotient_48 : decode cX2_quotient 48 = .ok (.lload 4, 2) := by decide +kernel
theorem dX2_quotient_50 : decode cX2_quotient 50 = .ok (.lload_n 2, 1) := by decide +kernel
theorem dX2_quotient_51 : decode cX2_quotient 51 = .ok (.lmul, 1) := by decide +kernel
theorem dX2_quotient_52 : decode cX2_quotient 52 = .ok (.lsub, 1) := by decide +kernel
theorem dX2_quotient_53 : decode cX2_quotient 53 = .ok (.lload_n 2, 1) := by decide +kernel
theorem dX2_quotient_54 : decode cX2_quotient 54 = .ok (.invokestatic 13, 3) := by decide +kernel
theorem dX2_quotient_57 : decode cX2_quotient 57 = .ok (.ifCond .eq 8, 3) := by decide +kernel
theorem dX2_quotient_60 : decode cX2_quotient 60 = .ok (.lload 4, 2) := by decide +kernel
theorem dX2_quotient_62 : decode cX2_quotient 62 = .ok (.goto 7, 3) := by decide +kernel
theorem dX2_quotient_65 : decode cX2_quotient 65 = .ok (.lload 4, 2) := by decide +kernel
theorem dX2_quotient_67 : decode cX2_quotient 67 = .ok (.lconst 1, 1) := by decide +kernel
theorem dX2_quotient_68 : decode cX2_quotient 68 = .ok (.ladd, 1) := by decide +kernel
theorem dX2_quotient_69 : decode cX2_quotient 69 = .ok (.lreturn, 1) := by decide +kernel
theorem dX2_highPlain_0 : decode cX2_highPlain 0 = .ok (.iload_n 0, 1) := by decide +kernel
theorem dX2_highPlain_1 : decode cX2_highPlain 1 = .ok (.bipush 64, 2) := by decide +kernel
theorem dX2_highPlain_3 : decode cX2_highPlain 3 = .ok (.if_icmp .ne 11, 3) := by decide +kernel
theorem dX2_highPlain_6 : decode cX2_highPlain 6 = .ok (.lload_n 1, 1) := by decide +kernel
theorem dX2_highPlain_7 : decode cX2_highPlain 7 = .ok (.lload_n 3, 1) := by decide +kernel
theorem dX2_highPlain_8 : decode cX2_highPlain 8 = .ok (.invokestatic 19, 3) := by decide +kernel
theorem dX2_highPlain_11 : decode cX2_highPlain 11 = .ok (.goto 8, 3) := by decide +kernel
theorem dX2_highPlain_14 : decode cX2_highPlain 14 = .ok (.lload_n 1, 1) := by decide +kernel
theorem dX2_highPlain_15 : decode cX2_highPlain 15 = .ok (.lload_n 3, 1) := by decide +kernel
theorem dX2_highPlain_16 : decode cX2_highPlain 16 = .ok (.lmul, 1) := by decide +kernel
theorem dX2_highPlain_17 : decode cX2_highPlain 17 = .ok (.iload_n 0, 1) := by decide +kernel
theorem dX2_highPlain_18 : decode cX2_highPlain 18 = .ok (.lushr, 1) := by decide +kernel
theorem dX2_highPlain_19 : decode cX2_highPlain 19 = .ok (.lreturn, 1) := by decide +kernel
theorem dX2_highSigned_0 : decode cX2_highSigned 0 = .ok (.iload_n 0, 1) := by decide +kernel
theorem dX2_highSigned_1 : decode cX2_highSigned 1 = .ok (.bipush 64, 2) := by decide +kernel
theorem dX2_highSigned_3 : decode cX2_highSigned 3 = .ok (.if_icmp .ge 22, 3) := by decide +kernel
theorem dX2_highSigned_6 : decode cX2_highSigned 6 = .ok (.iload_n 0, 1) := by decide +kernel
theorem dX2_highSigned_7 : decode cX2_highSigned 7 = .ok (.lload_n 1, 1) := by decide +kernel
theorem dX2_highSigned_8 : decode cX2_highSigned 8 = .ok (.invokestatic 23, 3) := by decide +kernel
theorem dX2_highSigned_11 : decode cX2_highSigned 11 = .ok (.iload_n 0, 1) := by decide +kernel
theorem dX2_highSigned_12 : decode cX2_highSigned 12 = .ok (.lload_n 3, 1) := by decide +kernel
theorem dX2_highSigned_13 : decode cX2_highSigned 13 = .ok (.invokestatic 23, 3) := by decide +kernel
theorem dX2_highSigned_16 : decode cX2_highSigned 16 = .ok (.lmul, 1) := by decide +kernel
theorem dX2_highSigned_17 : decode cX2_highSigned 17 = .ok (.iload_n 0, 1) := by decide +kernel
theorem dX2_highSigned_18 : decode cX2_highSigned 18 = .ok (.lshr, 1) := by decide +kernel
theorem dX2_highSigned_19 : decode cX2_highSigned 19 = .ok (.iload_n 0, 1) := by decide +kernel
theorem dX2_highSigned_20 : decode cX2_highSigned 20 = .ok (.invokestatic 27, 3) := by decide +kernel
theorem dX2_highSigned_23 : decode cX2_highSigned 23 = .ok (.land, 1) := by decide +kernel
theorem dX2_highSigned_24 : decode cX2_highSigned 24 = .ok (.lreturn, 1) := by decide +kernel
theorem dX2_highSigned_25 : decode cX2_highSigned 25 = .ok (.lload_n 1, 1) := by decide +kernel
theorem dX2_highSigned_26 : decode cX2_highSigned 26 = .ok (.lload_n 3, 1) := by decide +kernel
theorem dX2_highSigned_27 : decode cX2_highSigned 27 = .ok (.invokestatic 19, 3) := by decide +kernel
theorem dX2_highSigned_30 : decode cX2_highSigned 30 = .ok (.lload_n 1, 1) := by decide +kernel
theorem dX2_highSigned_31 : decode cX2_highSigned 31 = .ok (.lconst 0, 1) := by decide +kernel
theorem dX2_highSigned_32 : decode cX2_highSigned 32 = .ok (.lcmp, 1) := by decide +kernel
theorem dX2_highSigned_33 : decode cX2_highSigned 33 = .ok (.ifCond .ge 7, 3) := by decide +kernel
theorem dX2_highSigned_36 : decode cX2_highSigned 36 = .ok (.lload_n 3, 1) := by decide +kernel
theorem dX2_highSigned_37 : decode cX2_highSigned 37 = .ok (.goto 4, 3) := by decide +kernel
theorem dX2_highSigned_40 : decode cX2_highSigned 40 = .ok (.lconst 0, 1) := by decide +kernel
theorem dX2_highSigned_41 : decode cX2_highSigned 41 = .ok (.lsub, 1) := by decide +kernel
theorem dX2_highSigned_42 : decode cX2_highSigned 42 = .ok (.lload_n 3, 1) := by decide +kernel
theorem dX2_highSigned_43 : decode cX2_highSigned 43 = .ok (.lconst 0, 1) := by decide +kernel
theorem dX2_highSigned_44 : decode cX2_highSigned 44 = .ok (.lcmp, 1) := by decide +kernel
theorem dX2_highSigned_45 : decode cX2_highSigned 45 = .ok (.ifCond .ge 7, 3) := by decide +kernel
theorem dX2_highSigned_48 : decode cX2_highSigned 48 = .ok (.lload_n 1, 1) := by decide +kernel
theorem dX2_highSigned_49 : decode cX2_highSigned 49 = .ok (.goto 4, 3) := by decide +kernel
theorem dX2_highSigned_52 : decode cX2_highSigned 52 = .ok (.lconst 0, 1) := by decide +kernel
theorem dX2_highSigned_53 : decode cX2_highSigned 53 = .ok (.lsub, 1) := by decide +kernel
theorem dX2_highSigned_54 : decode cX2_highSigned 54 = .ok (.lreturn, 1) := by decide +kernel
theorem dX2_highOf64_0 : decode cX2_highOf64 0 = .ok (.ldc2_w 31, 3) := by decide +kernel
theorem dX2_highOf64_3 : decode cX2_highOf64 3 = .ok (.lstore 4, 2) := by decide +kernel
theorem dX2_highOf64_5 : decode cX2_highOf64 5 = .ok (.lload_n 0, 1) := by decide +kernel
theorem dX2_highOf64_6 : decode cX2_highOf64 6 = .ok (.lload 4, 2) := by decide +kernel
theorem dX2_highOf64_8 : decode cX2_highOf64 8 = .ok (.land, 1) := by decide +kernel
theorem dX2_highOf64_9 : decode cX2_highOf64 9 = .ok (.lstore 6, 2) := by decide +kernel
theorem dX2_highOf64_11 : decode cX2_highOf64 11 = .ok (.lload_n 0, 1) := by decide +kernel
theorem dX2_highOf64_12 : decode cX2_highOf64 12 = .ok (.bipush 32, 2) := by decide +kernel
theorem dX2_highOf64_14 : decode cX2_highOf64 14 = .ok (.lushr, 1) := by decide +kernel
theorem dX2_highOf64_15 : decode cX2_highOf64 15 = .ok (.lstore 8, 2) := by decide +kernel
theorem dX2_highOf64_17 : decode cX2_highOf64 17 = .ok (.lload_n 2, 1) := by decide +kernel
theorem dX2_highOf64_18 : decode cX2_highOf64 18 = .ok (.lload 4, 2) := by decide +kernel
theorem dX2_highOf64_20 : decode cX2_highOf64 20 = .ok (.land, 1) := by decide +kernel
theorem dX2_highOf64_21 : decode cX2_highOf64 21 = .ok (.lstore 10, 2) := by decide +kernel
theorem dX2_highOf64_23 : decode cX2_highOf64 23 = .ok (.lload_n 2, 1) := by decide +kernel
theorem dX2_highOf64_24 : decode cX2_highOf64 24 = .ok (.bipush 32, 2) := by decide +kernel
theorem dX2_highOf64_26 : decode cX2_highOf64 26 = .ok (.lushr, 1) := by decide +kernel
theorem dX2_highOf64_27 : decode cX2_highOf64 27 = .ok (.lstore 12, 2) := by decide +kernel
theorem dX2_highOf64_29 : decode cX2_highOf64 29 = .ok (.lload 8, 2) := by decide +kernel
theorem dX2_highOf64_31 : decode cX2_highOf64 31 = .ok (.lload 10, 2) := by decide +kernel
theorem dX2_highOf64_33 : decode cX2_highOf64 33 = .ok (.lmul, 1) := by decide +kernel
theorem dX2_highOf64_34 : decode cX2_highOf64 34 = .ok (.lload 6, 2) := by decide +kernel
theorem dX2_highOf64_36 : decode cX2_highOf64 36 = .ok (.lload 10, 2) := by decide +kernel
theorem dX2_highOf64_38 : decode cX2_highOf64 38 = .ok (.lmul, 1) := by decide +kernel
theorem dX2_highOf64_39 : decode cX2_highOf64 39 = .ok (.bipush 32, 2) := by decide +kernel
theorem dX2_highOf64_41 : decode cX2_highOf64 41 = .ok (.lushr, 1) := by decide +kernel
theorem dX2_highOf64_42 : decode cX2_highOf64 42 = .ok (.ladd, 1) := by decide +kernel
theorem dX2_highOf64_43 : decode cX2_highOf64 43 = .ok (.lstore 14, 2) := by decide +kernel
theorem dX2_highOf64_45 : decode cX2_highOf64 45 = .ok (.lload 6, 2) := by decide +kernel
theorem dX2_highOf64_47 : decode cX2_highOf64 47 = .ok (.lload 12, 2) := by decide +kernel
theorem dX2_highOf64_49 : decode cX2_highOf64 49 = .ok (.lmul, 1) := by decide +kernel
theorem dX2_highOf64_50 : decode cX2_highOf64 50 = .ok (.lload 14, 2) := by decide +kernel
theorem dX2_highOf64_52 : decode cX2_highOf64 52 = .ok (.lload 4, 2) := by decide +kernel
theorem dX2_highOf64_54 : decode cX2_highOf64 54 = .ok (.land, 1) := by decide +kernel
theorem dX2_highOf64_55 : decode cX2_highOf64 55 = .ok (.ladd, 1) := by decide +kernel
theorem dX2_highOf64_56 : decode cX2_highOf64 56 = .ok (.lstore 16, 2) := by decide +kernel
theorem dX2_highOf64_58 : decode cX2_highOf64 58 = .ok (.lload 8, 2) := by decide +kernel
theorem dX2_highOf64_60 : decode cX2_highOf64 60 = .ok (.lload 12, 2) := by decide +kernel
theorem dX2_highOf64_62 : decode cX2_highOf64 62 = .ok (.lmul, 1) := by decide +kernel
theorem dX2_highOf64_63 : decode cX2_highOf64 63 = .ok (.lload 14, 2) := by decide +kernel
theorem dX2_highOf64_65 : decode cX2_highOf64 65 = .ok (.bipush 32, 2) := by decide +kernel
theorem dX2_highOf64_67 : decode cX2_highOf64 67 = .ok (.lushr, 1) := by decide +kernel
theorem dX2_highOf64_68 : decode cX2_highOf64 68 = .ok (.ladd, 1) := by decide +kernel
theorem dX2_highOf64_69 : decode cX2_highOf64 69 = .ok (.lload 16, 2) := by decide +kernel
theorem dX2_highOf64_71 : decode cX2_highOf64 71 = .ok (.bipush 32, 2) := by decide +kernel
theorem dX2_highOf64_73 : decode cX2_highOf64 73 = .ok (.lushr, 1) := by decide +kernel
theorem dX2_highOf64_74 : decode cX2_highOf64 74 = .ok (.ladd, 1) := by decide +kernel
theorem dX2_highOf64_75 : decode cX2_highOf64 75 = .ok (.lreturn, 1) := by decide +kernel
theorem dX2_inverseOf_0 : decode cX2_inverseOf 0 = .ok (.lload_n 1, 1) := by decide +kernel
theorem dX2_inverseOf_1 : decode cX2_inverseOf 1 = .ok (.lstore_n 3, 1) := by decide +kernel
theorem dX2_inverseOf_2 : decode cX2_inverseOf 2 = .ok (.iconst 3, 1) := by decide +kernel
theorem dX2_inverseOf_3 : decode cX2_inverseOf 3 = .ok (.istore 5, 2) := by decide +kernel
theorem dX2_inverseOf_5 : decode cX2_inverseOf 5 = .ok (.iload 5, 2) := by decide +kernel
theorem dX2_inverseOf_7 : decode cX2_inverseOf 7 = .ok (.iload_n 0, 1) := by decide +kernel
theorem dX2_inverseOf_8 : decode cX2_inverseOf 8 = .ok (.if_icmp .ge 22, 3) := by decide +kernel
theorem dX2_inverseOf_11 : decode cX2_inverseOf 11 = .ok (.lload_n 3, 1) := by decide +kernel
theorem dX2_inverseOf_12 : decode cX2_inverseOf 12 = .ok (.ldc2_w 33, 3) := by decide +kernel
theorem dX2_inverseOf_15 : decode cX2_inverseOf 15 = .ok (.lload_n 1, 1) := by decide +kernel
theorem dX2_inverseOf_16 : decode cX2_inverseOf 16 = .ok (.lload_n 3, 1) := by decide +kernel
theorem dX2_inverseOf_17 : decode cX2_inverseOf 17 = .ok (.lmul, 1) := by decide +kernel
theorem dX2_inverseOf_18 : decode cX2_inverseOf 18 = .ok (.lsub, 1) := by decide +kernel
theorem dX2_inverseOf_19 : decode cX2_inverseOf 19 = .ok (.lmul, 1) := by decide +kernel
theorem dX2_inverseOf_20 : decode cX2_inverseOf 20 = .ok (.lstore_n 3, 1) := by decide +kernel
theorem dX2_inverseOf_21 : decode cX2_inverseOf 21 = .ok (.iload 5, 2) := by decide +kernel
theorem dX2_inverseOf_23 : decode cX2_inverseOf 23 = .ok (.iconst 2, 1) := by decide +kernel
theorem dX2_inverseOf_24 : decode cX2_inverseOf 24 = .ok (.imul, 1) := by decide +kernel
theorem dX2_inverseOf_25 : decode cX2_inverseOf 25 = .ok (.istore 5, 2) := by decide +kernel
theorem dX2_inverseOf_27 : decode cX2_inverseOf 27 = .ok (.goto (-22), 3) := by decide +kernel
theorem dX2_inverseOf_30 : decode cX2_inverseOf 30 = .ok (.lload_n 3, 1) := by decide +kernel
theorem dX2_inverseOf_31 : decode cX2_inverseOf 31 = .ok (.iload_n 0, 1) := by decide +kernel
theorem dX2_inverseOf_32 : decode cX2_inverseOf 32 = .ok (.invokestatic 27, 3) := by decide +kernel
theorem dX2_inverseOf_35 : decode cX2_inverseOf 35 = .ok (.land, 1) := by decide +kernel
theorem dX2_inverseOf_36 : decode cX2_inverseOf 36 = .ok (.lreturn, 1) := by decide +kernel
theorem dX3_init_0 : decode cX3_init 0 = .ok (.aload_n 0, 1) := by decide +kernel
theorem dX3_init_1 : decode cX3_init 1 = .ok (.invokespecial 3, 3) := by decide +kernel
theorem dX3_init_4 : decode cX3_init 4 = .ok (.aload_n 0, 1) := by decide +kernel
theorem dX3_init_5 : decode cX3_init 5 = .ok (.bipush 12, 2) := by decide +kernel
theorem dX3_init_7 : decode cX3_init 7 = .ok (.newarray .int, 2) := by decide +kernel
theorem dX3_init_9 : decode cX3_init 9 = .ok (.putfield 9, 3) := by decide +kernel
theorem dX3_init_12 : decode cX3_init 12 = .ok (.aload_n 0, 1) := by decide +kernel
theorem dX3_init_13 : decode cX3_init 13 = .ok (.bipush 12, 2) := by decide +kernel
theorem dX3_init_15 : decode cX3_init 15 = .ok (.newarray .int, 2) := by decide +kernel
theorem dX3_init_17 : decode cX3_init 17 = .ok (.putfield 15, 3) := by decide +kernel
theorem dX3_init_20 : decode cX3_init 20 = .ok (.aload_n 0, 1) := by decide +kernel
theorem dX3_init_21 : decode cX3_init 21 = .ok (.bipush 12, 2) := by decide +kernel
theorem dX3_init_23 : decode cX3_init 23 = .ok (.newarray .long, 2) := by decide +kernel
theorem dX3_init_25 : decode cX3_init 25 = .ok (.putfield 18, 3) := by decide +kernel
theorem dX3_init_28 : decode cX3_init 28 = .ok (.return_, 1) := by decide +kernel
theorem dX3_begin_0 : decode cX3_begin 0 = .ok (.aload_n 0, 1) := by decide +kernel
theorem dX3_begin_1 : decode cX3_begin 1 = .ok (.iload_n 1, 1) := by decide +kernel
theorem dX3_begin_2 : decode cX3_begin 2 = .ok (.putfield 22, 3) := by decide +kernel
theorem dX3_begin_5 : decode cX3_begin 5 = .ok (.aload_n 0, 1) := by decide +kernel
theorem dX3_begin_6 : decode cX3_begin 6 = .ok (.iconst 0, 1) := by decide +kernel
theorem dX3_begin_7 : decode cX3_begin 7 = .ok (.putfield 26, 3) := by decide +kernel
theorem dX3_begin_10 : decode cX3_begin 10 = .ok (.return_, 1) := by decide +kernel
theorem dX3_hasStep_0 : decode cX3_hasStep 0 = .ok (.iload_n 1, 1) := by decide +kernel
theorem dX3_hasStep_1 : decode cX3_hasStep 1 = .ok (.ifCond .lt 15, 3) := by decide +kernel
theorem dX3_hasStep_4 : decode cX3_hasStep 4 = .ok (.iload_n 1, 1) := by decide +kernel
theorem dX3_hasStep_5 : decode cX3_hasStep 5 = .ok (.aload_n 0, 1) := by decide +kernel
theorem dX3_hasStep_6 : decode cX3_hasStep 6 = .ok (.getfield 26, 3) := by decide +kernel
theorem dX3_hasStep_9 : decode cX3_hasStep 9 = .ok (.if_icmp .ge 7, 3) := by decide +kernel
theorem dX3_hasStep_12 : decode cX3_hasStep 12 = .ok (.iconst 1, 1) := by decide +kernel
theorem dX3_hasStep_13 : decode cX3_hasStep 13 = .ok (.goto 4, 3) := by decide +kernel
theorem dX3_hasStep_16 : decode cX3_hasStep 16 = .ok (.iconst 0, 1) := by decide +kernel
theorem dX3_hasStep_17 : decode cX3_hasStep 17 = .ok (.ireturn, 1) := by decide +kernel
theorem dX3_add_0 : decode cX3_add 0 = .ok (.aload_n 0, 1) := by decide +kernel
theorem dX3_add_1 : decode cX3_add 1 = .ok (.getfield 26, 3) := by decide +kernel
theorem dX3_add_4 : decode cX3_add 4 = .ok (.bipush 12, 2) := by decide +kernel
theorem dX3_add_6 : decode cX3_add 6 = .ok (.if_icmp .ge 43, 3) := by decide +kernel
theorem dX3_add_9 : decode cX3_add 9 = .ok (.aload_n 0, 1) := by decide +kernel
theorem dX3_add_10 : decode cX3_add 10 = .ok (.getfield 9, 3) := by decide +kernel
theorem dX3_add_13 : decode cX3_add 13 = .ok (.aload_n 0, 1) := by decide +kernel
theorem dX3_add_14 : decode cX3_add 14 = .ok (.getfield 26, 3) := by decide +kernel
theorem dX3_add_17 : decode cX3_add 17 = .ok (.iload_n 1, 1) := by decide +kernel
theorem dX3_add_18 : decode cX3_add 18 = .ok (.iastore, 1) := by decide +kernel
theorem dX3_add_19 : decode cX3_add 19 = .ok (.aload_n 0, 1) := by decide +kernel
theorem dX3_add_20 : decode cX3_add 20 = .ok (.getfield 15, 3) := by decide +kernel
theorem dX3_add_23 : decode cX3_add 23 = .ok (.aload_n 0, 1) := by decide +kernel
theorem dX3_add_24 : decode cX3_add 24 = .ok (.getfield 26, 3) := by decide +kernel
theorem dX3_add_27 : decode cX3_add 27 = .ok (.iload_n 2, 1) := by decide +kernel
theorem dX3_add_28 : decode cX3_add 28 = .ok (.iastore, 1) := by decide +kernel
theorem dX3_add_29 : decode cX3_add 29 = .ok (.aload_n 0, 1) := by decide +kernel
theorem dX3_add_30 : decode cX3_add 30 = .ok (.getfield 18, 3) := by decide +kernel
theorem dX3_add_33 : decode cX3_add 33 = .ok (.aload_n 0, 1) := by decide +kernel
theorem dX3_add_34 : decode cX3_add 34 = .ok (.getfield 26, 3) := by decide +kernel
theorem dX3_add_37 : decode cX3_add 37 = .ok (.lload_n 3, 1) := by decide +kernel
theorem dX3_add_38 : decode cX3_add 38 = .ok (.lastore, 1) := by decide +kernel
theorem dX3_add_39 : decode cX3_add 39 = .ok (.aload_n 0, 1) := by decide +kernel
theorem dX3_add_40 : decode cX3_add 40 = .ok (.dup, 1) := by decide +kernel
theorem dX3_add_41 : decode cX3_add 41 = .ok (.getfield 26, 3) := by decide +kernel
theorem dX3_add_44 : decode cX3_add 44 = .ok (.iconst 1, 1) := by decide +kernel
theorem dX3_add_45 : decode cX3_add 45 = .ok (.iadd, 1) := by decide +kernel
theorem dX3_add_46 : decode cX3_add 46 = .ok (.putfield 26, 3) := by decide +kernel
theorem dX3_add_49 : decode cX3_add 49 = .ok (.aload_n 0, 1) := by decide +kernel
theorem dX3_add_50 : decode cX3_add 50 = .ok (.getfield 26, 3) := by decide +kernel
theorem dX3_add_53 : decode cX3_add 53 = .ok (.ireturn, 1) := by decide +kernel
theorem dX3_removeLast_0 : decode cX3_removeLast 0 = .ok (.aload_n 0, 1) := by decide +kernel
theorem dX3_removeLast_1 : decode cX3_removeLast 1 = .ok (.getfield 26, 3) := by decide +kernel
theorem dX3_removeLast_4 : decode cX3_removeLast 4 = .ok (.ifCond .le 13, 3) := by decide +kernel
theorem dX3_removeLast_7 : decode cX3_removeLast 7 = .ok (.aload_n 0, 1) := by decide +kernel
theorem dX3_removeLast_8 : decode cX3_removeLast 8 = .ok (.dup, 1) := by decide +kernel
theorem dX3_removeLast_9 : decode cX3_removeLast 9 = .ok (.getfield 26, 3) := by decide +kernel
theorem dX3_removeLast_12 : decode cX3_removeLast 12 = .ok (.iconst 1, 1) := by decide +kernel
theorem dX3_removeLast_13 : decode cX3_removeLast 13 = .ok (.isub, 1) := by decide +kernel
theorem dX3_removeLast_14 : decode cX3_removeLast 14 = .ok (.putfield 26, 3) := by decide +kernel
theorem dX3_removeLast_17 : decode cX3_removeLast 17 = .ok (.return_, 1) := by decide +kernel
theorem dX3_work_0 : decode cX3_work 0 = .ok (.aload 4, 2) := by decide +kernel
theorem dX3_work_2 : decode cX3_work 2 = .ok (.iconst 0, 1) := by decide +kernel
theorem dX3_work_3 : decode cX3_work 3 = .ok (.lload_n 1, 1) := by decide +kernel
theorem dX3_work_4 : decode cX3_work 4 = .ok (.aload_n 0, 1) := by decide +kernel
theorem dX3_work_5 : decode cX3_work 5 = .ok (.getfield 22, 3) := by decide +kernel
theorem dX3_work_8 : decode cX3_work 8 = .ok (.invokestatic 29, 3) := by decide +kernel
theorem dX3_work_11 : decode cX3_work 11 = .ok (.land, 1) := by decide +kernel
theorem dX3_work_12 : decode cX3_work 12 = .ok (.lastore, 1) := by decide +kernel
theorem dX3_work_13 : decode cX3_work 13 = .ok (.iconst 0, 1) := by decide +kernel
theorem dX3_work_14 : decode cX3_work 14 = .ok (.istore 5, 2) := by decide +kernel
theorem dX3_work_16 : decode cX3_work 16 = .ok (.iload 5, 2) := by decide +kernel
theorem dX3_work_18 : decode cX3_work 18 = .ok (.iload_n 3, 1) := by decide +kernel
theorem dX3_work_19 : decode cX3_work 19 = .ok (.if_icmp .ge 78, 3) := by decide +kernel
theorem dX3_work_22 : decode cX3_work 22 = .ok (.aload_n 0, 1) := by decide +kernel
theorem dX3_work_23 : decode cX3_work 23 = .ok (.getfield 9, 3) := by decide +kernel
theorem dX3_work_26 : decode cX3_work 26 = .ok (.iload 5, 2) := by decide +kernel
theorem dX3_work_28 : decode cX3_work 28 = .ok (.iaload, 1) := by decide +kernel
theorem dX3_work_29 : decode cX3_work 29 = .ok (.invokestatic 35, 3) := by decide +kernel
theorem dX3_work_32 : decode cX3_work 32 = .ok (.ifCond .eq 17, 3) := by decide +kernel
theorem dX3_work_35 : decode cX3_work 35 = .ok (.aload 4, 2) := by decide +kernel
theorem dX3_work_37 : decode cX3_work 37 = .ok (.aload_n 0, 1) := by decide +kernel
theorem dX3_work_38 : decode cX3_work 38 = .ok (.getfield 18, 3) := by decide +kernel
theorem dX3_work_41 : decode cX3_work 41 = .ok (.iload 5, 2) := by decide +kernel
theorem dX3_work_43 : decode cX3_work 43 = .ok (.laload, 1) := by decide +kernel
theorem dX3_work_44 : decode cX3_work 44 = .ok (.l2i, 1) := by decide +kernel
theorem dX3_work_45 : decode cX3_work 45 = .ok (.laload, 1) := by decide +kernel
theorem dX3_work_46 : decode cX3_work 46 = .ok (.goto 10, 3) := by decide +kernel
theorem dX3_work_49 : decode cX3_work 49 = .ok (.aload_n 0, 1) := by decide +kernel
theorem dX3_work_50 : decode cX3_work 50 = .ok (.getfield 18, 3) := by decide +kernel
theorem dX3_work_53 : decode cX3_work 53 = .ok (.iload 5, 2) := by decide +kernel
theorem dX3_work_55 : decode cX3_work 55 = .ok (.laload, 1) := by decide +kernel
theorem dX3_work_56 : decode cX3_work 56 = .ok (.lstore 6, 2) := by decide +kernel
theorem dX3_work_58 : decode cX3_work 58 = .ok (.aload 4, 2) := by decide +kernel
theorem dX3_work_60 : decode cX3_work 60 = .ok (.iload 5, 2) := by decide +kernel
theorem dX3_work_62 : decode cX3_work 62 = .ok (.iconst 1, 1) := by decide +kernel
theorem dX3_work_63 : decode cX3_work 63 = .ok (.iadd, 1) := by decide +kernel
theorem dX3_work_64 : decode cX3_work 64 = .ok (.aload_n 0, 1) := by decide +kernel
theorem dX3_work_65 : decode cX3_work 65 = .ok (.getfield 22, 3) := by decide +kernel
theorem dX3_work_68 : decode cX3_work 68 = .ok (.aload_n 0, 1) := by decide +kernel
theorem dX3_work_69 : decode cX3_work 69 = .ok (.getfield 9, 3) := by decide +kernel
theorem dX3_work_72 : decode cX3_work 72 = .ok (.iload 5, 2) := by decide +kernel
theorem dX3_work_74 : decode cX3_work 74 = .ok (.iaload, 1) := by decide +kernel
theorem dX3_work_75 : decode cX3_work 75 = .ok (.aload 4, 2) := by decide +kernel
theorem dX3_work_77 : decode cX3_work 77 = .ok (.aload_n 0, 1) := by decide +kernel
theorem dX3_work_78 : decode cX3_work 78 = .ok (.getfield 15, 3) := by decide +kernel
theorem dX3_work_81 : decode cX3_work 81 = .ok (.iload 5, 2) := by decide +kernel
theorem dX3_work_83 : decode cX3_work 83 = .ok (.iaload, 1) := by decide +kernel
theorem dX3_work_84 : decode cX3_work 84 = .ok (.laload, 1) := by decide +kernel
theorem dX3_work_85 : decode cX3_work 85 = .ok (.lload 6, 2) := by decide +kernel
theorem dX3_work_87 : decode cX3_work 87 = .ok (.invokestatic 41, 3) := by decide +kernel
theorem dX3_work_90 : decode cX3_work 90 = .ok (.lastore, 1) := by decide +kernel
theorem dX3_work_91 : decode cX3_work 91 = .ok (.iinc 5 1, 3) := by decide +kernel
theorem dX3_work_94 : decode cX3_work 94 = .ok (.goto (-78), 3) := by decide +kernel
theorem dX3_work_97 : decode cX3_work 97 = .ok (.return_, 1) := by decide +kernel
theorem dX4_init_0 : decode cX4_init 0 = .ok (.aload_n 0, 1) := by decide +kernel
theorem dX4_init_1 : decode cX4_init 1 = .ok (.invokespecial 3, 3) := by decide +kernel
theorem dX4_init_4 : decode cX4_init 4 = .ok (.aload_n 0, 1) := by decide +kernel
theorem dX4_init_5 : decode cX4_init 5 = .ok (.bipush 50, 2) := by decide +kernel
theorem dX4_init_7 : decode cX4_init 7 = .ok (.anewarray 9, 3) := by decide +kernel
theorem dX4_init_10 : decode cX4_init 10 = .ok (.putfield 11, 3) := by decide +kernel
theorem dX4_init_13 : decode cX4_init 13 = .ok (.return_, 1) := by decide +kernel
theorem dX4_add_0 : decode cX4_add 0 = .ok (.aload_n 0, 1) := by decide +kernel
theorem dX4_add_1 : decode cX4_add 1 = .ok (.getfield 17, 3) := by decide +kernel
theorem dX4_add_4 : decode cX4_add 4 = .ok (.bipush 50, 2) := by decide +kernel
theorem dX4_add_6 : decode cX4_add 6 = .ok (.if_icmp .ne 41, 3) := by decide +kernel
theorem dX4_add_9 : decode cX4_add 9 = .ok (.iconst 1, 1) := by decide +kernel
theorem dX4_add_10 : decode cX4_add 10 = .ok (.istore_n 2, 1) := by decide +kernel
theorem dX4_add_11 : decode cX4_add 11 = .ok (.iload_n 2, 1) := by decide +kernel
theorem dX4_add_12 : decode cX4_add 12 = .ok (.bipush 50, 2) := by decide +kernel
theorem dX4_add_14 : decode cX4_add 14 = .ok (.if_icmp .ge 23, 3) := by decide +kernel
theorem dX4_add_17 : decode cX4_add 17 = .ok (.aload_n 0, 1) := by decide +kernel
theorem dX4_add_18 : decode cX4_add 18 = .ok (.getfield 11, 3) := by decide +kernel
theorem dX4_add_21 : decode cX4_add 21 = .ok (.iload_n 2, 1) := by decide +kernel
theorem dX4_add_22 : decode cX4_add 22 = .ok (.iconst 1, 1) := by decide +kernel
theorem dX4_add_23 : decode cX4_add 23 = .ok (.isub, 1) := by decide +kernel
theorem dX4_add_24 : decode cX4_add 24 = .ok (.aload_n 0, 1) := by decide +kernel
theorem dX4_add_25 : decode cX4_add 25 = .ok (.getfield 11, 3) := by decide +kernel
theorem dX4_add_28 : decode cX4_add 28 = .ok (.iload_n 2, 1) := by decide +kernel
theorem dX4_add_29 : decode cX4_add 29 = .ok (.aaload, 1) := by decide +kernel
theorem dX4_add_30 : decode cX4_add 30 = .ok (.aastore, 1) := by decide +kernel
theorem dX4_add_31 : decode cX4_add 31 = .ok (.iinc 2 1, 3) := by decide +kernel
theorem dX4_add_34 : decode cX4_add 34 = .ok (.goto (-23), 3) := by decide +kernel
theorem dX4_add_37 : decode cX4_add 37 = .ok (.aload_n 0, 1) := by decide +kernel
theorem dX4_add_38 : decode cX4_add 38 = .ok (.dup, 1) := by decide +kernel
theorem dX4_add_39 : decode cX4_add 39 = .ok (.getfield 17, 3) := by decide +kernel
theorem dX4_add_42 : decode cX4_add 42 = .ok (.iconst 1, 1) := by decide +kernel
theorem dX4_add_43 : decode cX4_add 43 = .ok (.isub, 1) := by decide +kernel
theorem dX4_add_44 : decode cX4_add 44 = .ok (.putfield 17, 3) := by decide +kernel
theorem dX4_add_47 : decode cX4_add 47 = .ok (.aload_n 0, 1) := by decide +kernel
theorem dX4_add_48 : decode cX4_add 48 = .ok (.getfield 11, 3) := by decide +kernel
theorem dX4_add_51 : decode cX4_add 51 = .ok (.aload_n 0, 1) := by decide +kernel
theorem dX4_add_52 : decode cX4_add 52 = .ok (.getfield 17, 3) := by decide +kernel
theorem dX4_add_55 : decode cX4_add 55 = .ok (.aload_n 1, 1) := by decide +kernel
theorem dX4_add_56 : decode cX4_add 56 = .ok (.aastore, 1) := by decide +kernel
theorem dX4_add_57 : decode cX4_add 57 = .ok (.aload_n 0, 1) := by decide +kernel
theorem dX4_add_58 : decode cX4_add 58 = .ok (.dup, 1) := by decide +kernel
theorem dX4_add_59 : decode cX4_add 59 = .ok (.getfield 17, 3) := by decide +kernel
theorem dX4_add_62 : decode cX4_add 62 = .ok (.iconst 1, 1) := by decide +kernel
theorem dX4_add_63 : decode cX4_add 63 = .ok (.iadd, 1) := by decide +kernel
theorem dX4_add_64 : decode cX4_add 64 = .ok (.putfield 17, 3) := by decide +kernel
theorem dX4_add_67 : decode cX4_add 67 = .ok (.return_, 1) := by decide +kernel
theorem dX4_takeLatest_0 : decode cX4_takeLatest 0 = .ok (.aload_n 0, 1) := by decide +kernel
theorem dX4_takeLatest_1 : decode cX4_takeLatest 1 = .ok (.getfield 17, 3) := by decide +kernel
theorem dX4_takeLatest_4 : decode cX4_takeLatest 4 = .ok (.ifCond .ne 5, 3) := by decide +kernel
theorem dX4_takeLatest_7 : decode cX4_takeLatest 7 = .ok (.aconst_null, 1) := by decide +kernel
theorem dX4_takeLatest_8 : decode cX4_takeLatest 8 = .ok (.areturn, 1) := by decide +kernel
theorem dX4_takeLatest_9 : decode cX4_takeLatest 9 = .ok (.aload_n 0, 1) := by decide +kernel
theorem dX4_takeLatest_10 : decode cX4_takeLatest 10 = .ok (.dup, 1) := by decide +kernel
theorem dX4_takeLatest_11 : decode cX4_takeLatest 11 = .ok (.getfield 17, 3) := by decide +kernel
theorem dX4_takeLatest_14 : decode cX4_takeLatest 14 = .ok (.iconst 1, 1) := by decide +kernel
theorem dX4_takeLatest_15 : decode cX4_takeLatest 15 = .ok (.isub, 1) := by decide +kernel
theorem dX4_takeLatest_16 : decode cX4_takeLatest 16 = .ok (.putfield 17, 3) := by decide +kernel
theorem dX4_takeLatest_19 : decode cX4_takeLatest 19 = .ok (.aload_n 0, 1) := by decide +kernel
theorem dX4_takeLatest_20 : decode cX4_takeLatest 20 = .ok (.getfield 11, 3) := by decide +kernel
theorem dX4_takeLatest_23 : decode cX4_takeLatest 23 = .ok (.aload_n 0, 1) := by decide +kernel
theorem dX4_takeLatest_24 : decode cX4_takeLatest 24 = .ok (.getfield 17, 3) := by decide +kernel
theorem dX4_takeLatest_27 : decode cX4_takeLatest 27 = .ok (.aaload, 1) := by decide +kernel
theorem dX4_takeLatest_28 : decode cX4_takeLatest 28 = .ok (.astore_n 1, 1) := by decide +kernel
theorem dX4_takeLatest_29 : decode cX4_takeLatest 29 = .ok (.aload_n 0, 1) := by decide +kernel
theorem dX4_takeLatest_30 : decode cX4_takeLatest 30 = .ok (.getfield 11, 3) := by decide +kernel
theorem dX4_takeLatest_33 : decode cX4_takeLatest 33 = .ok (.aload_n 0, 1) := by decide +kernel
theorem dX4_takeLatest_34 : decode cX4_takeLatest 34 = .ok (.getfield 17, 3) := by decide +kernel
theorem dX4_takeLatest_37 : decode cX4_takeLatest 37 = .ok (.aconst_null, 1) := by decide +kernel
theorem dX4_takeLatest_38 : decode cX4_takeLatest 38 = .ok (.aastore, 1) := by decide +kernel
theorem dX4_takeLatest_39 : decode cX4_takeLatest 39 = .ok (.aload_n 1, 1) := by decide +kernel
theorem dX4_takeLatest_40 : decode cX4_takeLatest 40 = .ok (.areturn, 1) := by decide +kernel
theorem dX4_forgetForm_0 : decode cX4_forgetForm 0 = .ok (.iconst 0, 1) := by decide +kernel
theorem dX4_forgetForm_1 : decode cX4_forgetForm 1 = .ok (.istore_n 2, 1) := by decide +kernel
theorem dX4_forgetForm_2 : decode cX4_forgetForm 2 = .ok (.iconst 0, 1) := by decide +kernel
theorem dX4_forgetForm_3 : decode cX4_forgetForm 3 = .ok (.istore_n 3, 1) := by decide +kernel
theorem dX4_forgetForm_4 : decode cX4_forgetForm 4 = .ok (.iload_n 3, 1) := by decide +kernel
theorem dX4_forgetForm_5 : decode cX4_forgetForm 5 = .ok (.aload_n 0, 1) := by decide +kernel
theorem dX4_forgetForm_6 : decode cX4_forgetForm 6 = .ok (.getfield 17, 3) := by decide +kernel
theorem dX4_forgetForm_9 : decode cX4_forgetForm 9 = .ok (.if_icmp .ge 37, 3) := by decide +kernel
theorem dX4_forgetForm_12 : decode cX4_forgetForm 12 = .ok (.aload_n 0, 1) := by decide +kernel
theorem dX4_forgetForm_13 : decode cX4_forgetForm 13 = .ok (.getfield 11, 3) := by decide +kernel
theorem dX4_forgetForm_16 : decode cX4_forgetForm 16 = .ok (.iload_n 3, 1) := by decide +kernel
theorem dX4_forgetForm_17 : decode cX4_forgetForm 17 = .ok (.aaload, 1) := by decide +kernel
theorem dX4_forgetForm_18 : decode cX4_forgetForm 18 = .ok (.astore 4, 2) := by decide +kernel
theorem dX4_forgetForm_20 : decode cX4_forgetForm 20 = .ok (.aload 4, 2) := by decide +kernel
theorem dX4_forgetForm_22 : decode cX4_forgetForm 22 = .ok (.iload_n 1, 1) := by decide +kernel
theorem dX4_forgetForm_23 : decode cX4_forgetForm 23 = .ok (.invokevirtual 21, 3) := by decide +kernel
theorem dX4_forgetForm_26 : decode cX4_forgetForm 26 = .ok (.ifCond .ne 14, 3) := by decide +kernel
theorem dX4_forgetForm_29 : decode cX4_forgetForm 29 = .ok (.aload_n 0, 1) := by decide +kernel
theorem dX4_forgetForm_30 : decode cX4_forgetForm 30 = .ok (.getfield 11, 3) := by decide +kernel
theorem dX4_forgetForm_33 : decode cX4_forgetForm 33 = .ok (.iload_n 2, 1) := by decide +kernel
theorem dX4_forgetForm_34 : decode cX4_forgetForm 34 = .ok (.aload 4, 2) := by decide +kernel
theorem dX4_forgetForm_36 : decode cX4_forgetForm 36 = .ok (.aastore, 1) := by decide +kernel
theorem dX4_forgetForm_37 : decode cX4_forgetForm 37 = .ok (.iinc 2 1, 3) := by decide +kernel
theorem dX4_forgetForm_40 : decode cX4_forgetForm 40 = .ok (.iinc 3 1, 3) := by decide +kernel
theorem dX4_forgetForm_43 : decode cX4_forgetForm 43 = .ok (.goto (-39), 3) := by decide +kernel
theorem dX4_forgetForm_46 : decode cX4_forgetForm 46 = .ok (.iload_n 2, 1) := by decide +kernel
theorem dX4_forgetForm_47 : decode cX4_forgetForm 47 = .ok (.istore_n 3, 1) := by decide +kernel
theorem dX4_forgetForm_48 : decode cX4_forgetForm 48 = .ok (.iload_n 3, 1) := by decide +kernel
theorem dX4_forgetForm_49 : decode cX4_forgetForm 49 = .ok (.aload_n 0, 1) := by decide +kernel
theorem dX4_forgetForm_50 : decode cX4_forgetForm 50 = .ok (.getfield 17, 3) := by decide +kernel
theorem dX4_forgetForm_53 : decode cX4_forgetForm 53 = .ok (.if_icmp .ge 16, 3) := by decide +kernel
theorem dX4_forgetForm_56 : decode cX4_forgetForm 56 = .ok (.aload_n 0, 1) := by decide +kernel
theorem dX4_forgetForm_57 : decode cX4_forgetForm 57 = .ok (.getfield 11, 3) := by decide +kernel
theorem dX4_forgetForm_60 : decode cX4_forgetForm 60 = .ok (.iload_n 3, 1) := by decide +kernel
theorem dX4_forgetForm_61 : decode cX4_forgetForm 61 = .ok (.aconst_null, 1) := by decide +kernel
theorem dX4_forgetForm_62 : decode cX4_forgetForm 62 = .ok (.aastore, 1) := by decide +kernel
theorem dX4_forgetForm_63 : decode cX4_forgetForm 63 = .ok (.iinc 3 1, 3) := by decide +kernel
theorem dX4_forgetForm_66 : decode cX4_forgetForm 66 = .ok (.goto (-18), 3) := by decide +kernel
theorem dX4_forgetForm_69 : decode cX4_forgetForm 69 = .ok (.aload_n 0, 1) := by decide +kernel
theorem dX4_forgetForm_70 : decode cX4_forgetForm 70 = .ok (.iload_n 2, 1) := by decide +kernel
theorem dX4_forgetForm_71 : decode cX4_forgetForm 71 = .ok (.putfield 17, 3) := by decide +kernel
theorem dX4_forgetForm_74 : decode cX4_forgetForm 74 = .ok (.return_, 1) := by decide +kernel
theorem dX5_init_0 : decode cX5_init 0 = .ok (.aload_n 0, 1) := by decide +kernel
theorem dX5_init_1 : decode cX5_init 1 = .ok (.invokespecial 1, 3) := by decide +kernel
theorem dX5_init_4 : decode cX5_init 4 = .ok (.aload_n 0, 1) := by decide +kernel
theorem dX5_init_5 : decode cX5_init 5 = .ok (.iload_n 1, 1) := by decide +kernel
theorem dX5_init_6 : decode cX5_init 6 = .ok (.putfield 7, 3) := by decide +kernel
theorem dX5_init_9 : decode cX5_init 9 = .ok (.aload_n 0, 1) := by decide +kernel
theorem dX5_init_10 : decode cX5_init 10 = .ok (.iload_n 2, 1) := by decide +kernel
theorem dX5_init_11 : decode cX5_init 11 = .ok (.putfield 13, 3) := by decide +kernel
theorem dX5_init_14 : decode cX5_init 14 = .ok (.aload_n 0, 1) := by decide +kernel
theorem dX5_init_15 : decode cX5_init 15 = .ok (.lload_n 3, 1) := by decide +kernel
theorem dX5_init_16 : decode cX5_init 16 = .ok (.putfield 16, 3) := by decide +kernel
theorem dX5_init_19 : decode cX5_init 19 = .ok (.aload_n 0, 1) := by decide +kernel
theorem dX5_init_20 : decode cX5_init 20 = .ok (.iload 5, 2) := by decide +kernel
theorem dX5_init_22 : decode cX5_init 22 = .ok (.ifCond .ge 7, 3) := by decide +kernel
theorem dX5_init_25 : decode cX5_init 25 = .ok (.iconst 0, 1) := by decide +kernel
theorem dX5_init_26 : decode cX5_init 26 = .ok (.goto 5, 3) := by decide +kernel
theorem dX5_init_29 : decode cX5_init 29 = .ok (.iload 5, 2) := by decide +kernel
theorem dX5_init_31 : decode cX5_init 31 = .ok (.newarray .long, 2) := by decide +kernel
theorem dX5_init_33 : decode cX5_init 33 = .ok (.putfield 20, 3) := by decide +kernel
theorem dX5_init_36 : decode cX5_init 36 = .ok (.return_, 1) := by decide +kernel
theorem dX5_multiplies_0 : decode cX5_multiplies 0 = .ok (.aload_n 0, 1) := by decide +kernel
theorem dX5_multiplies_1 : decode cX5_multiplies 1 = .ok (.getfield 13, 3) := by decide +kernel
theorem dX5_multiplies_4 : decode cX5_multiplies 4 = .ok (.iconst 2, 1) := by decide +kernel
theorem dX5_multiplies_5 : decode cX5_multiplies 5 = .ok (.if_icmp .lt 15, 3) := by decide +kernel
theorem dX5_multiplies_8 : decode cX5_multiplies 8 = .ok (.aload_n 0, 1) := by decide +kernel
theorem dX5_multiplies_9 : decode cX5_multiplies 9 = .ok (.getfield 13, 3) := by decide +kernel
theorem dX5_multiplies_12 : decode cX5_multiplies 12 = .ok (.iconst 4, 1) := by decide +kernel
theorem dX5_multiplies_13 : decode cX5_multiplies 13 = .ok (.if_icmp .gt 7, 3) := by decide +kernel
theorem dX5_multiplies_16 : decode cX5_multiplies 16 = .ok (.iconst 1, 1) := by decide +kernel
theorem dX5_multiplies_17 : decode cX5_multiplies 17 = .ok (.goto 4, 3) := by decide +kernel
theorem dX5_multiplies_20 : decode cX5_multiplies 20 = .ok (.iconst 0, 1) := by decide +kernel
theorem dX5_multiplies_21 : decode cX5_multiplies 21 = .ok (.ireturn, 1) := by decide +kernel
theorem dX5_hasPlace_0 : decode cX5_hasPlace 0 = .ok (.iload_n 1, 1) := by decide +kernel
theorem dX5_hasPlace_1 : decode cX5_hasPlace 1 = .ok (.ifCond .lt 16, 3) := by decide +kernel
theorem dX5_hasPlace_4 : decode cX5_hasPlace 4 = .ok (.iload_n 1, 1) := by decide +kernel
theorem dX5_hasPlace_5 : decode cX5_hasPlace 5 = .ok (.aload_n 0, 1) := by decide +kernel
theorem dX5_hasPlace_6 : decode cX5_hasPlace 6 = .ok (.getfield 20, 3) := by decide +kernel
theorem dX5_hasPlace_9 : decode cX5_hasPlace 9 = .ok (.arraylength, 1) := by decide +kernel
theorem dX5_hasPlace_10 : decode cX5_hasPlace 10 = .ok (.if_icmp .ge 7, 3) := by decide +kernel
theorem dX5_hasPlace_13 : decode cX5_hasPlace 13 = .ok (.iconst 1, 1) := by decide +kernel
theorem dX5_hasPlace_14 : decode cX5_hasPlace 14 = .ok (.goto 4, 3) := by decide +kernel
theorem dX5_hasPlace_17 : decode cX5_hasPlace 17 = .ok (.iconst 0, 1) := by decide +kernel
theorem dX5_hasPlace_18 : decode cX5_hasPlace 18 = .ok (.ireturn, 1) := by decide +kernel
theorem dX6_takesOperand_0 : decode cX6_takesOperand 0 = .ok (.iload_n 0, 1) := by decide +kernel
theorem dX6_takesOperand_1 : decode cX6_takesOperand 1 = .ok (.iconst 5, 1) := by decide +kernel
theorem dX6_takesOperand_2 : decode cX6_takesOperand 2 = .ok (.if_icmp .eq 21, 3) := by decide +kernel
theorem dX6_takesOperand_5 : decode cX6_takesOperand 5 = .ok (.iload_n 0, 1) := by decide +kernel
theorem dX6_takesOperand_6 : decode cX6_takesOperand 6 = .ok (.bipush 6, 2) := by decide +kernel
theorem dX6_takesOperand_8 : decode cX6_takesOperand 8 = .ok (.if_icmp .eq 15, 3) := by decide +kernel
theorem dX6_takesOperand_11 : decode cX6_takesOperand 11 = .ok (.iload_n 0, 1) := by decide +kernel
theorem dX6_takesOperand_12 : decode cX6_takesOperand 12 = .ok (.bipush 8, 2) := by decide +kernel
theorem dX6_takesOperand_14 : decode cX6_takesOperand 14 = .ok (.if_icmp .eq 9, 3) := by decide +kernel
theorem dX6_takesOperand_17 : decode cX6_takesOperand 17 = .ok (.iload_n 0, 1) := by decide +kernel
theorem dX6_takesOperand_18 : decode cX6_takesOperand 18 = .ok (.bipush 12, 2) := by decide +kernel
theorem dX6_takesOperand_20 : decode cX6_takesOperand 20 = .ok (.if_icmp .ne 7, 3) := by decide +kernel
theorem dX6_takesOperand_23 : decode cX6_takesOperand 23 = .ok (.iconst 1, 1) := by decide +kernel
theorem dX6_takesOperand_24 : decode cX6_takesOperand 24 = .ok (.goto 4, 3) := by decide +kernel
theorem dX6_takesOperand_27 : decode cX6_takesOperand 27 = .ok (.iconst 0, 1) := by decide +kernel
theorem dX6_takesOperand_28 : decode cX6_takesOperand 28 = .ok (.ireturn, 1) := by decide +kernel
theorem dX6_takesCount_0 : decode cX6_takesCount 0 = .ok (.iload_n 0, 1) := by decide +kernel
theorem dX6_takesCount_1 : decode cX6_takesCount 1 = .ok (.ifCond .eq 14, 3) := by decide +kernel
theorem dX6_takesCount_4 : decode cX6_takesCount 4 = .ok (.iload_n 0, 1) := by decide +kernel
theorem dX6_takesCount_5 : decode cX6_takesCount 5 = .ok (.iconst 1, 1) := by decide +kernel
theorem dX6_takesCount_6 : decode cX6_takesCount 6 = .ok (.if_icmp .eq 9, 3) := by decide +kernel
theorem dX6_takesCount_9 : decode cX6_takesCount 9 = .ok (.iload_n 0, 1) := by decide +kernel
theorem dX6_takesCount_10 : decode cX6_takesCount 10 = .ok (.bipush 10, 2) := by decide +kernel
theorem dX6_takesCount_12 : decode cX6_takesCount 12 = .ok (.if_icmp .ne 7, 3) := by decide +kernel
theorem dX6_takesCount_15 : decode cX6_takesCount 15 = .ok (.iconst 1, 1) := by decide +kernel
theorem dX6_takesCount_16 : decode cX6_takesCount 16 = .ok (.goto 4, 3) := by decide +kernel
theorem dX6_takesCount_19 : decode cX6_takesCount 19 = .ok (.iconst 0, 1) := by decide +kernel
theorem dX6_takesCount_20 : decode cX6_takesCount 20 = .ok (.ireturn, 1) := by decide +kernel
theorem dX6_apply_0 : decode cX6_apply 0 = .ok (.iload_n 1, 1) := by decide +kernel
theorem dX6_apply_1 : decode cX6_apply 1 = .ok (.tableswitch 205 0 12 #[67, 73, 88, 96, 104, 114, 124, 134, 144, 149, 154, 173, 188], 67) := by decide +kernel
theorem dX6_apply_68 : decode cX6_apply 68 = .ok (.lload_n 2, 1) := by decide +kernel
theorem dX6_apply_69 : decode cX6_apply 69 = .ok (.lload 4, 2) := by decide +kernel
theorem dX6_apply_71 : decode cX6_apply 71 = .ok (.l2i, 1) := by decide +kernel
theorem dX6_apply_72 : decode cX6_apply 72 = .ok (.lushr, 1) := by decide +kernel
theorem dX6_apply_73 : decode cX6_apply 73 = .ok (.lreturn, 1) := by decide +kernel
theorem dX6_apply_74 : decode cX6_apply 74 = .ok (.iload_n 0, 1) := by decide +kernel
theorem dX6_apply_75 : decode cX6_apply 75 = .ok (.lload_n 2, 1) := by decide +kernel
theorem dX6_apply_76 : decode cX6_apply 76 = .ok (.invokestatic 7, 3) := by decide +kernel
theorem dX6_apply_79 : decode cX6_apply 79 = .ok (.lload 4, 2) := by decide +kernel
theorem dX6_apply_81 : decode cX6_apply 81 = .ok (.l2i, 1) := by decide +kernel
theorem dX6_apply_82 : decode cX6_apply 82 = .ok (.lshr, 1) := by decide +kernel
theorem dX6_apply_83 : decode cX6_apply 83 = .ok (.iload_n 0, 1) := by decide +kernel
theorem dX6_apply_84 : decode cX6_apply 84 = .ok (.invokestatic 13, 3) := by decide +kernel
theorem dX6_apply_87 : decode cX6_apply 87 = .ok (.land, 1) := by decide +kernel
theorem dX6_apply_88 : decode cX6_apply 88 = .ok (.lreturn, 1) := by decide +kernel
theorem dX6_apply_89 : decode cX6_apply 89 = .ok (.iload_n 0, 1) := by decide +kernel
theorem dX6_apply_90 : decode cX6_apply 90 = .ok (.lload_n 2, 1) := by decide +kernel
theorem dX6_apply_91 : decode cX6_apply 91 = .ok (.lload 4, 2) := by decide +kernel
theorem dX6_apply_93 : decode cX6_apply 93 = .ok (.invokestatic 17, 3) := by decide +kernel
theorem dX6_apply_96 : decode cX6_apply 96 = .ok (.lreturn, 1) := by decide +kernel
theorem dX6_apply_97 : decode cX6_apply 97 = .ok (.iload_n 0, 1) := by decide +kernel
theorem dX6_apply_98 : decode cX6_apply 98 = .ok (.lload_n 2, 1) := by decide +kernel
theorem dX6_apply_99 : decode cX6_apply 99 = .ok (.lload 4, 2) := by decide +kernel
theorem dX6_apply_101 : decode cX6_apply 101 = .ok (.invokestatic 21, 3) := by decide +kernel
theorem dX6_apply_104 : decode cX6_apply 104 = .ok (.lreturn, 1) := by decide +kernel
theorem dX6_apply_105 : decode cX6_apply 105 = .ok (.lload_n 2, 1) := by decide +kernel
theorem dX6_apply_106 : decode cX6_apply 106 = .ok (.lload 4, 2) := by decide +kernel
theorem dX6_apply_108 : decode cX6_apply 108 = .ok (.lmul, 1) := by decide +kernel
theorem dX6_apply_109 : decode cX6_apply 109 = .ok (.iload_n 0, 1) := by decide +kernel
theorem dX6_apply_110 : decode cX6_apply 110 = .ok (.invokestatic 13, 3) := by decide +kernel
theorem dX6_apply_113 : decode cX6_apply 113 = .ok (.land, 1) := by decide +kernel
theorem dX6_apply_114 : decode cX6_apply 114 = .ok (.lreturn, 1) := by decide +kernel
theorem dX6_apply_115 : decode cX6_apply 115 = .ok (.lload_n 2, 1) := by decide +kernel
theorem dX6_apply_116 : decode cX6_apply 116 = .ok (.lload 4, 2) := by decide +kernel
theorem dX6_apply_118 : decode cX6_apply 118 = .ok (.ladd, 1) := by decide +kernel
theorem dX6_apply_119 : decode cX6_apply 119 = .ok (.iload_n 0, 1) := by decide +kernel
theorem dX6_apply_120 : decode cX6_apply 120 = .ok (.invokestatic 13, 3) := by decide +kernel
theorem dX6_apply_123 : decode cX6_apply 123 = .ok (.land, 1) := by decide +kernel
theorem dX6_apply_124 : decode cX6_apply 124 = .ok (.lreturn, 1) := by decide +kernel
theorem dX6_apply_125 : decode cX6_apply 125 = .ok (.lload_n 2, 1) := by decide +kernel
theorem dX6_apply_126 : decode cX6_apply 126 = .ok (.lload 4, 2) := by decide +kernel
theorem dX6_apply_128 : decode cX6_apply 128 = .ok (.lsub, 1) := by decide +kernel
theorem dX6_apply_129 : decode cX6_apply 129 = .ok (.iload_n 0, 1) := by decide +kernel
theorem dX6_apply_130 : decode cX6_apply 130 = .ok (.invokestatic 13, 3) := by decide +kernel
theorem dX6_apply_133 : decode cX6_apply 133 = .ok (.land, 1) := by decide +kernel
theorem dX6_apply_134 : decode cX6_apply 134 = .ok (.lreturn, 1) := by decide +kernel
theorem dX6_apply_135 : decode cX6_apply 135 = .ok (.lload 4, 2) := by decide +kernel
theorem dX6_apply_137 : decode cX6_apply 137 = .ok (.lload_n 2, 1) := by decide +kernel
theorem dX6_apply_138 : decode cX6_apply 138 = .ok (.lsub, 1) := by decide +kernel
theorem dX6_apply_139 : decode cX6_apply 139 = .ok (.iload_n 0, 1) := by decide +kernel
theorem dX6_apply_140 : decode cX6_apply 140 = .ok (.invokestatic 13, 3) := by decide +kernel
theorem dX6_apply_143 : decode cX6_apply 143 = .ok (.land, 1) := by decide +kernel
theorem dX6_apply_144 : decode cX6_apply 144 = .ok (.lreturn, 1) := by decide +kernel
theorem dX6_apply_145 : decode cX6_apply 145 = .ok (.lload_n 2, 1) := by decide +kernel
theorem dX6_apply_146 : decode cX6_apply 146 = .ok (.lload 4, 2) := by decide +kernel
theorem dX6_apply_148 : decode cX6_apply 148 = .ok (.lxor, 1) := by decide +kernel
theorem dX6_apply_149 : decode cX6_apply 149 = .ok (.lreturn, 1) := by decide +kernel
theorem dX6_apply_150 : decode cX6_apply 150 = .ok (.lload_n 2, 1) := by decide +kernel
theorem dX6_apply_151 : decode cX6_apply 151 = .ok (.lload 4, 2) := by decide +kernel
theorem dX6_apply_153 : decode cX6_apply 153 = .ok (.land, 1) := by decide +kernel
theorem dX6_apply_154 : decode cX6_apply 154 = .ok (.lreturn, 1) := by decide +kernel
theorem dX6_apply_155 : decode cX6_apply 155 = .ok (.lload_n 2, 1) := by decide +kernel
theorem dX6_apply_156 : decode cX6_apply 156 = .ok (.lload 4, 2) := by decide +kernel
theorem dX6_apply_158 : decode cX6_apply 158 = .ok (.l2i, 1) := by decide +kernel
theorem dX6_apply_159 : decode cX6_apply 159 = .ok (.lushr, 1) := by decide +kernel
theorem dX6_apply_160 : decode cX6_apply 160 = .ok (.lload_n 2, 1) := by decide +kernel
theorem dX6_apply_161 : decode cX6_apply 161 = .ok (.iload_n 0, 1) := by decide +kernel
theorem dX6_apply_162 : decode cX6_apply 162 = .ok (.lload 4, 2) := by decide +kernel
theorem dX6_apply_164 : decode cX6_apply 164 = .ok (.l2i, 1) := by decide +kernel
theorem dX6_apply_165 : decode cX6_apply 165 = .ok (.isub, 1) := by decide +kernel
theorem dX6_apply_166 : decode cX6_apply 166 = .ok (.lshl, 1) := by decide +kernel
theorem dX6_apply_167 : decode cX6_apply 167 = .ok (.lor, 1) := by decide +kernel
theorem dX6_apply_168 : decode cX6_apply 168 = .ok (.iload_n 0, 1) := by decide +kernel
theorem dX6_apply_169 : decode cX6_apply 169 = .ok (.invokestatic 13, 3) := by decide +kernel
theorem dX6_apply_172 : decode cX6_apply 172 = .ok (.land, 1) := by decide +kernel
theorem dX6_apply_173 : decode cX6_apply 173 = .ok (.lreturn, 1) := by decide +kernel
theorem dX6_apply_174 : decode cX6_apply 174 = .ok (.lload 4, 2) := by decide +kernel
theorem dX6_apply_176 : decode cX6_apply 176 = .ok (.lload_n 2, 1) := by decide +kernel
theorem dX6_apply_177 : decode cX6_apply 177 = .ok (.invokestatic 24, 3) := by decide +kernel
theorem dX6_apply_180 : decode cX6_apply 180 = .ok (.ifCond .eq 7, 3) := by decide +kernel
theorem dX6_apply_183 : decode cX6_apply 183 = .ok (.lconst 0, 1) := by decide +kernel
theorem dX6_apply_184 : decode cX6_apply 184 = .ok (.goto 4, 3) := by decide +kernel
theorem dX6_apply_187 : decode cX6_apply 187 = .ok (.lconst 1, 1) := by decide +kernel
theorem dX6_apply_188 : decode cX6_apply 188 = .ok (.lreturn, 1) := by decide +kernel
theorem dX6_apply_189 : decode cX6_apply 189 = .ok (.lload_n 2, 1) := by decide +kernel
theorem dX6_apply_190 : decode cX6_apply 190 = .ok (.iload_n 0, 1) := by decide +kernel
theorem dX6_apply_191 : decode cX6_apply 191 = .ok (.iconst 1, 1) := by decide +kernel
theorem dX6_apply_192 : decode cX6_apply 192 = .ok (.isub, 1) := by decide +kernel
theorem dX6_apply_193 : decode cX6_apply 193 = .ok (.lushr, 1) := by decide +kernel
theorem dX6_apply_194 : decode cX6_apply 194 = .ok (.lconst 0, 1) := by decide +kernel
theorem dX6_apply_195 : decode cX6_apply 195 = .ok (.lcmp, 1) := by decide +kernel
theorem dX6_apply_196 : decode cX6_apply 196 = .ok (.ifCond .ne 7, 3) := by decide +kernel
theorem dX6_apply_199 : decode cX6_apply 199 = .ok (.lconst 0, 1) := by decide +kernel
theorem dX6_apply_200 : decode cX6_apply 200 = .ok (.goto 5, 3) := by decide +kernel
theorem dX6_apply_203 : decode cX6_apply 203 = .ok (.lload 4, 2) := by decide +kernel
theorem dX6_apply_205 : decode cX6_apply 205 = .ok (.lreturn, 1) := by decide +kernel
theorem dX6_apply_206 : decode cX6_apply 206 = .ok (.lconst 0, 1) := by decide +kernel
theorem dX6_apply_207 : decode cX6_apply 207 = .ok (.lreturn, 1) := by decide +kernel
theorem dX7_init_0 : decode cX7_init 0 = .ok (.aload_n 0, 1) := by decide +kernel
theorem dX7_init_1 : decode cX7_init 1 = .ok (.invokespecial 1, 3) := by decide +kernel
theorem dX7_init_4 : decode cX7_init 4 = .ok (.iload_n 1, 1) := by decide +kernel
theorem dX7_init_5 : decode cX7_init 5 = .ok (.invokestatic 7, 3) := by decide +kernel
theorem dX7_init_8 : decode cX7_init 8 = .ok (.lstore 5, 2) := by decide +kernel
theorem dX7_init_10 : decode cX7_init 10 = .ok (.lload 5, 2) := by decide +kernel
theorem dX7_init_12 : decode cX7_init 12 = .ok (.lload_n 2, 1) := by decide +kernel
theorem dX7_init_13 : decode cX7_init 13 = .ok (.invokestatic 13, 3) := by decide +kernel
theorem dX7_init_16 : decode cX7_init 16 = .ok (.lstore 7, 2) := by decide +kernel
theorem dX7_init_18 : decode cX7_init 18 = .ok (.lload 5, 2) := by decide +kernel
theorem dX7_init_20 : decode cX7_init 20 = .ok (.lload 7, 2) := by decide +kernel
theorem dX7_init_22 : decode cX7_init 22 = .ok (.lload_n 2, 1) := by decide +kernel
theorem dX7_init_23 : decode cX7_init 23 = .ok (.lmul, 1) := by decide +kernel
theorem dX7_init_24 : decode cX7_init 24 = .ok (.lsub, 1) := by decide +kernel
theorem dX7_init_25 : decode cX7_init 25 = .ok (.lconst 1, 1) := by decide +kernel
theorem dX7_init_26 : decode cX7_init 26 = .ok (.ladd, 1) := by decide +kernel
theorem dX7_init_27 : decode cX7_init 27 = .ok (.lstore 9, 2) := by decide +kernel
theorem dX7_init_29 : decode cX7_init 29 = .ok (.iconst 0, 1) := by decide +kernel
theorem dX7_init_30 : decode cX7_init 30 = .ok (.istore 11, 2) := by decide +kernel
theorem dX7_init_32 : decode cX7_init 32 = .ok (.iconst 0, 1) := by decide +kernel
theorem dX7_init_33 : decode cX7_init 33 = .ok (.istore 12, 2) := by decide +kernel
theorem dX7_init_35 : decode cX7_init 35 = .ok (.iload 12, 2) := by decide +kernel
theorem dX7_init_37 : decode cX7_init 37 = .ok (.iload_n 1, 1) := by decide +kernel
theorem dX7_init_38 : decode cX7_init 38 = .ok (.if_icmp .ge 90, 3) := by decide +kernel
theorem dX7_init_41 : decode cX7_init 41 = .ok (.lload_n 2, 1) := by decide +kernel
theorem dX7_init_42 : decode cX7_init 42 = .ok (.lload 9, 2) := by decide +kernel
theorem dX7_init_44 : decode cX7_init 44 = .ok (.lsub, 1) := by decide +kernel
theorem dX7_init_45 : decode cX7_init 45 = .ok (.iload 12, 2) := by decide +kernel
theorem dX7_init_47 : decode cX7_init 47 = .ok (.iload 4, 2) := by decide +kernel
theorem dX7_init_49 : decode cX7_init 49 = .ok (.iadd, 1) := by decide +kernel
theorem dX7_init_50 : decode cX7_init 50 = .ok (.invokestatic 17, 3) := by decide +kernel
theorem dX7_init_53 : decode cX7_init 53 = .ok (.ifCond .eq 75, 3) := by decide +kernel
theorem dX7_init_56 : decode cX7_init 56 = .ok (.lload 7, 2) := by decide +kernel
theorem dX7_init_58 : decode cX7_init 58 = .ok (.iload_n 1, 1) := by decide +kernel
theorem dX7_init_59 : decode cX7_init 59 = .ok (.iconst 1, 1) := by decide +kernel
theorem dX7_init_60 : decode cX7_init 60 = .ok (.isub, 1) := by decide +kernel
theorem dX7_init_61 : decode cX7_init 61 = .ok (.lushr, 1) := by decide +kernel
theorem dX7_init_62 : decode cX7_init 62 = .ok (.lconst 0, 1) := by decide +kernel
theorem dX7_init_63 : decode cX7_init 63 = .ok (.lcmp, 1) := by decide +kernel
theorem dX7_init_64 : decode cX7_init 64 = .ok (.ifCond .eq 7, 3) := by decide +kernel
theorem dX7_init_67 : decode cX7_init 67 = .ok (.iconst 1, 1) := by decide +kernel
theorem dX7_init_68 : decode cX7_init 68 = .ok (.goto 4, 3) := by decide +kernel
theorem dX7_init_71 : decode cX7_init 71 = .ok (.iconst 0, 1) := by decide +kernel
theorem dX7_init_72 : decode cX7_init 72 = .ok (.istore 11, 2) := by decide +kernel
theorem dX7_init_74 : decode cX7_init 74 = .ok (.lload 7, 2) := by decide +kernel
theorem dX7_init_76 : decode cX7_init 76 = .ok (.iconst 1, 1) := by decide +kernel
theorem dX7_init_77 : decode cX7_init 77 = .ok (.lshl, 1) := by decide +kernel
theorem dX7_init_78 : decode cX7_init 78 = .ok (.lload 5, 2) := by decide +kernel
theorem dX7_init_80 : decode cX7_init 80 = .ok (.land, 1) := by decide +kernel
theorem dX7_init_81 : decode cX7_init 81 = .ok (.lstore 7, 2) := by decide +kernel
theorem dX7_init_83 : decode cX7_init 83 = .ok (.lload_n 2, 1) := by decide +kernel
theorem dX7_init_84 : decode cX7_init 84 = .ok (.lload 9, 2) := by decide +kernel
theorem dX7_init_86 : decode cX7_init 86 = .ok (.lsub, 1) := by decide +kernel
theorem dX7_init_87 : decode cX7_init 87 = .ok (.lstore 13, 2) := by decide +kernel
theorem dX7_init_89 : decode cX7_init 89 = .ok (.lload 9, 2) := by decide +kernel
theorem dX7_init_91 : decode cX7_init 91 = .ok (.lload 13, 2) := by decide +kernel
theorem dX7_init_93 : decode cX7_init 93 = .ok (.invokestatic 23, 3) := by decide +kernel
theorem dX7_init_96 : decode cX7_init 96 = .ok (.ifCond .eq 13, 3) := by decide +kernel
theorem dX7_init_99 : decode cX7_init 99 = .ok (.lload 9, 2) := by decide +kernel
theorem dX7_init_101 : decode cX7_init 101 = .ok (.lload 9, 2) := by decide +kernel
theorem dX7_init_103 : decode cX7_init 103 = .ok (.ladd, 1) := by decide +kernel
theorem dX7_init_104 : decode cX7_init 104 = .ok (.lstore 9, 2) := by decide +kernel
theorem dX7_init_106 : decode cX7_init 106 = .ok (.goto 16, 3) := by decide +kernel
theorem dX7_init_109 : decode cX7_init 109 = .ok (.lload 9, 2) := by decide +kernel
theorem dX7_init_111 : decode cX7_init 111 = .ok (.lload 13, 2) := by decide +kernel
theorem dX7_init_113 : decode cX7_init 113 = .ok (.lsub, 1) := by decide +kernel
theorem dX7_init_114 : decode cX7_init 114 = .ok (.lstore 9, 2) := by decide +kernel
theorem dX7_init_116 : decode cX7_init 116 = .ok (.lload 7, 2) := by decide +kernel
theorem dX7_init_118 : decode cX7_init 118 = .ok (.lconst 1, 1) := by decide +kernel
theorem dX7_init_119 : decode cX7_init 119 = .ok (.lor, 1) := by decide +kernel
theorem dX7_init_120 : decode cX7_init 120 = .ok (.lstore 7, 2) := by decide +kernel
theorem dX7_init_122 : decode cX7_init 122 = .ok (.iinc 12 1, 3) := by decide +kernel
theorem dX7_init_125 : decode cX7_init 125 = .ok (.goto (-90), 3) := by decide +kernel
theorem dX7_init_128 : decode cX7_init 128 = .ok (.aload_n 0, 1) := by decide +kernel
theorem dX7_init_129 : decode cX7_init 129 = .ok (.iload 12, 2) := by decide +kernel
theorem dX7_init_131 : decode cX7_init 131 = .ok (.putfield 27, 3) := by decide +kernel
theorem dX7_init_134 : decode cX7_init 134 = .ok (.aload_n 0, 1) := by decide +kernel
theorem dX7_init_135 : decode cX7_init 135 = .ok (.lload 7, 2) := by decide +kernel
theorem dX7_init_137 : decode cX7_init 137 = .ok (.lconst 1, 1) := by decide +kernel
theorem dX7_init_138 : decode cX7_init 138 = .ok (.ladd, 1) := by decide +kernel
theorem dX7_init_139 : decode cX7_init 139 = .ok (.lload 5, 2) := by decide +kernel
theorem dX7_init_141 : decode cX7_init 141 = .ok (.land, 1) := by decide +kernel
theorem dX7_init_142 : decode cX7_init 142 = .ok (.putfield 31, 3) := by decide +kernel
theorem dX7_init_145 : decode cX7_init 145 = .ok (.aload_n 0, 1) := by decide +kernel
theorem dX7_init_146 : decode cX7_init 146 = .ok (.iload 11, 2) := by decide +kernel
theorem dX7_init_148 : decode cX7_init 148 = .ok (.ifCond .ne 12, 3) := by decide +kernel
theorem dX7_init_151 : decode cX7_init 151 = .ok (.aload_n 0, 1) := by decide +kernel
theorem dX7_init_152 : decode cX7_init 152 = .ok (.getfield 31, 3) := by decide +kernel
theorem dX7_init_155 : decode cX7_init 155 = .ok (.lconst 0, 1) := by decide +kernel
theorem dX7_init_156 : decode cX7_init 156 = .ok (.lcmp, 1) := by decide +kernel
theorem dX7_init_157 : decode cX7_init 157 = .ok (.ifCond .ne 7, 3) := by decide +kernel
theorem dX7_init_160 : decode cX7_init 160 = .ok (.iconst 1, 1) := by decide +kernel
theorem dX7_init_161 : decode cX7_init 161 = .ok (.goto 4, 3) := by decide +kernel
theorem dX7_init_164 : decode cX7_init 164 = .ok (.iconst 0, 1) := by decide +kernel
theorem dX7_init_165 : decode cX7_init 165 = .ok (.putfield 35, 3) := by decide +kernel
theorem dX7_init_168 : decode cX7_init 168 = .ok (.aload_n 0, 1) := by decide +kernel
theorem dX7_init_169 : decode cX7_init 169 = .ok (.lload_n 2, 1) := by decide +kernel
theorem dX7_init_170 : decode cX7_init 170 = .ok (.lload 9, 2) := by decide +kernel
theorem dX7_init_172 : decode cX7_init 172 = .ok (.lsub, 1) := by decide +kernel
theorem dX7_init_173 : decode cX7_init 173 = .ok (.putfield 39, 3) := by decide +kernel
theorem dX7_init_176 : decode cX7_init 176 = .ok (.return_, 1) := by decide +kernel
theorem dX7_isAbovePower_0 : decode cX7_isAbovePower 0 = .ok (.iload_n 2, 1) := by decide +kernel
theorem dX7_isAbovePower_1 : decode cX7_isAbovePower 1 = .ok (.bipush 64, 2) := by decide +kernel
theorem dX7_isAbovePower_3 : decode cX7_isAbovePower 3 = .ok (.if_icmp .ge 17, 3) := by decide +kernel
theorem dX7_isAbovePower_6 : decode cX7_isAbovePower 6 = .ok (.lconst 1, 1) := by decide +kernel
theorem dX7_isAbovePower_7 : decode cX7_isAbovePower 7 = .ok (.iload_n 2, 1) := by decide +kernel
theorem dX7_isAbovePower_8 : decode cX7_isAbovePower 8 = .ok (.lshl, 1) := by decide +kernel
theorem dX7_isAbovePower_9 : decode cX7_isAbovePower 9 = .ok (.lload_n 0, 1) := by decide +kernel
theorem dX7_isAbovePower_10 : decode cX7_isAbovePower 10 = .ok (.invokestatic 23, 3) := by decide +kernel
theorem dX7_isAbovePower_13 : decode cX7_isAbovePower 13 = .ok (.ifCond .eq 7, 3) := by decide +kernel
theorem dX7_isAbovePower_16 : decode cX7_isAbovePower 16 = .ok (.iconst 1, 1) := by decide +kernel
theorem dX7_isAbovePower_17 : decode cX7_isAbovePower 17 = .ok (.goto 4, 3) := by decide +kernel
theorem dX7_isAbovePower_20 : decode cX7_isAbovePower 20 = .ok (.iconst 0, 1) := by decide +kernel
theorem dX7_isAbovePower_21 : decode cX7_isAbovePower 21 = .ok (.ireturn, 1) := by decide +kernel
theorem dJ13_bitCount_95d88_0 : decode cJ13_bitCount_95d88 0 = .ok (.lload_n 0, 1) := by decide +kernel
theorem dJ13_bitCount_95d88_1 : decode cJ13_bitCount_95d88 1 = .ok (.lload_n 0, 1) := by decide +kernel
theorem dJ13_bitCount_95d88_2 : decode cJ13_bitCount_95d88 2 = .ok (.iconst 1, 1) := by decide +kernel
theorem dJ13_bitCount_95d88_3 : decode cJ13_bitCount_95d88 3 = .ok (.lushr, 1) := by decide +kernel
theorem dJ13_bitCount_95d88_4 : decode cJ13_bitCount_95d88 4 = .ok (.ldc2_w 314, 3) := by decide +kernel
theorem dJ13_bitCount_95d88_7 : decode cJ13_bitCount_95d88 7 = .ok (.land, 1) := by decide +kernel
theorem dJ13_bitCount_95d88_8 : decode cJ13_bitCount_95d88 8 = .ok (.lsub, 1) := by decide +kernel
theorem dJ13_bitCount_95d88_9 : decode cJ13_bitCount_95d88 9 = .ok (.lstore_n 0, 1) := by decide +kernel
theorem dJ13_bitCount_95d88_10 : decode cJ13_bitCount_95d88 10 = .ok (.lload_n 0, 1) := by decide +kernel
theorem dJ13_bitCount_95d88_11 : decode cJ13_bitCount_95d88 11 = .ok (.ldc2_w 316, 3) := by decide +kernel
theorem dJ13_bitCount_95d88_14 : decode cJ13_bitCount_95d88 14 = .ok (.land, 1) := by decide +kernel
theorem dJ13_bitCount_95d88_15 : decode cJ13_bitCount_95d88 15 = .ok (.lload_n 0, 1) := by decide +kernel
theorem dJ13_bitCount_95d88_16 : decode cJ13_bitCount_95d88 16 = .ok (.iconst 2, 1) := by decide +kernel
theorem dJ13_bitCount_95d88_17 : decode cJ13_bitCount_95d88 17 = .ok (.lushr, 1) := by decide +kernel
theorem dJ13_bitCount_95d88_18 : decode cJ13_bitCount_95d88 18 = .ok (.ldc2_w 316, 3) := by decide +kernel
theorem dJ13_bitCount_95d88_21 : decode cJ13_bitCount_95d88 21 = .ok (.land, 1) := by decide +kernel
theorem dJ13_bitCount_95d88_22 : decode cJ13_bitCount_95d88 22 = .ok (.ladd, 1) := by decide +kernel
theorem dJ13_bitCount_95d88_23 : decode cJ13_bitCount_95d88 23 = .ok (.lstore_n 0, 1) := by decide +kernel
theorem dJ13_bitCount_95d88_24 : decode cJ13_bitCount_95d88 24 = .ok (.lload_n 0, 1) := by decide +kernel
theorem dJ13_bitCount_95d88_25 : decode cJ13_bitCount_95d88 25 = .ok (.lload_n 0, 1) := by decide +kernel
theorem dJ13_bitCount_95d88_26 : decode cJ13_bitCount_95d88 26 = .ok (.iconst 4, 1) := by decide +kernel
theorem dJ13_bitCount_95d88_27 : decode cJ13_bitCount_95d88 27 = .ok (.lushr, 1) := by decide +kernel
theorem dJ13_bitCount_95d88_28 : decode cJ13_bitCount_95d88 28 = .ok (.ladd, 1) := by decide +kernel
theorem dJ13_bitCount_95d88_29 : decode cJ13_bitCount_95d88 29 = .ok (.ldc2_w 318, 3) := by decide +kernel
theorem dJ13_bitCount_95d88_32 : decode cJ13_bitCount_95d88 32 = .ok (.land, 1) := by decide +kernel
theorem dJ13_bitCount_95d88_33 : decode cJ13_bitCount_95d88 33 = .ok (.lstore_n 0, 1) := by decide +kernel
theorem dJ13_bitCount_95d88_34 : decode cJ13_bitCount_95d88 34 = .ok (.lload_n 0, 1) := by decide +kernel
theorem dJ13_bitCount_95d88_35 : decode cJ13_bitCount_95d88 35 = .ok (.lload_n 0, 1) := by decide +kernel
theorem dJ13_bitCount_95d88_36 : decode cJ13_bitCount_95d88 36 = .ok (.bipush 8, 2) := by decide +kernel
theorem dJ13_bitCount_95d88_38 : decode cJ13_bitCount_95d88 38 = .ok (.lushr, 1) := by decide +kernel
theorem dJ13_bitCount_95d88_39 : decode cJ13_bitCount_95d88 39 = .ok (.ladd, 1) := by decide +kernel
theorem dJ13_bitCount_95d88_40 : decode cJ13_bitCount_95d88 40 = .ok (.lstore_n 0, 1) := by decide +kernel
theorem dJ13_bitCount_95d88_41 : decode cJ13_bitCount_95d88 41 = .ok (.lload_n 0, 1) := by decide +kernel
theorem dJ13_bitCount_95d88_42 : decode cJ13_bitCount_95d88 42 = .ok (.lload_n 0, 1) := by decide +kernel
theorem dJ13_bitCount_95d88_43 : decode cJ13_bitCount_95d88 43 = .ok (.bipush 16, 2) := by decide +kernel
theorem dJ13_bitCount_95d88_45 : decode cJ13_bitCount_95d88 45 = .ok (.lushr, 1) := by decide +kernel
theorem dJ13_bitCount_95d88_46 : decode cJ13_bitCount_95d88 46 = .ok (.ladd, 1) := by decide +kernel
theorem dJ13_bitCount_95d88_47 : decode cJ13_bitCount_95d88 47 = .ok (.lstore_n 0, 1) := by decide +kernel
theorem dJ13_bitCount_95d88_48 : decode cJ13_bitCount_95d88 48 = .ok (.lload_n 0, 1) := by decide +kernel
theorem dJ13_bitCount_95d88_49 : decode cJ13_bitCount_95d88 49 = .ok (.lload_n 0, 1) := by decide +kernel
theorem dJ13_bitCount_95d88_50 : decode cJ13_bitCount_95d88 50 = .ok (.bipush 32, 2) := by decide +kernel
theorem dJ13_bitCount_95d88_52 : decode cJ13_bitCount_95d88 52 = .ok (.lushr, 1) := by decide +kernel
theorem dJ13_bitCount_95d88_53 : decode cJ13_bitCount_95d88 53 = .ok (.ladd, 1) := by decide +kernel
theorem dJ13_bitCount_95d88_54 : decode cJ13_bitCount_95d88 54 = .ok (.lstore_n 0, 1) := by decide +kernel
theorem dJ13_bitCount_95d88_55 : decode cJ13_bitCount_95d88 55 = .ok (.lload_n 0, 1) := by decide +kernel
theorem dJ13_bitCount_95d88_56 : decode cJ13_bitCount_95d88 56 = .ok (.l2i, 1) := by decide +kernel
theorem dJ13_bitCount_95d88_57 : decode cJ13_bitCount_95d88 57 = .ok (.bipush 127, 2) := by decide +kernel
theorem dJ13_bitCount_95d88_59 : decode cJ13_bitCount_95d88 59 = .ok (.iand, 1) := by decide +kernel
theorem dJ13_bitCount_95d88_60 : decode cJ13_bitCount_95d88 60 = .ok (.ireturn, 1) := by decide +kernel
end
section
theorem dX8_init_0 : decode cX8_init 0 = .ok (.aload_n 0, 1) := by decide +kernel
theorem dX8_init_1 : decode cX8_init 1 = .ok (.invokespecial 3, 3) := by decide +kernel
theorem dX8_init_4 : decode cX8_init 4 = .ok (.aload_n 0, 1) := by decide +kernel
theorem dX8_init_5 : decode cX8_init 5 = .ok (.bipush 13, 2) := by decide +kernel
theorem dX8_init_7 : decode cX8_init 7 = .ok (.newarray .int, 2) := by decide +kernel
theorem dX8_init_9 : decode cX8_init 9 = .ok (.putfield 9, 3) := by decide +kernel
theorem dX8_init_12 : decode cX8_init 12 = .ok (.aload_n 0, 1) := by decide +kernel
theorem dX8_init_13 : decode cX8_init 13 = .ok (.sipush 256, 3) := by decide +kernel
theorem dX8_init_16 : decode cX8_init 16 = .ok (.newarray .long, 2) := by decide +kernel
theorem dX8_init_18 : decode cX8_init 18 = .ok (.putfield 15, 3) := by decide +kernel
theorem dX8_init_21 : decode cX8_init 21 = .ok (.aload_n 0, 1) := by decide +kernel
theorem dX8_init_22 : decode cX8_init 22 = .ok (.iconst 3, 1) := by decide +kernel
theorem dX8_init_23 : decode cX8_init 23 = .ok (.sipush 256, 3) := by decide +kernel
theorem dX8_init_26 : decode cX8_init 26 = .ok (.multianewarray 19 2, 4) := by decide +kernel
theorem dX8_init_30 : decode cX8_init 30 = .ok (.putfield 21, 3) := by decide +kernel
theorem dX8_init_33 : decode cX8_init 33 = .ok (.aload_n 0, 1) := by decide +kernel
theorem dX8_init_34 : decode cX8_init 34 = .ok (.iconst 3, 1) := by decide +kernel
theorem dX8_init_35 : decode cX8_init 35 = .ok (.newarray .int, 2) := by decide +kernel
theorem dX8_init_37 : decode cX8_init 37 = .ok (.putfield 24, 3) := by decide +kernel
theorem dX8_init_40 : decode cX8_init 40 = .ok (.aload_n 0, 1) := by decide +kernel
theorem dX8_init_41 : decode cX8_init 41 = .ok (.sipush 144, 3) := by decide +kernel
theorem dX8_init_44 : decode cX8_init 44 = .ok (.newarray .int, 2) := by decide +kernel
theorem dX8_init_46 : decode cX8_init 46 = .ok (.putfield 27, 3) := by decide +kernel
theorem dX8_init_49 : decode cX8_init 49 = .ok (.aload_n 0, 1) := by decide +kernel
theorem dX8_init_50 : decode cX8_init 50 = .ok (.sipush 144, 3) := by decide +kernel
theorem dX8_init_53 : decode cX8_init 53 = .ok (.newarray .int, 2) := by decide +kernel
theorem dX8_init_55 : decode cX8_init 55 = .ok (.putfield 30, 3) := by decide +kernel
theorem dX8_init_58 : decode cX8_init 58 = .ok (.aload_n 0, 1) := by decide +kernel
theorem dX8_init_59 : decode cX8_init 59 = .ok (.sipush 144, 3) := by decide +kernel
theorem dX8_init_62 : decode cX8_init 62 = .ok (.newarray .long, 2) := by decide +kernel
theorem dX8_init_64 : decode cX8_init 64 = .ok (.putfield 33, 3) := by decide +kernel
theorem dX8_init_67 : decode cX8_init 67 = .ok (.aload_n 0, 1) := by decide +kernel
theorem dX8_init_68 : decode cX8_init 68 = .ok (.sipush 144, 3) := by decide +kernel
theorem dX8_init_71 : decode cX8_init 71 = .ok (.newarray .int, 2) := by decide +kernel
theorem dX8_init_73 : decode cX8_init 73 = .ok (.putfield 36, 3) := by decide +kernel
theorem dX8_init_76 : decode cX8_init 76 = .ok (.aload_n 0, 1) := by decide +kernel
theorem dX8_init_77 : decode cX8_init 77 = .ok (.iconst 3, 1) := by decide +kernel
theorem dX8_init_78 : decode cX8_init 78 = .ok (.newarray .int, 2) := by decide +kernel
theorem dX8_init_80 : decode cX8_init 80 = .ok (.putfield 39, 3) := by decide +kernel
theorem dX8_init_83 : decode cX8_init 83 = .ok (.aload_n 0, 1) := by decide +kernel
theorem dX8_init_84 : decode cX8_init 84 = .ok (.iconst 3, 1) := by decide +kernel
theorem dX8_init_85 : decode cX8_init 85 = .ok (.newarray .int, 2) := by decide +kernel
theorem dX8_init_87 : decode cX8_init 87 = .ok (.putfield 42, 3) := by decide +kernel
theorem dX8_init_90 : decode cX8_init 90 = .ok (.return_, 1) := by decide +kernel
theorem dX8_prepare_0 : decode cX8_prepare 0 = .ok (.aload_n 3, 1) := by decide +kernel
theorem dX8_prepare_1 : decode cX8_prepare 1 = .ok (.iconst 0, 1) := by decide +kernel
theorem dX8_prepare_2 : decode cX8_prepare 2 = .ok (.aload_n 0, 1) := by decide +kernel
theorem dX8_prepare_3 : decode cX8_prepare 3 = .ok (.getfield 9, 3) := by decide +kernel
theorem dX8_prepare_6 : decode cX8_prepare 6 = .ok (.iconst 0, 1) := by decide +kernel
theorem dX8_prepare_7 : decode cX8_prepare 7 = .ok (.bipush 13, 2) := by decide +kernel
theorem dX8_prepare_9 : decode cX8_prepare 9 = .ok (.invokestatic 45, 3) := by decide +kernel
theorem dX8_prepare_12 : decode cX8_prepare 12 = .ok (.aload_n 0, 1) := by decide +kernel
theorem dX8_prepare_13 : decode cX8_prepare 13 = .ok (.sipush 1000, 3) := by decide +kernel
theorem dX8_prepare_16 : decode cX8_prepare 16 = .ok (.putfield 51, 3) := by decide +kernel
theorem dX8_prepare_19 : decode cX8_prepare 19 = .ok (.aload_n 0, 1) := by decide +kernel
theorem dX8_prepare_20 : decode cX8_prepare 20 = .ok (.iconst 0, 1) := by decide +kernel
theorem dX8_prepare_21 : decode cX8_prepare 21 = .ok (.putfield 55, 3) := by decide +kernel
theorem dX8_prepare_24 : decode cX8_prepare 24 = .ok (.aload_n 0, 1) := by decide +kernel
theorem dX8_prepare_25 : decode cX8_prepare 25 = .ok (.iconst 0, 1) := by decide +kernel
theorem dX8_prepare_26 : decode cX8_prepare 26 = .ok (.putfield 58, 3) := by decide +kernel
theorem dX8_prepare_29 : decode cX8_prepare 29 = .ok (.iconst 0, 1) := by decide +kernel
theorem dX8_prepare_30 : decode cX8_prepare 30 = .ok (.istore 4, 2) := by decide +kernel
theorem dX8_prepare_32 : decode cX8_prepare 32 = .ok (.iload 4, 2) := by decide +kernel
theorem dX8_prepare_34 : decode cX8_prepare 34 = .ok (.sipush 256, 3) := by decide +kernel
theorem dX8_prepare_37 : decode cX8_prepare 37 = .ok (.if_icmp .ge 73, 3) := by decide +kernel
theorem dX8_prepare_40 : decode cX8_prepare 40 = .ok (.sipush 255, 3) := by decide +kernel
theorem dX8_prepare_43 : decode cX8_prepare 43 = .ok (.iload 4, 2) := by decide +kernel
theorem dX8_prepare_45 : decode cX8_prepare 45 = .ok (.sipush 167, 3) := by decide +kernel
theorem dX8_prepare_48 : decode cX8_prepare 48 = .ok (.imul, 1) := by decide +kernel
theorem dX8_prepare_49 : decode cX8_prepare 49 = .ok (.isub, 1) := by decide +kernel
theorem dX8_prepare_50 : decode cX8_prepare 50 = .ok (.sipush 255, 3) := by decide +kernel
theorem dX8_prepare_53 : decode cX8_prepare 53 = .ok (.iand, 1) := by decide +kernel
theorem dX8_prepare_54 : decode cX8_prepare 54 = .ok (.i2l, 1) := by decide +kernel
theorem dX8_prepare_55 : decode cX8_prepare 55 = .ok (.lstore 5, 2) := by decide +kernel
theorem dX8_prepare_57 : decode cX8_prepare 57 = .ok (.aload_n 1, 1) := by decide +kernel
theorem dX8_prepare_58 : decode cX8_prepare 58 = .ok (.lload 5, 2) := by decide +kernel
theorem dX8_prepare_60 : decode cX8_prepare 60 = .ok (.invokevirtual 61, 3) := by decide +kernel
theorem dX8_prepare_63 : decode cX8_prepare 63 = .ok (.ifCond .eq 41, 3) := by decide +kernel
theorem dX8_prepare_66 : decode cX8_prepare 66 = .ok (.aload_n 0, 1) := by decide +kernel
theorem dX8_prepare_67 : decode cX8_prepare 67 = .ok (.getfield 21, 3) := by decide +kernel
theorem dX8_prepare_70 : decode cX8_prepare 70 = .ok (.iconst 0, 1) := by decide +kernel
theorem dX8_prepare_71 : decode cX8_prepare 71 = .ok (.aaload, 1) := by decide +kernel
theorem dX8_prepare_72 : decode cX8_prepare 72 = .ok (.aload_n 0, 1) := by decide +kernel
theorem dX8_prepare_73 : decode cX8_prepare 73 = .ok (.getfield 58, 3) := by decide +kernel
theorem dX8_prepare_76 : decode cX8_prepare 76 = .ok (.lload 5, 2) := by decide +kernel
theorem dX8_prepare_78 : decode cX8_prepare 78 = .ok (.lastore, 1) := by decide +kernel
theorem dX8_prepare_79 : decode cX8_prepare 79 = .ok (.aload_n 0, 1) := by decide +kernel
theorem dX8_prepare_80 : decode cX8_prepare 80 = .ok (.getfield 15, 3) := by decide +kernel
theorem dX8_prepare_83 : decode cX8_prepare 83 = .ok (.aload_n 0, 1) := by decide +kernel
theorem dX8_prepare_84 : decode cX8_prepare 84 = .ok (.getfield 58, 3) := by decide +kernel
theorem dX8_prepare_87 : decode cX8_prepare 87 = .ok (.aload_n 1, 1) := by decide +kernel
theorem dX8_prepare_88 : decode cX8_prepare 88 = .ok (.lload 5, 2) := by decide +kernel
theorem dX8_prepare_90 : decode cX8_prepare 90 = .ok (.invokevirtual 67, 3) := by decide +kernel
theorem dX8_prepare_93 : decode cX8_prepare 93 = .ok (.lastore, 1) := by decide +kernel
theorem dX8_prepare_94 : decode cX8_prepare 94 = .ok (.aload_n 0, 1) := by decide +kernel
theorem dX8_prepare_95 : decode cX8_prepare 95 = .ok (.dup, 1) := by decide +kernel
theorem dX8_prepare_96 : decode cX8_prepare 96 = .ok (.getfield 58, 3) := by decide +kernel
theorem dX8_prepare_99 : decode cX8_prepare 99 = .ok (.iconst 1, 1) := by decide +kernel
theorem dX8_prepare_100 : decode cX8_prepare 100 = .ok (.iadd, 1) := by decide +kernel
theorem dX8_prepare_101 : decode cX8_prepare 101 = .ok (.putfield 58, 3) := by decide +kernel
theorem dX8_prepare_104 : decode cX8_prepare 104 = .ok (.iinc 4 1, 3) := by decide +kernel
theorem dX8_prepare_107 : decode cX8_prepare 107 = .ok (.goto (-75), 3) := by decide +kernel
theorem dX8_prepare_110 : decode cX8_prepare 110 = .ok (.aload_n 0, 1) := by decide +kernel
theorem dX8_prepare_111 : decode cX8_prepare 111 = .ok (.getfield 24, 3) := by decide +kernel
theorem dX8_prepare_114 : decode cX8_prepare 114 = .ok (.iconst 0, 1) := by decide +kernel
theorem dX8_prepare_115 : decode cX8_prepare 115 = .ok (.aload_n 0, 1) := by decide +kernel
theorem dX8_prepare_116 : decode cX8_prepare 116 = .ok (.getfield 58, 3) := by decide +kernel
theorem dX8_prepare_119 : decode cX8_prepare 119 = .ok (.iastore, 1) := by decide +kernel
theorem dX8_prepare_120 : decode cX8_prepare 120 = .ok (.aload_n 0, 1) := by decide +kernel
theorem dX8_prepare_121 : decode cX8_prepare 121 = .ok (.aload_n 2, 1) := by decide +kernel
theorem dX8_prepare_122 : decode cX8_prepare 122 = .ok (.invokevirtual 71, 3) := by decide +kernel
theorem dX8_prepare_125 : decode cX8_prepare 125 = .ok (.return_, 1) := by decide +kernel
theorem dX8_listChoices_0 : decode cX8_listChoices 0 = .ok (.aload_n 0, 1) := by decide +kernel
theorem dX8_listChoices_1 : decode cX8_listChoices 1 = .ok (.iconst 0, 1) := by decide +kernel
theorem dX8_listChoices_2 : decode cX8_listChoices 2 = .ok (.putfield 75, 3) := by decide +kernel
theorem dX8_listChoices_5 : decode cX8_listChoices 5 = .ok (.iconst 0, 1) := by decide +kernel
theorem dX8_listChoices_6 : decode cX8_listChoices 6 = .ok (.istore_n 2, 1) := by decide +kernel
theorem dX8_listChoices_7 : decode cX8_listChoices 7 = .ok (.iload_n 2, 1) := by decide +kernel
theorem dX8_listChoices_8 : decode cX8_listChoices 8 = .ok (.bipush 13, 2) := by decide +kernel
theorem dX8_listChoices_10 : decode cX8_listChoices 10 = .ok (.if_icmp .ge 71, 3) := by decide +kernel
theorem dX8_listChoices_13 : decode cX8_listChoices 13 = .ok (.iconst 0, 1) := by decide +kernel
theorem dX8_listChoices_14 : decode cX8_listChoices 14 = .ok (.istore_n 3, 1) := by decide +kernel
theorem dX8_listChoices_15 : decode cX8_listChoices 15 = .ok (.iload_n 3, 1) := by decide +kernel
theorem dX8_listChoices_16 : decode cX8_listChoices 16 = .ok (.iconst 3, 1) := by decide +kernel
theorem dX8_listChoices_17 : decode cX8_listChoices 17 = .ok (.if_icmp .ge 58, 3) := by decide +kernel
theorem dX8_listChoices_20 : decode cX8_listChoices 20 = .ok (.iload_n 2, 1) := by decide +kernel
theorem dX8_listChoices_21 : decode cX8_listChoices 21 = .ok (.invokestatic 78, 3) := by decide +kernel
theorem dX8_listChoices_24 : decode cX8_listChoices 24 = .ok (.ifCond .eq 38, 3) := by decide +kernel
theorem dX8_listChoices_27 : decode cX8_listChoices 27 = .ok (.iconst 0, 1) := by decide +kernel
theorem dX8_listChoices_28 : decode cX8_listChoices 28 = .ok (.istore 4, 2) := by decide +kernel
theorem dX8_listChoices_30 : decode cX8_listChoices 30 = .ok (.iload 4, 2) := by decide +kernel
theorem dX8_listChoices_32 : decode cX8_listChoices 32 = .ok (.iconst 3, 1) := by decide +kernel
theorem dX8_listChoices_33 : decode cX8_listChoices 33 = .ok (.if_icmp .ge 26, 3) := by decide +kernel
theorem dX8_listChoices_36 : decode cX8_listChoices 36 = .ok (.aload_n 0, 1) := by decide +kernel
theorem dX8_listChoices_37 : decode cX8_listChoices 37 = .ok (.iload_n 2, 1) := by decide +kernel
theorem dX8_listChoices_38 : decode cX8_listChoices 38 = .ok (.iload_n 3, 1) := by decide +kernel
theorem dX8_listChoices_39 : decode cX8_listChoices 39 = .ok (.iload 4, 2) := by decide +kernel
theorem dX8_listChoices_41 : decode cX8_listChoices 41 = .ok (.i2l, 1) := by decide +kernel
theorem dX8_listChoices_42 : decode cX8_listChoices 42 = .ok (.iconst 1, 1) := by decide +kernel
theorem dX8_listChoices_43 : decode cX8_listChoices 43 = .ok (.iload_n 3, 1) := by decide +kernel
theorem dX8_listChoices_44 : decode cX8_listChoices 44 = .ok (.ishl, 1) := by decide +kernel
theorem dX8_listChoices_45 : decode cX8_listChoices 45 = .ok (.iconst 1, 1) := by decide +kernel
theorem dX8_listChoices_46 : decode cX8_listChoices 46 = .ok (.iload 4, 2) := by decide +kernel
theorem dX8_listChoices_48 : decode cX8_listChoices 48 = .ok (.ishl, 1) := by decide +kernel
theorem dX8_listChoices_49 : decode cX8_listChoices 49 = .ok (.ior, 1) := by decide +kernel
theorem dX8_listChoices_50 : decode cX8_listChoices 50 = .ok (.invokevirtual 84, 3) := by decide +kernel
theorem dX8_listChoices_53 : decode cX8_listChoices 53 = .ok (.iinc 4 1, 3) := by decide +kernel
theorem dX8_listChoices_56 : decode cX8_listChoices 56 = .ok (.goto (-26), 3) := by decide +kernel
theorem dX8_listChoices_59 : decode cX8_listChoices 59 = .ok (.goto 10, 3) := by decide +kernel
theorem dX8_listChoices_62 : decode cX8_listChoices 62 = .ok (.aload_n 0, 1) := by decide +kernel
theorem dX8_listChoices_63 : decode cX8_listChoices 63 = .ok (.iload_n 2, 1) := by decide +kernel
theorem dX8_listChoices_64 : decode cX8_listChoices 64 = .ok (.iload_n 3, 1) := by decide +kernel
theorem dX8_listChoices_65 : decode cX8_listChoices 65 = .ok (.aload_n 1, 1) := by decide +kernel
theorem dX8_listChoices_66 : decode cX8_listChoices 66 = .ok (.invokevirtual 88, 3) := by decide +kernel
theorem dX8_listChoices_69 : decode cX8_listChoices 69 = .ok (.iinc 3 1, 3) := by decide +kernel
theorem dX8_listChoices_72 : decode cX8_listChoices 72 = .ok (.goto (-57), 3) := by decide +kernel
theorem dX8_listChoices_75 : decode cX8_listChoices 75 = .ok (.iinc 2 1, 3) := by decide +kernel
theorem dX8_listChoices_78 : decode cX8_listChoices 78 = .ok (.goto (-71), 3) := by decide +kernel
theorem dX8_listChoices_81 : decode cX8_listChoices 81 = .ok (.return_, 1) := by decide +kernel
theorem dX8_listTold_0 : decode cX8_listTold 0 = .ok (.iconst 0, 1) := by decide +kernel
theorem dX8_listTold_1 : decode cX8_listTold 1 = .ok (.istore 4, 2) := by decide +kernel
theorem dX8_listTold_3 : decode cX8_listTold 3 = .ok (.iload 4, 2) := by decide +kernel
theorem dX8_listTold_5 : decode cX8_listTold 5 = .ok (.iconst 4, 1) := by decide +kernel
theorem dX8_listTold_6 : decode cX8_listTold 6 = .ok (.if_icmp .ge 71, 3) := by decide +kernel
theorem dX8_listTold_9 : decode cX8_listTold 9 = .ok (.aload_n 3, 1) := by decide +kernel
theorem dX8_listTold_10 : decode cX8_listTold 10 = .ok (.iload 4, 2) := by decide +kernel
theorem dX8_listTold_12 : decode cX8_listTold 12 = .ok (.laload, 1) := by decide +kernel
theorem dX8_listTold_13 : decode cX8_listTold 13 = .ok (.bipush 8, 2) := by decide +kernel
theorem dX8_listTold_15 : decode cX8_listTold 15 = .ok (.invokestatic 92, 3) := by decide +kernel
theorem dX8_listTold_18 : decode cX8_listTold 18 = .ok (.land, 1) := by decide +kernel
theorem dX8_listTold_19 : decode cX8_listTold 19 = .ok (.lstore 5, 2) := by decide +kernel
theorem dX8_listTold_21 : decode cX8_listTold 21 = .ok (.iload_n 1, 1) := by decide +kernel
theorem dX8_listTold_22 : decode cX8_listTold 22 = .ok (.invokestatic 98, 3) := by decide +kernel
theorem dX8_listTold_25 : decode cX8_listTold 25 = .ok (.ifCond .eq 12, 3) := by decide +kernel
theorem dX8_listTold_28 : decode cX8_listTold 28 = .ok (.lload 5, 2) := by decide +kernel
theorem dX8_listTold_30 : decode cX8_listTold 30 = .ok (.ldc2_w 101, 3) := by decide +kernel
theorem dX8_listTold_33 : decode cX8_listTold 33 = .ok (.lcmp, 1) := by decide +kernel
theorem dX8_listTold_34 : decode cX8_listTold 34 = .ok (.ifCond .ge 7, 3) := by decide +kernel
theorem dX8_listTold_37 : decode cX8_listTold 37 = .ok (.iconst 1, 1) := by decide +kernel
theorem dX8_listTold_38 : decode cX8_listTold 38 = .ok (.goto 4, 3) := by decide +kernel
theorem dX8_listTold_41 : decode cX8_listTold 41 = .ok (.iconst 0, 1) := by decide +kernel
theorem dX8_listTold_42 : decode cX8_listTold 42 = .ok (.istore 7, 2) := by decide +kernel
theorem dX8_listTold_44 : decode cX8_listTold 44 = .ok (.iload 7, 2) := by decide +kernel
theorem dX8_listTold_46 : decode cX8_listTold 46 = .ok (.ifCond .eq 25, 3) := by decide +kernel
theorem dX8_listTold_49 : decode cX8_listTold 49 = .ok (.aload_n 3, 1) := by decide +kernel
theorem dX8_listTold_50 : decode cX8_listTold 50 = .ok (.iload 4, 2) := by decide +kernel
theorem dX8_listTold_52 : decode cX8_listTold 52 = .ok (.lload 5, 2) := by decide +kernel
theorem dX8_listTold_54 : decode cX8_listTold 54 = .ok (.invokestatic 103, 3) := by decide +kernel
theorem dX8_listTold_57 : decode cX8_listTold 57 = .ok (.ifCond .ne 14, 3) := by decide +kernel
theorem dX8_listTold_60 : decode cX8_listTold 60 = .ok (.aload_n 0, 1) := by decide +kernel
theorem dX8_listTold_61 : decode cX8_listTold 61 = .ok (.iload_n 1, 1) := by decide +kernel
theorem dX8_listTold_62 : decode cX8_listTold 62 = .ok (.iload_n 2, 1) := by decide +kernel
theorem dX8_listTold_63 : decode cX8_listTold 63 = .ok (.lload 5, 2) := by decide +kernel
theorem dX8_listTold_65 : decode cX8_listTold 65 = .ok (.iconst 1, 1) := by decide +kernel
theorem dX8_listTold_66 : decode cX8_listTold 66 = .ok (.iload_n 2, 1) := by decide +kernel
theorem dX8_listTold_67 : decode cX8_listTold 67 = .ok (.ishl, 1) := by decide +kernel
theorem dX8_listTold_68 : decode cX8_listTold 68 = .ok (.invokevirtual 84, 3) := by decide +kernel
theorem dX8_listTold_71 : decode cX8_listTold 71 = .ok (.iinc 4 1, 3) := by decide +kernel
theorem dX8_listTold_74 : decode cX8_listTold 74 = .ok (.goto (-71), 3) := by decide +kernel
theorem dX8_listTold_77 : decode cX8_listTold 77 = .ok (.return_, 1) := by decide +kernel
theorem dX8_stoodBefore_0 : decode cX8_stoodBefore 0 = .ok (.iconst 0, 1) := by decide +kernel
theorem dX8_stoodBefore_1 : decode cX8_stoodBefore 1 = .ok (.istore 4, 2) := by decide +kernel
theorem dX8_stoodBefore_3 : decode cX8_stoodBefore 3 = .ok (.iload 4, 2) := by decide +kernel
theorem dX8_stoodBefore_5 : decode cX8_stoodBefore 5 = .ok (.iload_n 1, 1) := by decide +kernel
theorem dX8_stoodBefore_6 : decode cX8_stoodBefore 6 = .ok (.if_icmp .ge 26, 3) := by decide +kernel
theorem dX8_stoodBefore_9 : decode cX8_stoodBefore 9 = .ok (.aload_n 0, 1) := by decide +kernel
theorem dX8_stoodBefore_10 : decode cX8_stoodBefore 10 = .ok (.iload 4, 2) := by decide +kernel
theorem dX8_stoodBefore_12 : decode cX8_stoodBefore 12 = .ok (.laload, 1) := by decide +kernel
theorem dX8_stoodBefore_13 : decode cX8_stoodBefore 13 = .ok (.bipush 8, 2) := by decide +kernel
theorem dX8_stoodBefore_15 : decode cX8_stoodBefore 15 = .ok (.invokestatic 92, 3) := by decide +kernel
theorem dX8_stoodBefore_18 : decode cX8_stoodBefore 18 = .ok (.land, 1) := by decide +kernel
theorem dX8_stoodBefore_19 : decode cX8_stoodBefore 19 = .ok (.lload_n 2, 1) := by decide +kernel
theorem dX8_stoodBefore_20 : decode cX8_stoodBefore 20 = .ok (.lcmp, 1) := by decide +kernel
theorem dX8_stoodBefore_21 : decode cX8_stoodBefore 21 = .ok (.ifCond .ne 5, 3) := by decide +kernel
theorem dX8_stoodBefore_24 : decode cX8_stoodBefore 24 = .ok (.iconst 1, 1) := by decide +kernel
theorem dX8_stoodBefore_25 : decode cX8_stoodBefore 25 = .ok (.ireturn, 1) := by decide +kernel
theorem dX8_stoodBefore_26 : decode cX8_stoodBefore 26 = .ok (.iinc 4 1, 3) := by decide +kernel
theorem dX8_stoodBefore_29 : decode cX8_stoodBefore 29 = .ok (.goto (-26), 3) := by decide +kernel
theorem dX8_stoodBefore_32 : decode cX8_stoodBefore 32 = .ok (.iconst 0, 1) := by decide +kernel
theorem dX8_stoodBefore_33 : decode cX8_stoodBefore 33 = .ok (.ireturn, 1) := by decide +kernel
theorem dX8_addChoice_0 : decode cX8_addChoice 0 = .ok (.aload_n 0, 1) := by decide +kernel
theorem dX8_addChoice_1 : decode cX8_addChoice 1 = .ok (.getfield 75, 3) := by decide +kernel
theorem dX8_addChoice_4 : decode cX8_addChoice 4 = .ok (.sipush 144, 3) := by decide +kernel
theorem dX8_addChoice_7 : decode cX8_addChoice 7 = .ok (.if_icmp .ge 54, 3) := by decide +kernel
theorem dX8_addChoice_10 : decode cX8_addChoice 10 = .ok (.aload_n 0, 1) := by decide +kernel
theorem dX8_addChoice_11 : decode cX8_addChoice 11 = .ok (.getfield 27, 3) := by decide +kernel
theorem dX8_addChoice_14 : decode cX8_addChoice 14 = .ok (.aload_n 0, 1) := by decide +kernel
theorem dX8_addChoice_15 : decode cX8_addChoice 15 = .ok (.getfield 75, 3) := by decide +kernel
theorem dX8_addChoice_18 : decode cX8_addChoice 18 = .ok (.iload_n 1, 1) := by decide +kernel
theorem dX8_addChoice_19 : decode cX8_addChoice 19 = .ok (.iastore, 1) := by decide +kernel
theorem dX8_addChoice_20 : decode cX8_addChoice 20 = .ok (.aload_n 0, 1) := by decide +kernel
theorem dX8_addChoice_21 : decode cX8_addChoice 21 = .ok (.getfield 30, 3) := by decide +kernel
theorem dX8_addChoice_24 : decode cX8_addChoice 24 = .ok (.aload_n 0, 1) := by decide +kernel
theorem dX8_addChoice_25 : decode cX8_addChoice 25 = .ok (.getfield 75, 3) := by decide +kernel
theorem dX8_addChoice_28 : decode cX8_addChoice 28 = .ok (.iload_n 2, 1) := by decide +kernel
theorem dX8_addChoice_29 : decode cX8_addChoice 29 = .ok (.iastore, 1) := by decide +kernel
theorem dX8_addChoice_30 : decode cX8_addChoice 30 = .ok (.aload_n 0, 1) := by decide +kernel
theorem dX8_addChoice_31 : decode cX8_addChoice 31 = .ok (.getfield 33, 3) := by decide +kernel
theorem dX8_addChoice_34 : decode cX8_addChoice 34 = .ok (.aload_n 0, 1) := by decide +kernel
theorem dX8_addChoice_35 : decode cX8_addChoice 35 = .ok (.getfield 75, 3) := by decide +kernel
theorem dX8_addChoice_38 : decode cX8_addChoice 38 = .ok (.lload_n 3, 1) := by decide +kernel
theorem dX8_addChoice_39 : decode cX8_addChoice 39 = .ok (.lastore, 1) := by decide +kernel
theorem dX8_addChoice_40 : decode cX8_addChoice 40 = .ok (.aload_n 0, 1) := by decide +kernel
theorem dX8_addChoice_41 : decode cX8_addChoice 41 = .ok (.getfield 36, 3) := by decide +kernel
theorem dX8_addChoice_44 : decode cX8_addChoice 44 = .ok (.aload_n 0, 1) := by decide +kernel
theorem dX8_addChoice_45 : decode cX8_addChoice 45 = .ok (.getfield 75, 3) := by decide +kernel
theorem dX8_addChoice_48 : decode cX8_addChoice 48 = .ok (.iload 5, 2) := by decide +kernel
theorem dX8_addChoice_50 : decode cX8_addChoice 50 = .ok (.iastore, 1) := by decide +kernel
theorem dX8_addChoice_51 : decode cX8_addChoice 51 = .ok (.aload_n 0, 1) := by decide +kernel
theorem dX8_addChoice_52 : decode cX8_addChoice 52 = .ok (.dup, 1) := by decide +kernel
theorem dX8_addChoice_53 : decode cX8_addChoice 53 = .ok (.getfield 75, 3) := by decide +kernel
theorem dX8_addChoice_56 : decode cX8_addChoice 56 = .ok (.iconst 1, 1) := by decide +kernel
theorem dX8_addChoice_57 : decode cX8_addChoice 57 = .ok (.iadd, 1) := by decide +kernel
theorem dX8_addChoice_58 : decode cX8_addChoice 58 = .ok (.putfield 75, 3) := by decide +kernel
theorem dX8_addChoice_61 : decode cX8_addChoice 61 = .ok (.return_, 1) := by decide +kernel
theorem dX8_extend_0 : decode cX8_extend 0 = .ok (.iload_n 2, 1) := by decide +kernel
theorem dX8_extend_1 : decode cX8_extend 1 = .ok (.iconst 3, 1) := by decide +kernel
theorem dX8_extend_2 : decode cX8_extend 2 = .ok (.if_icmp .ge 8, 3) := by decide +kernel
theorem dX8_extend_5 : decode cX8_extend 5 = .ok (.iload_n 2, 1) := by decide +kernel
theorem dX8_extend_6 : decode cX8_extend 6 = .ok (.iload_n 1, 1) := by decide +kernel
theorem dX8_extend_7 : decode cX8_extend 7 = .ok (.if_icmp .lt 4, 3) := by decide +kernel
theorem dX8_extend_10 : decode cX8_extend 10 = .ok (.return_, 1) := by decide +kernel
theorem dX8_extend_11 : decode cX8_extend 11 = .ok (.iload_n 1, 1) := by decide +kernel
theorem dX8_extend_12 : decode cX8_extend 12 = .ok (.iload_n 2, 1) := by decide +kernel
theorem dX8_extend_13 : decode cX8_extend 13 = .ok (.isub, 1) := by decide +kernel
theorem dX8_extend_14 : decode cX8_extend 14 = .ok (.iconst 1, 1) := by decide +kernel
theorem dX8_extend_15 : decode cX8_extend 15 = .ok (.isub, 1) := by decide +kernel
theorem dX8_extend_16 : decode cX8_extend 16 = .ok (.istore 5, 2) := by decide +kernel
theorem dX8_extend_18 : decode cX8_extend 18 = .ok (.iconst 0, 1) := by decide +kernel
theorem dX8_extend_19 : decode cX8_extend 19 = .ok (.istore 6, 2) := by decide +kernel
theorem dX8_extend_21 : decode cX8_extend 21 = .ok (.iload 6, 2) := by decide +kernel
theorem dX8_extend_23 : decode cX8_extend 23 = .ok (.aload_n 0, 1) := by decide +kernel
theorem dX8_extend_24 : decode cX8_extend 24 = .ok (.getfield 75, 3) := by decide +kernel
theorem dX8_extend_27 : decode cX8_extend 27 = .ok (.if_icmp .ge 131, 3) := by decide +kernel
theorem dX8_extend_30 : decode cX8_extend 30 = .ok (.iload_n 3, 1) := by decide +kernel
theorem dX8_extend_31 : decode cX8_extend 31 = .ok (.aload_n 0, 1) := by decide +kernel
theorem dX8_extend_32 : decode cX8_extend 32 = .ok (.getfield 9, 3) := by decide +kernel
theorem dX8_extend_35 : decode cX8_extend 35 = .ok (.aload_n 0, 1) := by decide +kernel
theorem dX8_extend_36 : decode cX8_extend 36 = .ok (.getfield 27, 3) := by decide +kernel
theorem dX8_extend_39 : decode cX8_extend 39 = .ok (.iload 6, 2) := by decide +kernel
theorem dX8_extend_41 : decode cX8_extend 41 = .ok (.iaload, 1) := by decide +kernel
theorem dX8_extend_42 : decode cX8_extend 42 = .ok (.iaload, 1) := by decide +kernel
theorem dX8_extend_43 : decode cX8_extend 43 = .ok (.iadd, 1) := by decide +kernel
theorem dX8_extend_44 : decode cX8_extend 44 = .ok (.istore 7, 2) := by decide +kernel
theorem dX8_extend_46 : decode cX8_extend 46 = .ok (.aload_n 0, 1) := by decide +kernel
theorem dX8_extend_47 : decode cX8_extend 47 = .ok (.getfield 36, 3) := by decide +kernel
theorem dX8_extend_50 : decode cX8_extend 50 = .ok (.iload 6, 2) := by decide +kernel
theorem dX8_extend_52 : decode cX8_extend 52 = .ok (.iaload, 1) := by decide +kernel
theorem dX8_extend_53 : decode cX8_extend 53 = .ok (.iload_n 2, 1) := by decide +kernel
theorem dX8_extend_54 : decode cX8_extend 54 = .ok (.iconst 1, 1) := by decide +kernel
theorem dX8_extend_55 : decode cX8_extend 55 = .ok (.iadd, 1) := by decide +kernel
theorem dX8_extend_56 : decode cX8_extend 56 = .ok (.ishr, 1) := by decide +kernel
theorem dX8_extend_57 : decode cX8_extend 57 = .ok (.ifCond .ne 95, 3) := by decide +kernel
theorem dX8_extend_60 : decode cX8_extend 60 = .ok (.iload 7, 2) := by decide +kernel
theorem dX8_extend_62 : decode cX8_extend 62 = .ok (.iload 5, 2) := by decide +kernel
theorem dX8_extend_64 : decode cX8_extend 64 = .ok (.iadd, 1) := by decide +kernel
theorem dX8_extend_65 : decode cX8_extend 65 = .ok (.aload_n 0, 1) := by decide +kernel
theorem dX8_extend_66 : decode cX8_extend 66 = .ok (.getfield 51, 3) := by decide +kernel
theorem dX8_extend_69 : decode cX8_extend 69 = .ok (.if_icmp .lt 6, 3) := by decide +kernel
theorem dX8_extend_72 : decode cX8_extend 72 = .ok (.goto 80, 3) := by decide +kernel
theorem dX8_extend_75 : decode cX8_extend 75 = .ok (.iload 4, 2) := by decide +kernel
theorem dX8_extend_77 : decode cX8_extend 77 = .ok (.aload_n 0, 1) := by decide +kernel
theorem dX8_extend_78 : decode cX8_extend 78 = .ok (.getfield 36, 3) := by decide +kernel
theorem dX8_extend_81 : decode cX8_extend 81 = .ok (.iload 6, 2) := by decide +kernel
theorem dX8_extend_83 : decode cX8_extend 83 = .ok (.iaload, 1) := by decide +kernel
theorem dX8_extend_84 : decode cX8_extend 84 = .ok (.iconst (-1), 1) := by decide +kernel
theorem dX8_extend_85 : decode cX8_extend 85 = .ok (.ixor, 1) := by decide +kernel
theorem dX8_extend_86 : decode cX8_extend 86 = .ok (.iand, 1) := by decide +kernel
theorem dX8_extend_87 : decode cX8_extend 87 = .ok (.istore 8, 2) := by decide +kernel
theorem dX8_extend_89 : decode cX8_extend 89 = .ok (.aload_n 0, 1) := by decide +kernel
theorem dX8_extend_90 : decode cX8_extend 90 = .ok (.getfield 39, 3) := by decide +kernel
theorem dX8_extend_93 : decode cX8_extend 93 = .ok (.iload_n 2, 1) := by decide +kernel
theorem dX8_extend_94 : decode cX8_extend 94 = .ok (.iload 6, 2) := by decide +kernel
theorem dX8_extend_96 : decode cX8_extend 96 = .ok (.iastore, 1) := by decide +kernel
theorem dX8_extend_97 : decode cX8_extend 97 = .ok (.iload 5, 2) := by decide +kernel
theorem dX8_extend_99 : decode cX8_extend 99 = .ok (.ifCond .le 33, 3) := by decide +kernel
theorem dX8_extend_102 : decode cX8_extend 102 = .ok (.aload_n 0, 1) := by decide +kernel
theorem dX8_extend_103 : decode cX8_extend 103 = .ok (.getfield 24, 3) := by decide +kernel
theorem dX8_extend_106 : decode cX8_extend 106 = .ok (.iload_n 2, 1) := by decide +kernel
theorem dX8_extend_107 : decode cX8_extend 107 = .ok (.iconst 1, 1) := by decide +kernel
theorem dX8_extend_108 : decode cX8_extend 108 = .ok (.iadd, 1) := by decide +kernel
theorem dX8_extend_109 : decode cX8_extend 109 = .ok (.iconst 0, 1) := by decide +kernel
theorem dX8_extend_110 : decode cX8_extend 110 = .ok (.iastore, 1) := by decide +kernel
theorem dX8_extend_111 : decode cX8_extend 111 = .ok (.aload_n 0, 1) := by decide +kernel
theorem dX8_extend_112 : decode cX8_extend 112 = .ok (.iload_n 1, 1) := by decide +kernel
theorem dX8_extend_113 : decode cX8_extend 113 = .ok (.iload_n 2, 1) := by decide +kernel
theorem dX8_extend_114 : decode cX8_extend 114 = .ok (.iconst 1, 1) := by decide +kernel
theorem dX8_extend_115 : decode cX8_extend 115 = .ok (.iadd, 1) := by decide +kernel
theorem dX8_extend_116 : decode cX8_extend 116 = .ok (.iload 7, 2) := by decide +kernel
theorem dX8_extend_118 : decode cX8_extend 118 = .ok (.iload 8, 2) := by decide +kernel
theorem dX8_extend_120 : decode cX8_extend 120 = .ok (.iconst 1, 1) := by decide +kernel
theorem dX8_extend_121 : decode cX8_extend 121 = .ok (.iload_n 2, 1) := by decide +kernel
theorem dX8_extend_122 : decode cX8_extend 122 = .ok (.iconst 1, 1) := by decide +kernel
theorem dX8_extend_123 : decode cX8_extend 123 = .ok (.iadd, 1) := by decide +kernel
theorem dX8_extend_124 : decode cX8_extend 124 = .ok (.ishl, 1) := by decide +kernel
theorem dX8_extend_125 : decode cX8_extend 125 = .ok (.ior, 1) := by decide +kernel
theorem dX8_extend_126 : decode cX8_extend 126 = .ok (.invokevirtual 107, 3) := by decide +kernel
theorem dX8_extend_129 : decode cX8_extend 129 = .ok (.goto 23, 3) := by decide +kernel
theorem dX8_extend_132 : decode cX8_extend 132 = .ok (.iload 8, 2) := by decide +kernel
theorem dX8_extend_134 : decode cX8_extend 134 = .ok (.ifCond .ne 18, 3) := by decide +kernel
theorem dX8_extend_137 : decode cX8_extend 137 = .ok (.aload_n 0, 1) := by decide +kernel
theorem dX8_extend_138 : decode cX8_extend 138 = .ok (.iload_n 2, 1) := by decide +kernel
theorem dX8_extend_139 : decode cX8_extend 139 = .ok (.invokevirtual 111, 3) := by decide +kernel
theorem dX8_extend_142 : decode cX8_extend 142 = .ok (.ifCond .eq 10, 3) := by decide +kernel
theorem dX8_extend_145 : decode cX8_extend 145 = .ok (.aload_n 0, 1) := by decide +kernel
theorem dX8_extend_146 : decode cX8_extend 146 = .ok (.iload_n 1, 1) := by decide +kernel
theorem dX8_extend_147 : decode cX8_extend 147 = .ok (.iload 7, 2) := by decide +kernel
theorem dX8_extend_149 : decode cX8_extend 149 = .ok (.invokevirtual 114, 3) := by decide +kernel
theorem dX8_extend_152 : decode cX8_extend 152 = .ok (.iinc 6 1, 3) := by decide +kernel
theorem dX8_extend_155 : decode cX8_extend 155 = .ok (.goto (-134), 3) := by decide +kernel
theorem dX8_extend_158 : decode cX8_extend 158 = .ok (.return_, 1) := by decide +kernel
theorem dX8_isRight_0 : decode cX8_isRight 0 = .ok (.iconst 0, 1) := by decide +kernel
theorem dX8_isRight_1 : decode cX8_isRight 1 = .ok (.istore_n 2, 1) := by decide +kernel
theorem dX8_isRight_2 : decode cX8_isRight 2 = .ok (.iload_n 2, 1) := by decide +kernel
theorem dX8_isRight_3 : decode cX8_isRight 3 = .ok (.aload_n 0, 1) := by decide +kernel
theorem dX8_isRight_4 : decode cX8_isRight 4 = .ok (.getfield 58, 3) := by decide +kernel
theorem dX8_isRight_7 : decode cX8_isRight 7 = .ok (.if_icmp .ge 48, 3) := by decide +kernel
theorem dX8_isRight_10 : decode cX8_isRight 10 = .ok (.aload_n 0, 1) := by decide +kernel
theorem dX8_isRight_11 : decode cX8_isRight 11 = .ok (.getfield 24, 3) := by decide +kernel
theorem dX8_isRight_14 : decode cX8_isRight 14 = .ok (.iload_n 1, 1) := by decide +kernel
theorem dX8_isRight_15 : decode cX8_isRight 15 = .ok (.iaload, 1) := by decide +kernel
theorem dX8_isRight_16 : decode cX8_isRight 16 = .ok (.iload_n 2, 1) := by decide +kernel
theorem dX8_isRight_17 : decode cX8_isRight 17 = .ok (.if_icmp .gt 9, 3) := by decide +kernel
theorem dX8_isRight_20 : decode cX8_isRight 20 = .ok (.aload_n 0, 1) := by decide +kernel
theorem dX8_isRight_21 : decode cX8_isRight 21 = .ok (.iload_n 1, 1) := by decide +kernel
theorem dX8_isRight_22 : decode cX8_isRight 22 = .ok (.iload_n 2, 1) := by decide +kernel
theorem dX8_isRight_23 : decode cX8_isRight 23 = .ok (.invokevirtual 118, 3) := by decide +kernel
theorem dX8_isRight_26 : decode cX8_isRight 26 = .ok (.aload_n 0, 1) := by decide +kernel
theorem dX8_isRight_27 : decode cX8_isRight 27 = .ok (.aload_n 0, 1) := by decide +kernel
theorem dX8_isRight_28 : decode cX8_isRight 28 = .ok (.getfield 39, 3) := by decide +kernel
theorem dX8_isRight_31 : decode cX8_isRight 31 = .ok (.iload_n 1, 1) := by decide +kernel
theorem dX8_isRight_32 : decode cX8_isRight 32 = .ok (.iaload, 1) := by decide +kernel
theorem dX8_isRight_33 : decode cX8_isRight 33 = .ok (.iload_n 2, 1) := by decide +kernel
theorem dX8_isRight_34 : decode cX8_isRight 34 = .ok (.invokevirtual 121, 3) := by decide +kernel
theorem dX8_isRight_37 : decode cX8_isRight 37 = .ok (.aload_n 0, 1) := by decide +kernel
theorem dX8_isRight_38 : decode cX8_isRight 38 = .ok (.getfield 15, 3) := by decide +kernel
theorem dX8_isRight_41 : decode cX8_isRight 41 = .ok (.iload_n 2, 1) := by decide +kernel
theorem dX8_isRight_42 : decode cX8_isRight 42 = .ok (.laload, 1) := by decide +kernel
theorem dX8_isRight_43 : decode cX8_isRight 43 = .ok (.lcmp, 1) := by decide +kernel
theorem dX8_isRight_44 : decode cX8_isRight 44 = .ok (.ifCond .eq 5, 3) := by decide +kernel
theorem dX8_isRight_47 : decode cX8_isRight 47 = .ok (.iconst 0, 1) := by decide +kernel
theorem dX8_isRight_48 : decode cX8_isRight 48 = .ok (.ireturn, 1) := by decide +kernel
theorem dX8_isRight_49 : decode cX8_isRight 49 = .ok (.iinc 2 1, 3) := by decide +kernel
theorem dX8_isRight_52 : decode cX8_isRight 52 = .ok (.goto (-50), 3) := by decide +kernel
theorem dX8_isRight_55 : decode cX8_isRight 55 = .ok (.iconst 1, 1) := by decide +kernel
theorem dX8_isRight_56 : decode cX8_isRight 56 = .ok (.ireturn, 1) := by decide +kernel
theorem dX8_fillUpTo_0 : decode cX8_fillUpTo 0 = .ok (.iconst 1, 1) := by decide +kernel
theorem dX8_fillUpTo_1 : decode cX8_fillUpTo 1 = .ok (.istore_n 3, 1) := by decide +kernel
theorem dX8_fillUpTo_2 : decode cX8_fillUpTo 2 = .ok (.iload_n 3, 1) := by decide +kernel
theorem dX8_fillUpTo_3 : decode cX8_fillUpTo 3 = .ok (.iload_n 1, 1) := by decide +kernel
theorem dX8_fillUpTo_4 : decode cX8_fillUpTo 4 = .ok (.if_icmp .gt 62, 3) := by decide +kernel
theorem dX8_fillUpTo_7 : decode cX8_fillUpTo 7 = .ok (.aload_n 0, 1) := by decide +kernel
theorem dX8_fillUpTo_8 : decode cX8_fillUpTo 8 = .ok (.getfield 24, 3) := by decide +kernel
theorem dX8_fillUpTo_11 : decode cX8_fillUpTo 11 = .ok (.iload_n 3, 1) := by decide +kernel
theorem dX8_fillUpTo_12 : decode cX8_fillUpTo 12 = .ok (.iaload, 1) := by decide +kernel
theorem dX8_fillUpTo_13 : decode cX8_fillUpTo 13 = .ok (.istore 4, 2) := by decide +kernel
theorem dX8_fillUpTo_15 : decode cX8_fillUpTo 15 = .ok (.iload 4, 2) := by decide +kernel
theorem dX8_fillUpTo_17 : decode cX8_fillUpTo 17 = .ok (.iload_n 2, 1) := by decide +kernel
theorem dX8_fillUpTo_18 : decode cX8_fillUpTo 18 = .ok (.if_icmp .gt 42, 3) := by decide +kernel
theorem dX8_fillUpTo_21 : decode cX8_fillUpTo 21 = .ok (.aload_n 0, 1) := by decide +kernel
theorem dX8_fillUpTo_22 : decode cX8_fillUpTo 22 = .ok (.getfield 21, 3) := by decide +kernel
theorem dX8_fillUpTo_25 : decode cX8_fillUpTo 25 = .ok (.iload_n 3, 1) := by decide +kernel
theorem dX8_fillUpTo_26 : decode cX8_fillUpTo 26 = .ok (.aaload, 1) := by decide +kernel
theorem dX8_fillUpTo_27 : decode cX8_fillUpTo 27 = .ok (.iload 4, 2) := by decide +kernel
theorem dX8_fillUpTo_29 : decode cX8_fillUpTo 29 = .ok (.aload_n 0, 1) := by decide +kernel
theorem dX8_fillUpTo_30 : decode cX8_fillUpTo 30 = .ok (.aload_n 0, 1) := by decide +kernel
theorem dX8_fillUpTo_31 : decode cX8_fillUpTo 31 = .ok (.getfield 39, 3) := by decide +kernel
theorem dX8_fillUpTo_34 : decode cX8_fillUpTo 34 = .ok (.iload_n 3, 1) := by decide +kernel
theorem dX8_fillUpTo_35 : decode cX8_fillUpTo 35 = .ok (.iconst 1, 1) := by decide +kernel
theorem dX8_fillUpTo_36 : decode cX8_fillUpTo 36 = .ok (.isub, 1) := by decide +kernel
theorem dX8_fillUpTo_37 : decode cX8_fillUpTo 37 = .ok (.iaload, 1) := by decide +kernel
theorem dX8_fillUpTo_38 : decode cX8_fillUpTo 38 = .ok (.iload 4, 2) := by decide +kernel
theorem dX8_fillUpTo_40 : decode cX8_fillUpTo 40 = .ok (.invokevirtual 121, 3) := by decide +kernel
theorem dX8_fillUpTo_43 : decode cX8_fillUpTo 43 = .ok (.lastore, 1) := by decide +kernel
theorem dX8_fillUpTo_44 : decode cX8_fillUpTo 44 = .ok (.aload_n 0, 1) := by decide +kernel
theorem dX8_fillUpTo_45 : decode cX8_fillUpTo 45 = .ok (.getfield 24, 3) := by decide +kernel
theorem dX8_fillUpTo_48 : decode cX8_fillUpTo 48 = .ok (.iload_n 3, 1) := by decide +kernel
theorem dX8_fillUpTo_49 : decode cX8_fillUpTo 49 = .ok (.iload 4, 2) := by decide +kernel
theorem dX8_fillUpTo_51 : decode cX8_fillUpTo 51 = .ok (.iconst 1, 1) := by decide +kernel
theorem dX8_fillUpTo_52 : decode cX8_fillUpTo 52 = .ok (.iadd, 1) := by decide +kernel
theorem dX8_fillUpTo_53 : decode cX8_fillUpTo 53 = .ok (.iastore, 1) := by decide +kernel
theorem dX8_fillUpTo_54 : decode cX8_fillUpTo 54 = .ok (.iinc 4 1, 3) := by decide +kernel
theorem dX8_fillUpTo_57 : decode cX8_fillUpTo 57 = .ok (.goto (-42), 3) := by decide +kernel
theorem dX8_fillUpTo_60 : decode cX8_fillUpTo 60 = .ok (.iinc 3 1, 3) := by decide +kernel
theorem dX8_fillUpTo_63 : decode cX8_fillUpTo 63 = .ok (.goto (-61), 3) := by decide +kernel
theorem dX8_fillUpTo_66 : decode cX8_fillUpTo 66 = .ok (.return_, 1) := by decide +kernel
theorem dX8_valueOf_0 : decode cX8_valueOf 0 = .ok (.aload_n 0, 1) := by decide +kernel
theorem dX8_valueOf_1 : decode cX8_valueOf 1 = .ok (.getfield 27, 3) := by decide +kernel
theorem dX8_valueOf_4 : decode cX8_valueOf 4 = .ok (.iload_n 1, 1) := by decide +kernel
theorem dX8_valueOf_5 : decode cX8_valueOf 5 = .ok (.iaload, 1) := by decide +kernel
theorem dX8_valueOf_6 : decode cX8_valueOf 6 = .ok (.istore_n 3, 1) := by decide +kernel
theorem dX8_valueOf_7 : decode cX8_valueOf 7 = .ok (.aload_n 0, 1) := by decide +kernel
theorem dX8_valueOf_8 : decode cX8_valueOf 8 = .ok (.getfield 33, 3) := by decide +kernel
theorem dX8_valueOf_11 : decode cX8_valueOf 11 = .ok (.iload_n 1, 1) := by decide +kernel
theorem dX8_valueOf_12 : decode cX8_valueOf 12 = .ok (.laload, 1) := by decide +kernel
theorem dX8_valueOf_13 : decode cX8_valueOf 13 = .ok (.lstore 4, 2) := by decide +kernel
theorem dX8_valueOf_15 : decode cX8_valueOf 15 = .ok (.iload_n 3, 1) := by decide +kernel
theorem dX8_valueOf_16 : decode cX8_valueOf 16 = .ok (.invokestatic 78, 3) := by decide +kernel
theorem dX8_valueOf_19 : decode cX8_valueOf 19 = .ok (.ifCond .eq 15, 3) := by decide +kernel
theorem dX8_valueOf_22 : decode cX8_valueOf 22 = .ok (.aload_n 0, 1) := by decide +kernel
theorem dX8_valueOf_23 : decode cX8_valueOf 23 = .ok (.getfield 21, 3) := by decide +kernel
theorem dX8_valueOf_26 : decode cX8_valueOf 26 = .ok (.lload 4, 2) := by decide +kernel
theorem dX8_valueOf_28 : decode cX8_valueOf 28 = .ok (.l2i, 1) := by decide +kernel
theorem dX8_valueOf_29 : decode cX8_valueOf 29 = .ok (.aaload, 1) := by decide +kernel
theorem dX8_valueOf_30 : decode cX8_valueOf 30 = .ok (.iload_n 2, 1) := by decide +kernel
theorem dX8_valueOf_31 : decode cX8_valueOf 31 = .ok (.laload, 1) := by decide +kernel
theorem dX8_valueOf_32 : decode cX8_valueOf 32 = .ok (.lstore 4, 2) := by decide +kernel
theorem dX8_valueOf_34 : decode cX8_valueOf 34 = .ok (.bipush 8, 2) := by decide +kernel
theorem dX8_valueOf_36 : decode cX8_valueOf 36 = .ok (.iload_n 3, 1) := by decide +kernel
theorem dX8_valueOf_37 : decode cX8_valueOf 37 = .ok (.aload_n 0, 1) := by decide +kernel
theorem dX8_valueOf_38 : decode cX8_valueOf 38 = .ok (.getfield 21, 3) := by decide +kernel
theorem dX8_valueOf_41 : decode cX8_valueOf 41 = .ok (.aload_n 0, 1) := by decide +kernel
theorem dX8_valueOf_42 : decode cX8_valueOf 42 = .ok (.getfield 30, 3) := by decide +kernel
theorem dX8_valueOf_45 : decode cX8_valueOf 45 = .ok (.iload_n 1, 1) := by decide +kernel
theorem dX8_valueOf_46 : decode cX8_valueOf 46 = .ok (.iaload, 1) := by decide +kernel
theorem dX8_valueOf_47 : decode cX8_valueOf 47 = .ok (.aaload, 1) := by decide +kernel
theorem dX8_valueOf_48 : decode cX8_valueOf 48 = .ok (.iload_n 2, 1) := by decide +kernel
theorem dX8_valueOf_49 : decode cX8_valueOf 49 = .ok (.laload, 1) := by decide +kernel
theorem dX8_valueOf_50 : decode cX8_valueOf 50 = .ok (.lload 4, 2) := by decide +kernel
theorem dX8_valueOf_52 : decode cX8_valueOf 52 = .ok (.invokestatic 125, 3) := by decide +kernel
theorem dX8_valueOf_55 : decode cX8_valueOf 55 = .ok (.lreturn, 1) := by decide +kernel
theorem dX8_keep_0 : decode cX8_keep 0 = .ok (.aload_n 0, 1) := by decide +kernel
theorem dX8_keep_1 : decode cX8_keep 1 = .ok (.iload_n 2, 1) := by decide +kernel
theorem dX8_keep_2 : decode cX8_keep 2 = .ok (.putfield 51, 3) := by decide +kernel
theorem dX8_keep_5 : decode cX8_keep 5 = .ok (.aload_n 0, 1) := by decide +kernel
theorem dX8_keep_6 : decode cX8_keep 6 = .ok (.iload_n 1, 1) := by decide +kernel
theorem dX8_keep_7 : decode cX8_keep 7 = .ok (.putfield 55, 3) := by decide +kernel
theorem dX8_keep_10 : decode cX8_keep 10 = .ok (.iconst 0, 1) := by decide +kernel
theorem dX8_keep_11 : decode cX8_keep 11 = .ok (.istore_n 3, 1) := by decide +kernel
theorem dX8_keep_12 : decode cX8_keep 12 = .ok (.iload_n 3, 1) := by decide +kernel
theorem dX8_keep_13 : decode cX8_keep 13 = .ok (.iload_n 1, 1) := by decide +kernel
theorem dX8_keep_14 : decode cX8_keep 14 = .ok (.if_icmp .ge 21, 3) := by decide +kernel
theorem dX8_keep_17 : decode cX8_keep 17 = .ok (.aload_n 0, 1) := by decide +kernel
theorem dX8_keep_18 : decode cX8_keep 18 = .ok (.getfield 42, 3) := by decide +kernel
theorem dX8_keep_21 : decode cX8_keep 21 = .ok (.iload_n 3, 1) := by decide +kernel
theorem dX8_keep_22 : decode cX8_keep 22 = .ok (.aload_n 0, 1) := by decide +kernel
theorem dX8_keep_23 : decode cX8_keep 23 = .ok (.getfield 39, 3) := by decide +kernel
theorem dX8_keep_26 : decode cX8_keep 26 = .ok (.iload_n 3, 1) := by decide +kernel
theorem dX8_keep_27 : decode cX8_keep 27 = .ok (.iaload, 1) := by decide +kernel
theorem dX8_keep_28 : decode cX8_keep 28 = .ok (.iastore, 1) := by decide +kernel
theorem dX8_keep_29 : decode cX8_keep 29 = .ok (.iinc 3 1, 3) := by decide +kernel
theorem dX8_keep_32 : decode cX8_keep 32 = .ok (.goto (-20), 3) := by decide +kernel
theorem dX8_keep_35 : decode cX8_keep 35 = .ok (.return_, 1) := by decide +kernel
theorem dX8_writeBest_0 : decode cX8_writeBest 0 = .ok (.iconst 0, 1) := by decide +kernel
theorem dX8_writeBest_1 : decode cX8_writeBest 1 = .ok (.istore_n 2, 1) := by decide +kernel
theorem dX8_writeBest_2 : decode cX8_writeBest 2 = .ok (.iload_n 2, 1) := by decide +kernel
theorem dX8_writeBest_3 : decode cX8_writeBest 3 = .ok (.aload_n 0, 1) := by decide +kernel
theorem dX8_writeBest_4 : decode cX8_writeBest 4 = .ok (.getfield 55, 3) := by decide +kernel
theorem dX8_writeBest_7 : decode cX8_writeBest 7 = .ok (.if_icmp .ge 39, 3) := by decide +kernel
theorem dX8_writeBest_10 : decode cX8_writeBest 10 = .ok (.aload_n 0, 1) := by decide +kernel
theorem dX8_writeBest_11 : decode cX8_writeBest 11 = .ok (.getfield 42, 3) := by decide +kernel
theorem dX8_writeBest_14 : decode cX8_writeBest 14 = .ok (.iload_n 2, 1) := by decide +kernel
theorem dX8_writeBest_15 : decode cX8_writeBest 15 = .ok (.iaload, 1) := by decide +kernel
theorem dX8_writeBest_16 : decode cX8_writeBest 16 = .ok (.istore_n 3, 1) := by decide +kernel
theorem dX8_writeBest_17 : decode cX8_writeBest 17 = .ok (.aload_n 1, 1) := by decide +kernel
theorem dX8_writeBest_18 : decode cX8_writeBest 18 = .ok (.aload_n 0, 1) := by decide +kernel
theorem dX8_writeBest_19 : decode cX8_writeBest 19 = .ok (.getfield 27, 3) := by decide +kernel
theorem dX8_writeBest_22 : decode cX8_writeBest 22 = .ok (.iload_n 3, 1) := by decide +kernel
theorem dX8_writeBest_23 : decode cX8_writeBest 23 = .ok (.iaload, 1) := by decide +kernel
theorem dX8_writeBest_24 : decode cX8_writeBest 24 = .ok (.aload_n 0, 1) := by decide +kernel
theorem dX8_writeBest_25 : decode cX8_writeBest 25 = .ok (.getfield 30, 3) := by decide +kernel
theorem dX8_writeBest_28 : decode cX8_writeBest 28 = .ok (.iload_n 3, 1) := by decide +kernel
theorem dX8_writeBest_29 : decode cX8_writeBest 29 = .ok (.iaload, 1) := by decide +kernel
theorem dX8_writeBest_30 : decode cX8_writeBest 30 = .ok (.aload_n 0, 1) := by decide +kernel
theorem dX8_writeBest_31 : decode cX8_writeBest 31 = .ok (.getfield 33, 3) := by decide +kernel
theorem dX8_writeBest_34 : decode cX8_writeBest 34 = .ok (.iload_n 3, 1) := by decide +kernel
theorem dX8_writeBest_35 : decode cX8_writeBest 35 = .ok (.laload, 1) := by decide +kernel
theorem dX8_writeBest_36 : decode cX8_writeBest 36 = .ok (.invokevirtual 129, 3) := by decide +kernel
theorem dX8_writeBest_39 : decode cX8_writeBest 39 = .ok (.pop, 1) := by decide +kernel
theorem dX8_writeBest_40 : decode cX8_writeBest 40 = .ok (.iinc 2 1, 3) := by decide +kernel
theorem dX8_writeBest_43 : decode cX8_writeBest 43 = .ok (.goto (-41), 3) := by decide +kernel
theorem dX8_writeBest_46 : decode cX8_writeBest 46 = .ok (.return_, 1) := by decide +kernel
theorem dX9_init_0 : decode cX9_init 0 = .ok (.aload_n 0, 1) := by decide +kernel
theorem dX9_init_1 : decode cX9_init 1 = .ok (.invokespecial 1, 3) := by decide +kernel
theorem dX9_init_4 : decode cX9_init 4 = .ok (.aload_n 0, 1) := by decide +kernel
theorem dX9_init_5 : decode cX9_init 5 = .ok (.aload_n 1, 1) := by decide +kernel
theorem dX9_init_6 : decode cX9_init 6 = .ok (.putfield 7, 3) := by decide +kernel
theorem dX9_init_9 : decode cX9_init 9 = .ok (.aload_n 0, 1) := by decide +kernel
theorem dX9_init_10 : decode cX9_init 10 = .ok (.aload_n 2, 1) := by decide +kernel
theorem dX9_init_11 : decode cX9_init 11 = .ok (.putfield 13, 3) := by decide +kernel
theorem dX9_init_14 : decode cX9_init 14 = .ok (.aload_n 0, 1) := by decide +kernel
theorem dX9_init_15 : decode cX9_init 15 = .ok (.aload_n 2, 1) := by decide +kernel
theorem dX9_init_16 : decode cX9_init 16 = .ok (.getfield 17, 3) := by decide +kernel
theorem dX9_init_19 : decode cX9_init 19 = .ok (.putfield 23, 3) := by decide +kernel
theorem dX9_init_22 : decode cX9_init 22 = .ok (.aload_n 2, 1) := by decide +kernel
theorem dX9_init_23 : decode cX9_init 23 = .ok (.getfield 24, 3) := by decide +kernel
theorem dX9_init_26 : decode cX9_init 26 = .ok (.lstore_n 3, 1) := by decide +kernel
theorem dX9_init_27 : decode cX9_init 27 = .ok (.aload_n 0, 1) := by decide +kernel
theorem dX9_init_28 : decode cX9_init 28 = .ok (.aload_n 2, 1) := by decide +kernel
theorem dX9_init_29 : decode cX9_init 29 = .ok (.getfield 28, 3) := by decide +kernel
theorem dX9_init_32 : decode cX9_init 32 = .ok (.ifCond .eq 14, 3) := by decide +kernel
theorem dX9_init_35 : decode cX9_init 35 = .ok (.lload_n 3, 1) := by decide +kernel
theorem dX9_init_36 : decode cX9_init 36 = .ok (.lconst 0, 1) := by decide +kernel
theorem dX9_init_37 : decode cX9_init 37 = .ok (.lcmp, 1) := by decide +kernel
theorem dX9_init_38 : decode cX9_init 38 = .ok (.ifCond .ge 8, 3) := by decide +kernel
theorem dX9_init_41 : decode cX9_init 41 = .ok (.lload_n 3, 1) := by decide +kernel
theorem dX9_init_42 : decode cX9_init 42 = .ok (.lneg, 1) := by decide +kernel
theorem dX9_init_43 : decode cX9_init 43 = .ok (.goto 4, 3) := by decide +kernel
theorem dX9_init_46 : decode cX9_init 46 = .ok (.lload_n 3, 1) := by decide +kernel
theorem dX9_init_47 : decode cX9_init 47 = .ok (.aload_n 0, 1) := by decide +kernel
theorem dX9_init_48 : decode cX9_init 48 = .ok (.getfield 23, 3) := by decide +kernel
theorem dX9_init_51 : decode cX9_init 51 = .ok (.invokestatic 32, 3) := by decide +kernel
theorem dX9_init_54 : decode cX9_init 54 = .ok (.land, 1) := by decide +kernel
theorem dX9_init_55 : decode cX9_init 55 = .ok (.putfield 38, 3) := by decide +kernel
theorem dX9_init_58 : decode cX9_init 58 = .ok (.aload_n 0, 1) := by decide +kernel
theorem dX9_init_59 : decode cX9_init 59 = .ok (.aload_n 0, 1) := by decide +kernel
theorem dX9_init_60 : decode cX9_init 60 = .ok (.getfield 38, 3) := by decide +kernel
theorem dX9_init_63 : decode cX9_init 63 = .ok (.aload_n 0, 1) := by decide +kernel
theorem dX9_init_64 : decode cX9_init 64 = .ok (.getfield 38, 3) := by decide +kernel
theorem dX9_init_67 : decode cX9_init 67 = .ok (.lneg, 1) := by decide +kernel
theorem dX9_init_68 : decode cX9_init 68 = .ok (.land, 1) := by decide +kernel
theorem dX9_init_69 : decode cX9_init 69 = .ok (.lconst 1, 1) := by decide +kernel
theorem dX9_init_70 : decode cX9_init 70 = .ok (.lsub, 1) := by decide +kernel
theorem dX9_init_71 : decode cX9_init 71 = .ok (.invokestatic 41, 3) := by decide +kernel
theorem dX9_init_74 : decode cX9_init 74 = .ok (.putfield 47, 3) := by decide +kernel
theorem dX9_init_77 : decode cX9_init 77 = .ok (.aload_n 0, 1) := by decide +kernel
theorem dX9_init_78 : decode cX9_init 78 = .ok (.aload_n 0, 1) := by decide +kernel
theorem dX9_init_79 : decode cX9_init 79 = .ok (.getfield 38, 3) := by decide +kernel
theorem dX9_init_82 : decode cX9_init 82 = .ok (.aload_n 0, 1) := by decide +kernel
theorem dX9_init_83 : decode cX9_init 83 = .ok (.getfield 47, 3) := by decide +kernel
theorem dX9_init_86 : decode cX9_init 86 = .ok (.lushr, 1) := by decide +kernel
theorem dX9_init_87 : decode cX9_init 87 = .ok (.putfield 50, 3) := by decide +kernel
theorem dX9_init_90 : decode cX9_init 90 = .ok (.return_, 1) := by decide +kernel
theorem dX9_writePlain_0 : decode cX9_writePlain 0 = .ok (.aload_n 0, 1) := by decide +kernel
theorem dX9_writePlain_1 : decode cX9_writePlain 1 = .ok (.getfield 13, 3) := by decide +kernel
theorem dX9_writePlain_4 : decode cX9_writePlain 4 = .ok (.getfield 53, 3) := by decide +kernel
theorem dX9_writePlain_7 : decode cX9_writePlain 7 = .ok (.tableswitch 111 2 5 #[29, 29, 70, 78], 29) := by decide +kernel
theorem dX9_writePlain_36 : decode cX9_writePlain 36 = .ok (.aload_n 0, 1) := by decide +kernel
theorem dX9_writePlain_37 : decode cX9_writePlain 37 = .ok (.getfield 50, 3) := by decide +kernel
theorem dX9_writePlain_40 : decode cX9_writePlain 40 = .ok (.lconst 1, 1) := by decide +kernel
theorem dX9_writePlain_41 : decode cX9_writePlain 41 = .ok (.lcmp, 1) := by decide +kernel
theorem dX9_writePlain_42 : decode cX9_writePlain 42 = .ok (.ifCond .ne 23, 3) := by decide +kernel
theorem dX9_writePlain_45 : decode cX9_writePlain 45 = .ok (.aload_n 0, 1) := by decide +kernel
theorem dX9_writePlain_46 : decode cX9_writePlain 46 = .ok (.getfield 7, 3) := by decide +kernel
theorem dX9_writePlain_49 : decode cX9_writePlain 49 = .ok (.bipush 9, 2) := by decide +kernel
theorem dX9_writePlain_51 : decode cX9_writePlain 51 = .ok (.iconst 0, 1) := by decide +kernel
theorem dX9_writePlain_52 : decode cX9_writePlain 52 = .ok (.aload_n 0, 1) := by decide +kernel
theorem dX9_writePlain_53 : decode cX9_writePlain 53 = .ok (.getfield 38, 3) := by decide +kernel
theorem dX9_writePlain_56 : decode cX9_writePlain 56 = .ok (.lconst 1, 1) := by decide +kernel
theorem dX9_writePlain_57 : decode cX9_writePlain 57 = .ok (.lsub, 1) := by decide +kernel
theorem dX9_writePlain_58 : decode cX9_writePlain 58 = .ok (.invokevirtual 56, 3) := by decide +kernel
theorem dX9_writePlain_61 : decode cX9_writePlain 61 = .ok (.pop, 1) := by decide +kernel
theorem dX9_writePlain_62 : decode cX9_writePlain 62 = .ok (.goto 62, 3) := by decide +kernel
theorem dX9_writePlain_65 : decode cX9_writePlain 65 = .ok (.aload_n 0, 1) := by decide +kernel
theorem dX9_writePlain_66 : decode cX9_writePlain 66 = .ok (.aload_n 0, 1) := by decide +kernel
theorem dX9_writePlain_67 : decode cX9_writePlain 67 = .ok (.iconst 0, 1) := by decide +kernel
theorem dX9_writePlain_68 : decode cX9_writePlain 68 = .ok (.invokevirtual 62, 3) := by decide +kernel
theorem dX9_writePlain_71 : decode cX9_writePlain 71 = .ok (.invokevirtual 66, 3) := by decide +kernel
theorem dX9_writePlain_74 : decode cX9_writePlain 74 = .ok (.goto 50, 3) := by decide +kernel
theorem dX9_writePlain_77 : decode cX9_writePlain 77 = .ok (.aload_n 0, 1) := by decide +kernel
theorem dX9_writePlain_78 : decode cX9_writePlain 78 = .ok (.iconst 0, 1) := by decide +kernel
theorem dX9_writePlain_79 : decode cX9_writePlain 79 = .ok (.invokevirtual 70, 3) := by decide +kernel
theorem dX9_writePlain_82 : decode cX9_writePlain 82 = .ok (.goto 42, 3) := by decide +kernel
theorem dX9_writePlain_85 : decode cX9_writePlain 85 = .ok (.aload_n 0, 1) := by decide +kernel
theorem dX9_writePlain_86 : decode cX9_writePlain 86 = .ok (.iconst 0, 1) := by decide +kernel
theorem dX9_writePlain_87 : decode cX9_writePlain 87 = .ok (.aload_n 0, 1) := by decide +kernel
theorem dX9_writePlain_88 : decode cX9_writePlain 88 = .ok (.getfield 50, 3) := by decide +kernel
theorem dX9_writePlain_91 : decode cX9_writePlain 91 = .ok (.lconst 1, 1) := by decide +kernel
theorem dX9_writePlain_92 : decode cX9_writePlain 92 = .ok (.lcmp, 1) := by decide +kernel
theorem dX9_writePlain_93 : decode cX9_writePlain 93 = .ok (.ifCond .ne 7, 3) := by decide +kernel
theorem dX9_writePlain_96 : decode cX9_writePlain 96 = .ok (.iconst 1, 1) := by decide +kernel
theorem dX9_writePlain_97 : decode cX9_writePlain 97 = .ok (.goto 4, 3) := by decide +kernel
theorem dX9_writePlain_100 : decode cX9_writePlain 100 = .ok (.iconst 0, 1) := by decide +kernel
theorem dX9_writePlain_101 : decode cX9_writePlain 101 = .ok (.aload_n 0, 1) := by decide +kernel
theorem dX9_writePlain_102 : decode cX9_writePlain 102 = .ok (.getfield 23, 3) := by decide +kernel
theorem dX9_writePlain_105 : decode cX9_writePlain 105 = .ok (.aload_n 0, 1) := by decide +kernel
theorem dX9_writePlain_106 : decode cX9_writePlain 106 = .ok (.getfield 50, 3) := by decide +kernel
theorem dX9_writePlain_109 : decode cX9_writePlain 109 = .ok (.invokestatic 73, 3) := by decide +kernel
theorem dX9_writePlain_112 : decode cX9_writePlain 112 = .ok (.invokevirtual 77, 3) := by decide +kernel
theorem dX9_writePlain_115 : decode cX9_writePlain 115 = .ok (.goto 9, 3) := by decide +kernel
theorem dX9_writePlain_118 : decode cX9_writePlain 118 = .ok (.aload_n 0, 1) := by decide +kernel
theorem dX9_writePlain_119 : decode cX9_writePlain 119 = .ok (.iconst 0, 1) := by decide +kernel
theorem dX9_writePlain_120 : decode cX9_writePlain 120 = .ok (.invokevirtual 62, 3) := by decide +kernel
theorem dX9_writePlain_123 : decode cX9_writePlain 123 = .ok (.pop, 1) := by decide +kernel
theorem dX9_writePlain_124 : decode cX9_writePlain 124 = .ok (.return_, 1) := by decide +kernel
theorem dX9_writeSigned_0 : decode cX9_writeSigned 0 = .ok (.aload_n 0, 1) := by decide +kernel
theorem dX9_writeSigned_1 : decode cX9_writeSigned 1 = .ok (.getfield 13, 3) := by decide +kernel
theorem dX9_writeSigned_4 : decode cX9_writeSigned 4 = .ok (.getfield 53, 3) := by decide +kernel
theorem dX9_writeSigned_7 : decode cX9_writeSigned 7 = .ok (.tableswitch 82 0 4 #[33, 41, 49, 60, 71], 33) := by decide +kernel
theorem dX9_writeSigned_40 : decode cX9_writeSigned 40 = .ok (.aload_n 0, 1) := by decide +kernel
theorem dX9_writeSigned_41 : decode cX9_writeSigned 41 = .ok (.invokevirtual 81, 3) := by decide +kernel
theorem dX9_writeSigned_44 : decode cX9_writeSigned 44 = .ok (.pop, 1) := by decide +kernel
theorem dX9_writeSigned_45 : decode cX9_writeSigned 45 = .ok (.goto 81, 3) := by decide +kernel
theorem dX9_writeSigned_48 : decode cX9_writeSigned 48 = .ok (.aload_n 0, 1) := by decide +kernel
theorem dX9_writeSigned_49 : decode cX9_writeSigned 49 = .ok (.invokevirtual 85, 3) := by decide +kernel
theorem dX9_writeSigned_52 : decode cX9_writeSigned 52 = .ok (.pop, 1) := by decide +kernel
theorem dX9_writeSigned_53 : decode cX9_writeSigned 53 = .ok (.goto 73, 3) := by decide +kernel
theorem dX9_writeSigned_56 : decode cX9_writeSigned 56 = .ok (.aload_n 0, 1) := by decide +kernel
theorem dX9_writeSigned_57 : decode cX9_writeSigned 57 = .ok (.aload_n 0, 1) := by decide +kernel
theorem dX9_writeSigned_58 : decode cX9_writeSigned 58 = .ok (.invokevirtual 81, 3) := by decide +kernel
theorem dX9_writeSigned_61 : decode cX9_writeSigned 61 = .ok (.invokevirtual 66, 3) := by decide +kernel
theorem dX9_writeSigned_64 : decode cX9_writeSigned 64 = .ok (.goto 62, 3) := by decide +kernel
theorem dX9_writeSigned_67 : decode cX9_writeSigned 67 = .ok (.aload_n 0, 1) := by decide +kernel
theorem dX9_writeSigned_68 : decode cX9_writeSigned 68 = .ok (.aload_n 0, 1) := by decide +kernel
theorem dX9_writeSigned_69 : decode cX9_writeSigned 69 = .ok (.invokevirtual 85, 3) := by decide +kernel
theorem dX9_writeSigned_72 : decode cX9_writeSigned 72 = .ok (.invokevirtual 66, 3) := by decide +kernel
theorem dX9_writeSigned_75 : decode cX9_writeSigned 75 = .ok (.goto 51, 3) := by decide +kernel
theorem dX9_writeSigned_78 : decode cX9_writeSigned 78 = .ok (.aload_n 0, 1) := by decide +kernel
theorem dX9_writeSigned_79 : decode cX9_writeSigned 79 = .ok (.aload_n 0, 1) := by decide +kernel
theorem dX9_writeSigned_80 : decode cX9_writeSigned 80 = .ok (.invokevirtual 88, 3) := by decide +kernel
theorem dX9_writeSigned_83 : decode cX9_writeSigned 83 = .ok (.invokevirtual 70, 3) := by decide +kernel
theorem dX9_writeSigned_86 : decode cX9_writeSigned 86 = .ok (.goto 40, 3) := by decide +kernel
theorem dX9_writeSigned_89 : decode cX9_writeSigned 89 = .ok (.aload_n 0, 1) := by decide +kernel
theorem dX9_writeSigned_90 : decode cX9_writeSigned 90 = .ok (.getfield 13, 3) := by decide +kernel
theorem dX9_writeSigned_93 : decode cX9_writeSigned 93 = .ok (.getfield 24, 3) := by decide +kernel
theorem dX9_writeSigned_96 : decode cX9_writeSigned 96 = .ok (.aload_n 0, 1) := by decide +kernel
theorem dX9_writeSigned_97 : decode cX9_writeSigned 97 = .ok (.getfield 47, 3) := by decide +kernel
theorem dX9_writeSigned_100 : decode cX9_writeSigned 100 = .ok (.lshr, 1) := by decide +kernel
theorem dX9_writeSigned_101 : decode cX9_writeSigned 101 = .ok (.lstore_n 1, 1) := by decide +kernel
theorem dX9_writeSigned_102 : decode cX9_writeSigned 102 = .ok (.aload_n 0, 1) := by decide +kernel
theorem dX9_writeSigned_103 : decode cX9_writeSigned 103 = .ok (.iconst 1, 1) := by decide +kernel
theorem dX9_writeSigned_104 : decode cX9_writeSigned 104 = .ok (.lload_n 1, 1) := by decide +kernel
theorem dX9_writeSigned_105 : decode cX9_writeSigned 105 = .ok (.lconst 1, 1) := by decide +kernel
theorem dX9_writeSigned_106 : decode cX9_writeSigned 106 = .ok (.lcmp, 1) := by decide +kernel
theorem dX9_writeSigned_107 : decode cX9_writeSigned 107 = .ok (.ifCond .ne 7, 3) := by decide +kernel
theorem dX9_writeSigned_110 : decode cX9_writeSigned 110 = .ok (.iconst 1, 1) := by decide +kernel
theorem dX9_writeSigned_111 : decode cX9_writeSigned 111 = .ok (.goto 4, 3) := by decide +kernel
theorem dX9_writeSigned_114 : decode cX9_writeSigned 114 = .ok (.iconst 0, 1) := by decide +kernel
theorem dX9_writeSigned_115 : decode cX9_writeSigned 115 = .ok (.aload_n 0, 1) := by decide +kernel
theorem dX9_writeSigned_116 : decode cX9_writeSigned 116 = .ok (.getfield 23, 3) := by decide +kernel
theorem dX9_writeSigned_119 : decode cX9_writeSigned 119 = .ok (.lload_n 1, 1) := by decide +kernel
theorem dX9_writeSigned_120 : decode cX9_writeSigned 120 = .ok (.invokestatic 73, 3) := by decide +kernel
theorem dX9_writeSigned_123 : decode cX9_writeSigned 123 = .ok (.invokevirtual 77, 3) := by decide +kernel
theorem dX9_writeSigned_126 : decode cX9_writeSigned 126 = .ok (.return_, 1) := by decide +kernel
theorem dX9_plainQuotient_0 : decode cX9_plainQuotient 0 = .ok (.aload_n 0, 1) := by decide +kernel
theorem dX9_plainQuotient_1 : decode cX9_plainQuotient 1 = .ok (.getfield 50, 3) := by decide +kernel
theorem dX9_plainQuotient_4 : decode cX9_plainQuotient 4 = .ok (.lconst 1, 1) := by decide +kernel
theorem dX9_plainQuotient_5 : decode cX9_plainQuotient 5 = .ok (.lcmp, 1) := by decide +kernel
theorem dX9_plainQuotient_6 : decode cX9_plainQuotient 6 = .ok (.ifCond .ne 18, 3) := by decide +kernel
theorem dX9_plainQuotient_9 : decode cX9_plainQuotient 9 = .ok (.aload_n 0, 1) := by decide +kernel
theorem dX9_plainQuotient_10 : decode cX9_plainQuotient 10 = .ok (.getfield 7, 3) := by decide +kernel
theorem dX9_plainQuotient_13 : decode cX9_plainQuotient 13 = .ok (.iconst 0, 1) := by decide +kernel
theorem dX9_plainQuotient_14 : decode cX9_plainQuotient 14 = .ok (.iload_n 1, 1) := by decide +kernel
theorem dX9_plainQuotient_15 : decode cX9_plainQuotient 15 = .ok (.aload_n 0, 1) := by decide +kernel
theorem dX9_plainQuotient_16 : decode cX9_plainQuotient 16 = .ok (.getfield 47, 3) := by decide +kernel
theorem dX9_plainQuotient_19 : decode cX9_plainQuotient 19 = .ok (.i2l, 1) := by decide +kernel
theorem dX9_plainQuotient_20 : decode cX9_plainQuotient 20 = .ok (.invokevirtual 56, 3) := by decide +kernel
theorem dX9_plainQuotient_23 : decode cX9_plainQuotient 23 = .ok (.ireturn, 1) := by decide +kernel
theorem dX9_plainQuotient_24 : decode cX9_plainQuotient 24 = .ok (.new 91, 3) := by decide +kernel
theorem dX9_plainQuotient_27 : decode cX9_plainQuotient 27 = .ok (.dup, 1) := by decide +kernel
theorem dX9_plainQuotient_28 : decode cX9_plainQuotient 28 = .ok (.aload_n 0, 1) := by decide +kernel
theorem dX9_plainQuotient_29 : decode cX9_plainQuotient 29 = .ok (.getfield 23, 3) := by decide +kernel
theorem dX9_plainQuotient_32 : decode cX9_plainQuotient 32 = .ok (.aload_n 0, 1) := by decide +kernel
theorem dX9_plainQuotient_33 : decode cX9_plainQuotient 33 = .ok (.getfield 38, 3) := by decide +kernel
theorem dX9_plainQuotient_36 : decode cX9_plainQuotient 36 = .ok (.iconst 0, 1) := by decide +kernel
theorem dX9_plainQuotient_37 : decode cX9_plainQuotient 37 = .ok (.invokespecial 93, 3) := by decide +kernel
theorem dX9_plainQuotient_40 : decode cX9_plainQuotient 40 = .ok (.astore_n 2, 1) := by decide +kernel
theorem dX9_plainQuotient_41 : decode cX9_plainQuotient 41 = .ok (.aload_n 0, 1) := by decide +kernel
theorem dX9_plainQuotient_42 : decode cX9_plainQuotient 42 = .ok (.getfield 7, 3) := by decide +kernel
theorem dX9_plainQuotient_45 : decode cX9_plainQuotient 45 = .ok (.iconst 2, 1) := by decide +kernel
theorem dX9_plainQuotient_46 : decode cX9_plainQuotient 46 = .ok (.iload_n 1, 1) := by decide +kernel
theorem dX9_plainQuotient_47 : decode cX9_plainQuotient 47 = .ok (.aload_n 2, 1) := by decide +kernel
theorem dX9_plainQuotient_48 : decode cX9_plainQuotient 48 = .ok (.getfield 96, 3) := by decide +kernel
theorem dX9_plainQuotient_51 : decode cX9_plainQuotient 51 = .ok (.invokevirtual 56, 3) := by decide +kernel
theorem dX9_plainQuotient_54 : decode cX9_plainQuotient 54 = .ok (.istore_n 3, 1) := by decide +kernel
theorem dX9_plainQuotient_55 : decode cX9_plainQuotient 55 = .ok (.aload_n 2, 1) := by decide +kernel
theorem dX9_plainQuotient_56 : decode cX9_plainQuotient 56 = .ok (.getfield 99, 3) := by decide +kernel
theorem dX9_plainQuotient_59 : decode cX9_plainQuotient 59 = .ok (.ifCond .ne 29, 3) := by decide +kernel
theorem dX9_plainQuotient_62 : decode cX9_plainQuotient 62 = .ok (.aload_n 2, 1) := by decide +kernel
theorem dX9_plainQuotient_63 : decode cX9_plainQuotient 63 = .ok (.getfield 102, 3) := by decide +kernel
theorem dX9_plainQuotient_66 : decode cX9_plainQuotient 66 = .ok (.ifCond .le 20, 3) := by decide +kernel
theorem dX9_plainQuotient_69 : decode cX9_plainQuotient 69 = .ok (.aload_n 0, 1) := by decide +kernel
theorem dX9_plainQuotient_70 : decode cX9_plainQuotient 70 = .ok (.getfield 7, 3) := by decide +kernel
theorem dX9_plainQuotient_73 : decode cX9_plainQuotient 73 = .ok (.iconst 0, 1) := by decide +kernel
theorem dX9_plainQuotient_74 : decode cX9_plainQuotient 74 = .ok (.iload_n 3, 1) := by decide +kernel
theorem dX9_plainQuotient_75 : decode cX9_plainQuotient 75 = .ok (.aload_n 2, 1) := by decide +kernel
theorem dX9_plainQuotient_76 : decode cX9_plainQuotient 76 = .ok (.getfield 102, 3) := by decide +kernel
theorem dX9_plainQuotient_79 : decode cX9_plainQuotient 79 = .ok (.i2l, 1) := by decide +kernel
theorem dX9_plainQuotient_80 : decode cX9_plainQuotient 80 = .ok (.invokevirtual 56, 3) := by decide +kernel
theorem dX9_plainQuotient_83 : decode cX9_plainQuotient 83 = .ok (.goto 4, 3) := by decide +kernel
theorem dX9_plainQuotient_86 : decode cX9_plainQuotient 86 = .ok (.iload_n 3, 1) := by decide +kernel
theorem dX9_plainQuotient_87 : decode cX9_plainQuotient 87 = .ok (.ireturn, 1) := by decide +kernel
theorem dX9_plainQuotient_88 : decode cX9_plainQuotient 88 = .ok (.aload_n 0, 1) := by decide +kernel
theorem dX9_plainQuotient_89 : decode cX9_plainQuotient 89 = .ok (.getfield 7, 3) := by decide +kernel
theorem dX9_plainQuotient_92 : decode cX9_plainQuotient 92 = .ok (.bipush 6, 2) := by decide +kernel
theorem dX9_plainQuotient_94 : decode cX9_plainQuotient 94 = .ok (.iload_n 1, 1) := by decide +kernel
theorem dX9_plainQuotient_95 : decode cX9_plainQuotient 95 = .ok (.iload_n 3, 1) := by decide +kernel
theorem dX9_plainQuotient_96 : decode cX9_plainQuotient 96 = .ok (.i2l, 1) := by decide +kernel
theorem dX9_plainQuotient_97 : decode cX9_plainQuotient 97 = .ok (.invokevirtual 56, 3) := by decide +kernel
theorem dX9_plainQuotient_100 : decode cX9_plainQuotient 100 = .ok (.istore 4, 2) := by decide +kernel
theorem dX9_plainQuotient_102 : decode cX9_plainQuotient 102 = .ok (.aload_n 0, 1) := by decide +kernel
theorem dX9_plainQuotient_103 : decode cX9_plainQuotient 103 = .ok (.getfield 7, 3) := by decide +kernel
theorem dX9_plainQuotient_106 : decode cX9_plainQuotient 106 = .ok (.iconst 0, 1) := by decide +kernel
theorem dX9_plainQuotient_107 : decode cX9_plainQuotient 107 = .ok (.iload 4, 2) := by decide +kernel
theorem dX9_plainQuotient_109 : decode cX9_plainQuotient 109 = .ok (.lconst 1, 1) := by decide +kernel
theorem dX9_plainQuotient_110 : decode cX9_plainQuotient 110 = .ok (.invokevirtual 56, 3) := by decide +kernel
theorem dX9_plainQuotient_113 : decode cX9_plainQuotient 113 = .ok (.istore 5, 2) := by decide +kernel
theorem dX9_plainQuotient_115 : decode cX9_plainQuotient 115 = .ok (.aload_n 0, 1) := by decide +kernel
theorem dX9_plainQuotient_116 : decode cX9_plainQuotient 116 = .ok (.getfield 7, 3) := by decide +kernel
theorem dX9_plainQuotient_119 : decode cX9_plainQuotient 119 = .ok (.iconst 5, 1) := by decide +kernel
theorem dX9_plainQuotient_120 : decode cX9_plainQuotient 120 = .ok (.iload 5, 2) := by decide +kernel
theorem dX9_plainQuotient_122 : decode cX9_plainQuotient 122 = .ok (.iload_n 3, 1) := by decide +kernel
theorem dX9_plainQuotient_123 : decode cX9_plainQuotient 123 = .ok (.i2l, 1) := by decide +kernel
theorem dX9_plainQuotient_124 : decode cX9_plainQuotient 124 = .ok (.invokevirtual 56, 3) := by decide +kernel
theorem dX9_plainQuotient_127 : decode cX9_plainQuotient 127 = .ok (.istore 6, 2) := by decide +kernel
theorem dX9_plainQuotient_129 : decode cX9_plainQuotient 129 = .ok (.aload_n 2, 1) := by decide +kernel
theorem dX9_plainQuotient_130 : decode cX9_plainQuotient 130 = .ok (.getfield 102, 3) := by decide +kernel
theorem dX9_plainQuotient_133 : decode cX9_plainQuotient 133 = .ok (.iconst 1, 1) := by decide +kernel
theorem dX9_plainQuotient_134 : decode cX9_plainQuotient 134 = .ok (.if_icmp .le 23, 3) := by decide +kernel
theorem dX9_plainQuotient_137 : decode cX9_plainQuotient 137 = .ok (.aload_n 0, 1) := by decide +kernel
theorem dX9_plainQuotient_138 : decode cX9_plainQuotient 138 = .ok (.getfield 7, 3) := by decide +kernel
theorem dX9_plainQuotient_141 : decode cX9_plainQuotient 141 = .ok (.iconst 0, 1) := by decide +kernel
theorem dX9_plainQuotient_142 : decode cX9_plainQuotient 142 = .ok (.iload 6, 2) := by decide +kernel
theorem dX9_plainQuotient_144 : decode cX9_plainQuotient 144 = .ok (.aload_n 2, 1) := by decide +kernel
theorem dX9_plainQuotient_145 : decode cX9_plainQuotient 145 = .ok (.getfield 102, 3) := by decide +kernel
theorem dX9_plainQuotient_148 : decode cX9_plainQuotient 148 = .ok (.iconst 1, 1) := by decide +kernel
theorem dX9_plainQuotient_149 : decode cX9_plainQuotient 149 = .ok (.isub, 1) := by decide +kernel
theorem dX9_plainQuotient_150 : decode cX9_plainQuotient 150 = .ok (.i2l, 1) := by decide +kernel
theorem dX9_plainQuotient_151 : decode cX9_plainQuotient 151 = .ok (.invokevirtual 56, 3) := by decide +kernel
theorem dX9_plainQuotient_154 : decode cX9_plainQuotient 154 = .ok (.goto 5, 3) := by decide +kernel
theorem dX9_plainQuotient_157 : decode cX9_plainQuotient 157 = .ok (.iload 6, 2) := by decide +kernel
theorem dX9_plainQuotient_159 : decode cX9_plainQuotient 159 = .ok (.ireturn, 1) := by decide +kernel
theorem dX9_signedQuotient_0 : decode cX9_signedQuotient 0 = .ok (.aload_n 0, 1) := by decide +kernel
theorem dX9_signedQuotient_1 : decode cX9_signedQuotient 1 = .ok (.getfield 38, 3) := by decide +kernel
theorem dX9_signedQuotient_4 : decode cX9_signedQuotient 4 = .ok (.lconst 1, 1) := by decide +kernel
theorem dX9_signedQuotient_5 : decode cX9_signedQuotient 5 = .ok (.lcmp, 1) := by decide +kernel
theorem dX9_signedQuotient_6 : decode cX9_signedQuotient 6 = .ok (.ifCond .ne 31, 3) := by decide +kernel
theorem dX9_signedQuotient_9 : decode cX9_signedQuotient 9 = .ok (.aload_n 0, 1) := by decide +kernel
theorem dX9_signedQuotient_10 : decode cX9_signedQuotient 10 = .ok (.getfield 7, 3) := by decide +kernel
theorem dX9_signedQuotient_13 : decode cX9_signedQuotient 13 = .ok (.aload_n 0, 1) := by decide +kernel
theorem dX9_signedQuotient_14 : decode cX9_signedQuotient 14 = .ok (.getfield 13, 3) := by decide +kernel
theorem dX9_signedQuotient_17 : decode cX9_signedQuotient 17 = .ok (.getfield 24, 3) := by decide +kernel
theorem dX9_signedQuotient_20 : decode cX9_signedQuotient 20 = .ok (.lconst 1, 1) := by decide +kernel
theorem dX9_signedQuotient_21 : decode cX9_signedQuotient 21 = .ok (.lcmp, 1) := by decide +kernel
theorem dX9_signedQuotient_22 : decode cX9_signedQuotient 22 = .ok (.ifCond .ne 7, 3) := by decide +kernel
theorem dX9_signedQuotient_25 : decode cX9_signedQuotient 25 = .ok (.iconst 0, 1) := by decide +kernel
theorem dX9_signedQuotient_26 : decode cX9_signedQuotient 26 = .ok (.goto 5, 3) := by decide +kernel
theorem dX9_signedQuotient_29 : decode cX9_signedQuotient 29 = .ok (.bipush 7, 2) := by decide +kernel
theorem dX9_signedQuotient_31 : decode cX9_signedQuotient 31 = .ok (.iconst 0, 1) := by decide +kernel
theorem dX9_signedQuotient_32 : decode cX9_signedQuotient 32 = .ok (.lconst 0, 1) := by decide +kernel
theorem dX9_signedQuotient_33 : decode cX9_signedQuotient 33 = .ok (.invokevirtual 56, 3) := by decide +kernel
theorem dX9_signedQuotient_36 : decode cX9_signedQuotient 36 = .ok (.ireturn, 1) := by decide +kernel
theorem dX9_signedQuotient_37 : decode cX9_signedQuotient 37 = .ok (.aload_n 0, 1) := by decide +kernel
theorem dX9_signedQuotient_38 : decode cX9_signedQuotient 38 = .ok (.getfield 50, 3) := by decide +kernel
theorem dX9_signedQuotient_41 : decode cX9_signedQuotient 41 = .ok (.lconst 1, 1) := by decide +kernel
theorem dX9_signedQuotient_42 : decode cX9_signedQuotient 42 = .ok (.lcmp, 1) := by decide +kernel
theorem dX9_signedQuotient_43 : decode cX9_signedQuotient 43 = .ok (.ifCond .ne 10, 3) := by decide +kernel
theorem dX9_signedQuotient_46 : decode cX9_signedQuotient 46 = .ok (.aload_n 0, 1) := by decide +kernel
theorem dX9_signedQuotient_47 : decode cX9_signedQuotient 47 = .ok (.invokevirtual 105, 3) := by decide +kernel
theorem dX9_signedQuotient_50 : decode cX9_signedQuotient 50 = .ok (.goto 7, 3) := by decide +kernel
theorem dX9_signedQuotient_53 : decode cX9_signedQuotient 53 = .ok (.aload_n 0, 1) := by decide +kernel
theorem dX9_signedQuotient_54 : decode cX9_signedQuotient 54 = .ok (.invokevirtual 108, 3) := by decide +kernel
theorem dX9_signedQuotient_57 : decode cX9_signedQuotient 57 = .ok (.istore_n 1, 1) := by decide +kernel
theorem dX9_signedQuotient_58 : decode cX9_signedQuotient 58 = .ok (.aload_n 0, 1) := by decide +kernel
theorem dX9_signedQuotient_59 : decode cX9_signedQuotient 59 = .ok (.getfield 13, 3) := by decide +kernel
theorem dX9_signedQuotient_62 : decode cX9_signedQuotient 62 = .ok (.getfield 24, 3) := by decide +kernel
theorem dX9_signedQuotient_65 : decode cX9_signedQuotient 65 = .ok (.lconst 0, 1) := by decide +kernel
theorem dX9_signedQuotient_66 : decode cX9_signedQuotient 66 = .ok (.lcmp, 1) := by decide +kernel
theorem dX9_signedQuotient_67 : decode cX9_signedQuotient 67 = .ok (.ifCond .ge 17, 3) := by decide +kernel
theorem dX9_signedQuotient_70 : decode cX9_signedQuotient 70 = .ok (.aload_n 0, 1) := by decide +kernel
theorem dX9_signedQuotient_71 : decode cX9_signedQuotient 71 = .ok (.getfield 7, 3) := by decide +kernel
theorem dX9_signedQuotient_74 : decode cX9_signedQuotient 74 = .ok (.bipush 7, 2) := by decide +kernel
theorem dX9_signedQuotient_76 : decode cX9_signedQuotient 76 = .ok (.iload_n 1, 1) := by decide +kernel
theorem dX9_signedQuotient_77 : decode cX9_signedQuotient 77 = .ok (.lconst 0, 1) := by decide +kernel
theorem dX9_signedQuotient_78 : decode cX9_signedQuotient 78 = .ok (.invokevirtual 56, 3) := by decide +kernel
theorem dX9_signedQuotient_81 : decode cX9_signedQuotient 81 = .ok (.goto 4, 3) := by decide +kernel
theorem dX9_signedQuotient_84 : decode cX9_signedQuotient 84 = .ok (.iload_n 1, 1) := by decide +kernel
theorem dX9_signedQuotient_85 : decode cX9_signedQuotient 85 = .ok (.ireturn, 1) := by decide +kernel
theorem dX9_signedByShifting_0 : decode cX9_signedByShifting 0 = .ok (.aload_n 0, 1) := by decide +kernel
theorem dX9_signedByShifting_1 : decode cX9_signedByShifting 1 = .ok (.getfield 7, 3) := by decide +kernel
theorem dX9_signedByShifting_4 : decode cX9_signedByShifting 4 = .ok (.iconst 1, 1) := by decide +kernel
theorem dX9_signedByShifting_5 : decode cX9_signedByShifting 5 = .ok (.iconst 0, 1) := by decide +kernel
theorem dX9_signedByShifting_6 : decode cX9_signedByShifting 6 = .ok (.aload_n 0, 1) := by decide +kernel
theorem dX9_signedByShifting_7 : decode cX9_signedByShifting 7 = .ok (.getfield 23, 3) := by decide +kernel
theorem dX9_signedByShifting_10 : decode cX9_signedByShifting 10 = .ok (.iconst 1, 1) := by decide +kernel
theorem dX9_signedByShifting_11 : decode cX9_signedByShifting 11 = .ok (.isub, 1) := by decide +kernel
theorem dX9_signedByShifting_12 : decode cX9_signedByShifting 12 = .ok (.i2l, 1) := by decide +kernel
theorem dX9_signedByShifting_13 : decode cX9_signedByShifting 13 = .ok (.invokevirtual 56, 3) := by decide +kernel
theorem dX9_signedByShifting_16 : decode cX9_signedByShifting 16 = .ok (.istore_n 1, 1) := by decide +kernel
theorem dX9_signedByShifting_17 : decode cX9_signedByShifting 17 = .ok (.aload_n 0, 1) := by decide +kernel
theorem dX9_signedByShifting_18 : decode cX9_signedByShifting 18 = .ok (.getfield 7, 3) := by decide +kernel
theorem dX9_signedByShifting_21 : decode cX9_signedByShifting 21 = .ok (.iconst 0, 1) := by decide +kernel
theorem dX9_signedByShifting_22 : decode cX9_signedByShifting 22 = .ok (.iload_n 1, 1) := by decide +kernel
theorem dX9_signedByShifting_23 : decode cX9_signedByShifting 23 = .ok (.aload_n 0, 1) := by decide +kernel
theorem dX9_signedByShifting_24 : decode cX9_signedByShifting 24 = .ok (.getfield 23, 3) := by decide +kernel
theorem dX9_signedByShifting_27 : decode cX9_signedByShifting 27 = .ok (.aload_n 0, 1) := by decide +kernel
theorem dX9_signedByShifting_28 : decode cX9_signedByShifting 28 = .ok (.getfield 47, 3) := by decide +kernel
theorem dX9_signedByShifting_31 : decode cX9_signedByShifting 31 = .ok (.isub, 1) := by decide +kernel
theorem dX9_signedByShifting_32 : decode cX9_signedByShifting 32 = .ok (.i2l, 1) := by decide +kernel
theorem dX9_signedByShifting_33 : decode cX9_signedByShifting 33 = .ok (.invokevirtual 56, 3) := by decide +kernel
theorem dX9_signedByShifting_36 : decode cX9_signedByShifting 36 = .ok (.istore_n 2, 1) := by decide +kernel
theorem dX9_signedByShifting_37 : decode cX9_signedByShifting 37 = .ok (.aload_n 0, 1) := by decide +kernel
theorem dX9_signedByShifting_38 : decode cX9_signedByShifting 38 = .ok (.getfield 7, 3) := by decide +kernel
theorem dX9_signedByShifting_41 : decode cX9_signedByShifting 41 = .ok (.iconst 5, 1) := by decide +kernel
theorem dX9_signedByShifting_42 : decode cX9_signedByShifting 42 = .ok (.iconst 0, 1) := by decide +kernel
theorem dX9_signedByShifting_43 : decode cX9_signedByShifting 43 = .ok (.iload_n 2, 1) := by decide +kernel
theorem dX9_signedByShifting_44 : decode cX9_signedByShifting 44 = .ok (.i2l, 1) := by decide +kernel
theorem dX9_signedByShifting_45 : decode cX9_signedByShifting 45 = .ok (.invokevirtual 56, 3) := by decide +kernel
theorem dX9_signedByShifting_48 : decode cX9_signedByShifting 48 = .ok (.istore_n 3, 1) := by decide +kernel
theorem dX9_signedByShifting_49 : decode cX9_signedByShifting 49 = .ok (.aload_n 0, 1) := by decide +kernel
theorem dX9_signedByShifting_50 : decode cX9_signedByShifting 50 = .ok (.getfield 7, 3) := by decide +kernel
theorem dX9_signedByShifting_53 : decode cX9_signedByShifting 53 = .ok (.iconst 1, 1) := by decide +kernel
theorem dX9_signedByShifting_54 : decode cX9_signedByShifting 54 = .ok (.iload_n 3, 1) := by decide +kernel
theorem dX9_signedByShifting_55 : decode cX9_signedByShifting 55 = .ok (.aload_n 0, 1) := by decide +kernel
theorem dX9_signedByShifting_56 : decode cX9_signedByShifting 56 = .ok (.getfield 47, 3) := by decide +kernel
theorem dX9_signedByShifting_59 : decode cX9_signedByShifting 59 = .ok (.i2l, 1) := by decide +kernel
theorem dX9_signedByShifting_60 : decode cX9_signedByShifting 60 = .ok (.invokevirtual 56, 3) := by decide +kernel
theorem dX9_signedByShifting_63 : decode cX9_signedByShifting 63 = .ok (.ireturn, 1) := by decide +kernel
theorem dX9_signedByMultiplying_0 : decode cX9_signedByMultiplying 0 = .ok (.new 91, 3) := by decide +kernel
theorem dX9_signedByMultiplying_3 : decode cX9_signedByMultiplying 3 = .ok (.dup, 1) := by decide +kernel
theorem dX9_signedByMultiplying_4 : decode cX9_signedByMultiplying 4 = .ok (.aload_n 0, 1) := by decide +kernel
theorem dX9_signedByMultiplying_5 : decode cX9_signedByMultiplying 5 = .ok (.getfield 23, 3) := by decide +kernel
theorem dX9_signedByMultiplying_8 : decode cX9_signedByMultiplying 8 = .ok (.aload_n 0, 1) := by decide +kernel
theorem dX9_signedByMultiplying_9 : decode cX9_signedByMultiplying 9 = .ok (.getfield 38, 3) := by decide +kernel
theorem dX9_signedByMultiplying_12 : decode cX9_signedByMultiplying 12 = .ok (.iconst 1, 1) := by decide +kernel
theorem dX9_signedByMultiplying_13 : decode cX9_signedByMultiplying 13 = .ok (.invokespecial 93, 3) := by decide +kernel
theorem dX9_signedByMultiplying_16 : decode cX9_signedByMultiplying 16 = .ok (.astore_n 1, 1) := by decide +kernel
theorem dX9_signedByMultiplying_17 : decode cX9_signedByMultiplying 17 = .ok (.aload_n 0, 1) := by decide +kernel
theorem dX9_signedByMultiplying_18 : decode cX9_signedByMultiplying 18 = .ok (.getfield 7, 3) := by decide +kernel
theorem dX9_signedByMultiplying_21 : decode cX9_signedByMultiplying 21 = .ok (.iconst 3, 1) := by decide +kernel
theorem dX9_signedByMultiplying_22 : decode cX9_signedByMultiplying 22 = .ok (.iconst 0, 1) := by decide +kernel
theorem dX9_signedByMultiplying_23 : decode cX9_signedByMultiplying 23 = .ok (.aload_n 1, 1) := by decide +kernel
theorem dX9_signedByMultiplying_24 : decode cX9_signedByMultiplying 24 = .ok (.getfield 96, 3) := by decide +kernel
theorem dX9_signedByMultiplying_27 : decode cX9_signedByMultiplying 27 = .ok (.invokevirtual 56, 3) := by decide +kernel
theorem dX9_signedByMultiplying_30 : decode cX9_signedByMultiplying 30 = .ok (.istore_n 2, 1) := by decide +kernel
theorem dX9_signedByMultiplying_31 : decode cX9_signedByMultiplying 31 = .ok (.aload_n 1, 1) := by decide +kernel
theorem dX9_signedByMultiplying_32 : decode cX9_signedByMultiplying 32 = .ok (.getfield 99, 3) := by decide +kernel
theorem dX9_signedByMultiplying_35 : decode cX9_signedByMultiplying 35 = .ok (.ifCond .ne 19, 3) := by decide +kernel
theorem dX9_signedByMultiplying_38 : decode cX9_signedByMultiplying 38 = .ok (.aload_n 1, 1) := by decide +kernel
theorem dX9_signedByMultiplying_39 : decode cX9_signedByMultiplying 39 = .ok (.getfield 96, 3) := by decide +kernel
theorem dX9_signedByMultiplying_42 : decode cX9_signedByMultiplying 42 = .ok (.aload_n 0, 1) := by decide +kernel
theorem dX9_signedByMultiplying_43 : decode cX9_signedByMultiplying 43 = .ok (.getfield 23, 3) := by decide +kernel
theorem dX9_signedByMultiplying_46 : decode cX9_signedByMultiplying 46 = .ok (.iconst 1, 1) := by decide +kernel
theorem dX9_signedByMultiplying_47 : decode cX9_signedByMultiplying 47 = .ok (.isub, 1) := by decide +kernel
theorem dX9_signedByMultiplying_48 : decode cX9_signedByMultiplying 48 = .ok (.lushr, 1) := by decide +kernel
theorem dX9_signedByMultiplying_49 : decode cX9_signedByMultiplying 49 = .ok (.lconst 0, 1) := by decide +kernel
theorem dX9_signedByMultiplying_50 : decode cX9_signedByMultiplying 50 = .ok (.lcmp, 1) := by decide +kernel
theorem dX9_signedByMultiplying_51 : decode cX9_signedByMultiplying 51 = .ok (.ifCond .eq 14, 3) := by decide +kernel
theorem dX9_signedByMultiplying_54 : decode cX9_signedByMultiplying 54 = .ok (.aload_n 0, 1) := by decide +kernel
theorem dX9_signedByMultiplying_55 : decode cX9_signedByMultiplying 55 = .ok (.getfield 7, 3) := by decide +kernel
theorem dX9_signedByMultiplying_58 : decode cX9_signedByMultiplying 58 = .ok (.iconst 5, 1) := by decide +kernel
theorem dX9_signedByMultiplying_59 : decode cX9_signedByMultiplying 59 = .ok (.iload_n 2, 1) := by decide +kernel
theorem dX9_signedByMultiplying_60 : decode cX9_signedByMultiplying 60 = .ok (.lconst 0, 1) := by decide +kernel
theorem dX9_signedByMultiplying_61 : decode cX9_signedByMultiplying 61 = .ok (.invokevirtual 56, 3) := by decide +kernel
theorem dX9_signedByMultiplying_64 : decode cX9_signedByMultiplying 64 = .ok (.istore_n 2, 1) := by decide +kernel
theorem dX9_signedByMultiplying_65 : decode cX9_signedByMultiplying 65 = .ok (.aload_n 1, 1) := by decide +kernel
theorem dX9_signedByMultiplying_66 : decode cX9_signedByMultiplying 66 = .ok (.getfield 102, 3) := by decide +kernel
theorem dX9_signedByMultiplying_69 : decode cX9_signedByMultiplying 69 = .ok (.ifCond .le 18, 3) := by decide +kernel
theorem dX9_signedByMultiplying_72 : decode cX9_signedByMultiplying 72 = .ok (.aload_n 0, 1) := by decide +kernel
theorem dX9_signedByMultiplying_73 : decode cX9_signedByMultiplying 73 = .ok (.getfield 7, 3) := by decide +kernel
theorem dX9_signedByMultiplying_76 : decode cX9_signedByMultiplying 76 = .ok (.iconst 1, 1) := by decide +kernel
theorem dX9_signedByMultiplying_77 : decode cX9_signedByMultiplying 77 = .ok (.iload_n 2, 1) := by decide +kernel
theorem dX9_signedByMultiplying_78 : decode cX9_signedByMultiplying 78 = .ok (.aload_n 1, 1) := by decide +kernel
theorem dX9_signedByMultiplying_79 : decode cX9_signedByMultiplying 79 = .ok (.getfield 102, 3) := by decide +kernel
theorem dX9_signedByMultiplying_82 : decode cX9_signedByMultiplying 82 = .ok (.i2l, 1) := by decide +kernel
theorem dX9_signedByMultiplying_83 : decode cX9_signedByMultiplying 83 = .ok (.invokevirtual 56, 3) := by decide +kernel
theorem dX9_signedByMultiplying_86 : decode cX9_signedByMultiplying 86 = .ok (.istore_n 2, 1) := by decide +kernel
theorem dX9_signedByMultiplying_87 : decode cX9_signedByMultiplying 87 = .ok (.aload_n 0, 1) := by decide +kernel
theorem dX9_signedByMultiplying_88 : decode cX9_signedByMultiplying 88 = .ok (.getfield 7, 3) := by decide +kernel
theorem dX9_signedByMultiplying_91 : decode cX9_signedByMultiplying 91 = .ok (.iconst 1, 1) := by decide +kernel
theorem dX9_signedByMultiplying_92 : decode cX9_signedByMultiplying 92 = .ok (.iconst 0, 1) := by decide +kernel
theorem dX9_signedByMultiplying_93 : decode cX9_signedByMultiplying 93 = .ok (.aload_n 0, 1) := by decide +kernel
theorem dX9_signedByMultiplying_94 : decode cX9_signedByMultiplying 94 = .ok (.getfield 23, 3) := by decide +kernel
theorem dX9_signedByMultiplying_97 : decode cX9_signedByMultiplying 97 = .ok (.iconst 1, 1) := by decide +kernel
theorem dX9_signedByMultiplying_98 : decode cX9_signedByMultiplying 98 = .ok (.isub, 1) := by decide +kernel
theorem dX9_signedByMultiplying_99 : decode cX9_signedByMultiplying 99 = .ok (.i2l, 1) := by decide +kernel
theorem dX9_signedByMultiplying_100 : decode cX9_signedByMultiplying 100 = .ok (.invokevirtual 56, 3) := by decide +kernel
theorem dX9_signedByMultiplying_103 : decode cX9_signedByMultiplying 103 = .ok (.istore_n 3, 1) := by decide +kernel
theorem dX9_signedByMultiplying_104 : decode cX9_signedByMultiplying 104 = .ok (.aload_n 0, 1) := by decide +kernel
theorem dX9_signedByMultiplying_105 : decode cX9_signedByMultiplying 105 = .ok (.getfield 7, 3) := by decide +kernel
theorem dX9_signedByMultiplying_108 : decode cX9_signedByMultiplying 108 = .ok (.bipush 6, 2) := by decide +kernel
theorem dX9_signedByMultiplying_110 : decode cX9_signedByMultiplying 110 = .ok (.iload_n 2, 1) := by decide +kernel
theorem dX9_signedByMultiplying_111 : decode cX9_signedByMultiplying 111 = .ok (.iload_n 3, 1) := by decide +kernel
theorem dX9_signedByMultiplying_112 : decode cX9_signedByMultiplying 112 = .ok (.i2l, 1) := by decide +kernel
theorem dX9_signedByMultiplying_113 : decode cX9_signedByMultiplying 113 = .ok (.invokevirtual 56, 3) := by decide +kernel
theorem dX9_signedByMultiplying_116 : decode cX9_signedByMultiplying 116 = .ok (.ireturn, 1) := by decide +kernel
theorem dX9_quotientDownwards_0 : decode cX9_quotientDownwards 0 = .ok (.aload_n 0, 1) := by decide +kernel
theorem dX9_quotientDownwards_1 : decode cX9_quotientDownwards 1 = .ok (.getfield 7, 3) := by decide +kernel
theorem dX9_quotientDownwards_4 : decode cX9_quotientDownwards 4 = .ok (.iconst 1, 1) := by decide +kernel
theorem dX9_quotientDownwards_5 : decode cX9_quotientDownwards 5 = .ok (.iconst 0, 1) := by decide +kernel
theorem dX9_quotientDownwards_6 : decode cX9_quotientDownwards 6 = .ok (.aload_n 0, 1) := by decide +kernel
theorem dX9_quotientDownwards_7 : decode cX9_quotientDownwards 7 = .ok (.getfield 23, 3) := by decide +kernel
theorem dX9_quotientDownwards_10 : decode cX9_quotientDownwards 10 = .ok (.iconst 1, 1) := by decide +kernel
theorem dX9_quotientDownwards_11 : decode cX9_quotientDownwards 11 = .ok (.isub, 1) := by decide +kernel
theorem dX9_quotientDownwards_12 : decode cX9_quotientDownwards 12 = .ok (.i2l, 1) := by decide +kernel
theorem dX9_quotientDownwards_13 : decode cX9_quotientDownwards 13 = .ok (.invokevirtual 56, 3) := by decide +kernel
theorem dX9_quotientDownwards_16 : decode cX9_quotientDownwards 16 = .ok (.istore_n 1, 1) := by decide +kernel
theorem dX9_quotientDownwards_17 : decode cX9_quotientDownwards 17 = .ok (.aload_n 0, 1) := by decide +kernel
theorem dX9_quotientDownwards_18 : decode cX9_quotientDownwards 18 = .ok (.getfield 7, 3) := by decide +kernel
theorem dX9_quotientDownwards_21 : decode cX9_quotientDownwards 21 = .ok (.bipush 8, 2) := by decide +kernel
theorem dX9_quotientDownwards_23 : decode cX9_quotientDownwards 23 = .ok (.iconst 0, 1) := by decide +kernel
theorem dX9_quotientDownwards_24 : decode cX9_quotientDownwards 24 = .ok (.iload_n 1, 1) := by decide +kernel
theorem dX9_quotientDownwards_25 : decode cX9_quotientDownwards 25 = .ok (.i2l, 1) := by decide +kernel
theorem dX9_quotientDownwards_26 : decode cX9_quotientDownwards 26 = .ok (.invokevirtual 56, 3) := by decide +kernel
theorem dX9_quotientDownwards_29 : decode cX9_quotientDownwards 29 = .ok (.istore_n 2, 1) := by decide +kernel
theorem dX9_quotientDownwards_30 : decode cX9_quotientDownwards 30 = .ok (.aload_n 0, 1) := by decide +kernel
theorem dX9_quotientDownwards_31 : decode cX9_quotientDownwards 31 = .ok (.getfield 7, 3) := by decide +kernel
theorem dX9_quotientDownwards_34 : decode cX9_quotientDownwards 34 = .ok (.bipush 8, 2) := by decide +kernel
theorem dX9_quotientDownwards_36 : decode cX9_quotientDownwards 36 = .ok (.aload_n 0, 1) := by decide +kernel
theorem dX9_quotientDownwards_37 : decode cX9_quotientDownwards 37 = .ok (.iload_n 2, 1) := by decide +kernel
theorem dX9_quotientDownwards_38 : decode cX9_quotientDownwards 38 = .ok (.invokevirtual 62, 3) := by decide +kernel
theorem dX9_quotientDownwards_41 : decode cX9_quotientDownwards 41 = .ok (.iload_n 1, 1) := by decide +kernel
theorem dX9_quotientDownwards_42 : decode cX9_quotientDownwards 42 = .ok (.i2l, 1) := by decide +kernel
theorem dX9_quotientDownwards_43 : decode cX9_quotientDownwards 43 = .ok (.invokevirtual 56, 3) := by decide +kernel
theorem dX9_quotientDownwards_46 : decode cX9_quotientDownwards 46 = .ok (.ireturn, 1) := by decide +kernel
theorem dX9_sizeOfNumber_0 : decode cX9_sizeOfNumber 0 = .ok (.aload_n 0, 1) := by decide +kernel
theorem dX9_sizeOfNumber_1 : decode cX9_sizeOfNumber 1 = .ok (.getfield 7, 3) := by decide +kernel
theorem dX9_sizeOfNumber_4 : decode cX9_sizeOfNumber 4 = .ok (.iconst 1, 1) := by decide +kernel
theorem dX9_sizeOfNumber_5 : decode cX9_sizeOfNumber 5 = .ok (.iconst 0, 1) := by decide +kernel
theorem dX9_sizeOfNumber_6 : decode cX9_sizeOfNumber 6 = .ok (.aload_n 0, 1) := by decide +kernel
theorem dX9_sizeOfNumber_7 : decode cX9_sizeOfNumber 7 = .ok (.getfield 23, 3) := by decide +kernel
theorem dX9_sizeOfNumber_10 : decode cX9_sizeOfNumber 10 = .ok (.iconst 1, 1) := by decide +kernel
theorem dX9_sizeOfNumber_11 : decode cX9_sizeOfNumber 11 = .ok (.isub, 1) := by decide +kernel
theorem dX9_sizeOfNumber_12 : decode cX9_sizeOfNumber 12 = .ok (.i2l, 1) := by decide +kernel
theorem dX9_sizeOfNumber_13 : decode cX9_sizeOfNumber 13 = .ok (.invokevirtual 56, 3) := by decide +kernel
theorem dX9_sizeOfNumber_16 : decode cX9_sizeOfNumber 16 = .ok (.istore_n 1, 1) := by decide +kernel
theorem dX9_sizeOfNumber_17 : decode cX9_sizeOfNumber 17 = .ok (.aload_n 0, 1) := by decide +kernel
theorem dX9_sizeOfNumber_18 : decode cX9_sizeOfNumber 18 = .ok (.getfield 7, 3) := by decide +kernel
theorem dX9_sizeOfNumber_21 : decode cX9_sizeOfNumber 21 = .ok (.bipush 8, 2) := by decide +kernel
theorem dX9_sizeOfNumber_23 : decode cX9_sizeOfNumber 23 = .ok (.iconst 0, 1) := by decide +kernel
theorem dX9_sizeOfNumber_24 : decode cX9_sizeOfNumber 24 = .ok (.iload_n 1, 1) := by decide +kernel
theorem dX9_sizeOfNumber_25 : decode cX9_sizeOfNumber 25 = .ok (.i2l, 1) := by decide +kernel
theorem dX9_sizeOfNumber_26 : decode cX9_sizeOfNumber 26 = .ok (.invokevirtual 56, 3) := by decide +kernel
theorem dX9_sizeOfNumber_29 : decode cX9_sizeOfNumber 29 = .ok (.istore_n 2, 1) := by decide +kernel
theorem dX9_sizeOfNumber_30 : decode cX9_sizeOfNumber 30 = .ok (.aload_n 0, 1) := by decide +kernel
theorem dX9_sizeOfNumber_31 : decode cX9_sizeOfNumber 31 = .ok (.getfield 7, 3) := by decide +kernel
theorem dX9_sizeOfNumber_34 : decode cX9_sizeOfNumber 34 = .ok (.bipush 6, 2) := by decide +kernel
theorem dX9_sizeOfNumber_36 : decode cX9_sizeOfNumber 36 = .ok (.iload_n 2, 1) := by decide +kernel
theorem dX9_sizeOfNumber_37 : decode cX9_sizeOfNumber 37 = .ok (.iload_n 1, 1) := by decide +kernel
theorem dX9_sizeOfNumber_38 : decode cX9_sizeOfNumber 38 = .ok (.i2l, 1) := by decide +kernel
theorem dX9_sizeOfNumber_39 : decode cX9_sizeOfNumber 39 = .ok (.invokevirtual 56, 3) := by decide +kernel
theorem dX9_sizeOfNumber_42 : decode cX9_sizeOfNumber 42 = .ok (.ireturn, 1) := by decide +kernel
theorem dX9_restAfter_0 : decode cX9_restAfter 0 = .ok (.aload_n 0, 1) := by decide +kernel
theorem dX9_restAfter_1 : decode cX9_restAfter 1 = .ok (.getfield 7, 3) := by decide +kernel
theorem dX9_restAfter_4 : decode cX9_restAfter 4 = .ok (.iconst 4, 1) := by decide +kernel
theorem dX9_restAfter_5 : decode cX9_restAfter 5 = .ok (.iload_n 1, 1) := by decide +kernel
theorem dX9_restAfter_6 : decode cX9_restAfter 6 = .ok (.aload_n 0, 1) := by decide +kernel
theorem dX9_restAfter_7 : decode cX9_restAfter 7 = .ok (.getfield 13, 3) := by decide +kernel
theorem dX9_restAfter_10 : decode cX9_restAfter 10 = .ok (.getfield 24, 3) := by decide +kernel
theorem dX9_restAfter_13 : decode cX9_restAfter 13 = .ok (.aload_n 0, 1) := by decide +kernel
theorem dX9_restAfter_14 : decode cX9_restAfter 14 = .ok (.getfield 23, 3) := by decide +kernel
theorem dX9_restAfter_17 : decode cX9_restAfter 17 = .ok (.invokestatic 32, 3) := by decide +kernel
theorem dX9_restAfter_20 : decode cX9_restAfter 20 = .ok (.land, 1) := by decide +kernel
theorem dX9_restAfter_21 : decode cX9_restAfter 21 = .ok (.invokevirtual 56, 3) := by decide +kernel
theorem dX9_restAfter_24 : decode cX9_restAfter 24 = .ok (.istore_n 2, 1) := by decide +kernel
theorem dX9_restAfter_25 : decode cX9_restAfter 25 = .ok (.aload_n 0, 1) := by decide +kernel
theorem dX9_restAfter_26 : decode cX9_restAfter 26 = .ok (.getfield 7, 3) := by decide +kernel
theorem dX9_restAfter_29 : decode cX9_restAfter 29 = .ok (.bipush 6, 2) := by decide +kernel
theorem dX9_restAfter_31 : decode cX9_restAfter 31 = .ok (.iconst 0, 1) := by decide +kernel
theorem dX9_restAfter_32 : decode cX9_restAfter 32 = .ok (.iload_n 2, 1) := by decide +kernel
theorem dX9_restAfter_33 : decode cX9_restAfter 33 = .ok (.i2l, 1) := by decide +kernel
theorem dX9_restAfter_34 : decode cX9_restAfter 34 = .ok (.invokevirtual 56, 3) := by decide +kernel
theorem dX9_restAfter_37 : decode cX9_restAfter 37 = .ok (.pop, 1) := by decide +kernel
theorem dX9_restAfter_38 : decode cX9_restAfter 38 = .ok (.return_, 1) := by decide +kernel
theorem dX9_noRest_0 : decode cX9_noRest 0 = .ok (.aload_n 0, 1) := by decide +kernel
theorem dX9_noRest_1 : decode cX9_noRest 1 = .ok (.getfield 7, 3) := by decide +kernel
theorem dX9_noRest_4 : decode cX9_noRest 4 = .ok (.iconst 4, 1) := by decide +kernel
theorem dX9_noRest_5 : decode cX9_noRest 5 = .ok (.iload_n 1, 1) := by decide +kernel
theorem dX9_noRest_6 : decode cX9_noRest 6 = .ok (.aload_n 0, 1) := by decide +kernel
theorem dX9_noRest_7 : decode cX9_noRest 7 = .ok (.getfield 23, 3) := by decide +kernel
theorem dX9_noRest_10 : decode cX9_noRest 10 = .ok (.aload_n 0, 1) := by decide +kernel
theorem dX9_noRest_11 : decode cX9_noRest 11 = .ok (.getfield 50, 3) := by decide +kernel
theorem dX9_noRest_14 : decode cX9_noRest 14 = .ok (.invokestatic 73, 3) := by decide +kernel
theorem dX9_noRest_17 : decode cX9_noRest 17 = .ok (.invokevirtual 56, 3) := by decide +kernel
theorem dX9_noRest_20 : decode cX9_noRest 20 = .ok (.istore_n 2, 1) := by decide +kernel
theorem dX9_noRest_21 : decode cX9_noRest 21 = .ok (.aload_n 0, 1) := by decide +kernel
theorem dX9_noRest_22 : decode cX9_noRest 22 = .ok (.getfield 47, 3) := by decide +kernel
theorem dX9_noRest_25 : decode cX9_noRest 25 = .ok (.ifCond .le 19, 3) := by decide +kernel
theorem dX9_noRest_28 : decode cX9_noRest 28 = .ok (.aload_n 0, 1) := by decide +kernel
theorem dX9_noRest_29 : decode cX9_noRest 29 = .ok (.getfield 7, 3) := by decide +kernel
theorem dX9_noRest_32 : decode cX9_noRest 32 = .ok (.bipush 10, 2) := by decide +kernel
theorem dX9_noRest_34 : decode cX9_noRest 34 = .ok (.iload_n 2, 1) := by decide +kernel
theorem dX9_noRest_35 : decode cX9_noRest 35 = .ok (.aload_n 0, 1) := by decide +kernel
theorem dX9_noRest_36 : decode cX9_noRest 36 = .ok (.getfield 47, 3) := by decide +kernel
theorem dX9_noRest_39 : decode cX9_noRest 39 = .ok (.i2l, 1) := by decide +kernel
theorem dX9_noRest_40 : decode cX9_noRest 40 = .ok (.invokevirtual 56, 3) := by decide +kernel
theorem dX9_noRest_43 : decode cX9_noRest 43 = .ok (.istore_n 2, 1) := by decide +kernel
theorem dX9_noRest_44 : decode cX9_noRest 44 = .ok (.aload_n 0, 1) := by decide +kernel
theorem dX9_noRest_45 : decode cX9_noRest 45 = .ok (.getfield 7, 3) := by decide +kernel
theorem dX9_noRest_48 : decode cX9_noRest 48 = .ok (.bipush 11, 2) := by decide +kernel
theorem dX9_noRest_50 : decode cX9_noRest 50 = .ok (.iload_n 2, 1) := by decide +kernel
theorem dX9_noRest_51 : decode cX9_noRest 51 = .ok (.aload_n 0, 1) := by decide +kernel
theorem dX9_noRest_52 : decode cX9_noRest 52 = .ok (.getfield 23, 3) := by decide +kernel
theorem dX9_noRest_55 : decode cX9_noRest 55 = .ok (.invokestatic 32, 3) := by decide +kernel
theorem dX9_noRest_58 : decode cX9_noRest 58 = .ok (.aload_n 0, 1) := by decide +kernel
theorem dX9_noRest_59 : decode cX9_noRest 59 = .ok (.getfield 38, 3) := by decide +kernel
theorem dX9_noRest_62 : decode cX9_noRest 62 = .ok (.invokestatic 111, 3) := by decide +kernel
theorem dX9_noRest_65 : decode cX9_noRest 65 = .ok (.invokevirtual 56, 3) := by decide +kernel
theorem dX9_noRest_68 : decode cX9_noRest 68 = .ok (.pop, 1) := by decide +kernel
theorem dX9_noRest_69 : decode cX9_noRest 69 = .ok (.return_, 1) := by decide +kernel
theorem dX9_exact_0 : decode cX9_exact 0 = .ok (.iconst 0, 1) := by decide +kernel
theorem dX9_exact_1 : decode cX9_exact 1 = .ok (.istore 5, 2) := by decide +kernel
theorem dX9_exact_3 : decode cX9_exact 3 = .ok (.aload_n 0, 1) := by decide +kernel
theorem dX9_exact_4 : decode cX9_exact 4 = .ok (.getfield 47, 3) := by decide +kernel
theorem dX9_exact_7 : decode cX9_exact 7 = .ok (.ifCond .gt 7, 3) := by decide +kernel
theorem dX9_exact_10 : decode cX9_exact 10 = .ok (.iload_n 2, 1) := by decide +kernel
theorem dX9_exact_11 : decode cX9_exact 11 = .ok (.ifCond .eq 19, 3) := by decide +kernel
theorem dX9_exact_14 : decode cX9_exact 14 = .ok (.aload_n 0, 1) := by decide +kernel
theorem dX9_exact_15 : decode cX9_exact 15 = .ok (.getfield 7, 3) := by decide +kernel
theorem dX9_exact_18 : decode cX9_exact 18 = .ok (.iload_n 1, 1) := by decide +kernel
theorem dX9_exact_19 : decode cX9_exact 19 = .ok (.iconst 0, 1) := by decide +kernel
theorem dX9_exact_20 : decode cX9_exact 20 = .ok (.aload_n 0, 1) := by decide +kernel
theorem dX9_exact_21 : decode cX9_exact 21 = .ok (.getfield 47, 3) := by decide +kernel
theorem dX9_exact_24 : decode cX9_exact 24 = .ok (.i2l, 1) := by decide +kernel
theorem dX9_exact_25 : decode cX9_exact 25 = .ok (.invokevirtual 56, 3) := by decide +kernel
theorem dX9_exact_28 : decode cX9_exact 28 = .ok (.istore 5, 2) := by decide +kernel
theorem dX9_exact_30 : decode cX9_exact 30 = .ok (.iload_n 2, 1) := by decide +kernel
theorem dX9_exact_31 : decode cX9_exact 31 = .ok (.ifCond .ne 15, 3) := by decide +kernel
theorem dX9_exact_34 : decode cX9_exact 34 = .ok (.aload_n 0, 1) := by decide +kernel
theorem dX9_exact_35 : decode cX9_exact 35 = .ok (.getfield 7, 3) := by decide +kernel
theorem dX9_exact_38 : decode cX9_exact 38 = .ok (.iconst 4, 1) := by decide +kernel
theorem dX9_exact_39 : decode cX9_exact 39 = .ok (.iload 5, 2) := by decide +kernel
theorem dX9_exact_41 : decode cX9_exact 41 = .ok (.lload_n 3, 1) := by decide +kernel
theorem dX9_exact_42 : decode cX9_exact 42 = .ok (.invokevirtual 56, 3) := by decide +kernel
theorem dX9_exact_45 : decode cX9_exact 45 = .ok (.pop, 1) := by decide +kernel
theorem dX9_exact_46 : decode cX9_exact 46 = .ok (.return_, 1) := by decide +kernel
end
section
theorem dX10_init_0 : decode cX10_init 0 = .ok (.aload_n 0, 1) := by decide +kernel
theorem dX10_init_1 : decode cX10_init 1 = .ok (.invokespecial 1, 3) := by decide +kernel
theorem dX10_init_4 : decode cX10_init 4 = .ok (.aload_n 0, 1) := by decide +kernel
theorem dX10_init_5 : decode cX10_init 5 = .ok (.bipush 60, 2) := by decide +kernel
theorem dX10_init_7 : decode cX10_init 7 = .ok (.anewarray 9, 3) := by decide +kernel
theorem dX10_init_10 : decode cX10_init 10 = .ok (.putfield 11, 3) := by decide +kernel
theorem dX10_init_13 : decode cX10_init 13 = .ok (.aload_n 0, 1) := by decide +kernel
theorem dX10_init_14 : decode cX10_init 14 = .ok (.bipush 13, 2) := by decide +kernel
theorem dX10_init_16 : decode cX10_init 16 = .ok (.newarray .int, 2) := by decide +kernel
theorem dX10_init_18 : decode cX10_init 18 = .ok (.putfield 15, 3) := by decide +kernel
theorem dX10_init_21 : decode cX10_init 21 = .ok (.aload_n 0, 1) := by decide +kernel
theorem dX10_init_22 : decode cX10_init 22 = .ok (.iconst 4, 1) := by decide +kernel
theorem dX10_init_23 : decode cX10_init 23 = .ok (.newarray .long, 2) := by decide +kernel
theorem dX10_init_25 : decode cX10_init 25 = .ok (.putfield 19, 3) := by decide +kernel
theorem dX10_init_28 : decode cX10_init 28 = .ok (.aload_n 0, 1) := by decide +kernel
theorem dX10_init_29 : decode cX10_init 29 = .ok (.bipush 8, 2) := by decide +kernel
theorem dX10_init_31 : decode cX10_init 31 = .ok (.anewarray 23, 3) := by decide +kernel
theorem dX10_init_34 : decode cX10_init 34 = .ok (.putfield 25, 3) := by decide +kernel
theorem dX10_init_37 : decode cX10_init 37 = .ok (.aload_n 0, 1) := by decide +kernel
theorem dX10_init_38 : decode cX10_init 38 = .ok (.new 23, 3) := by decide +kernel
theorem dX10_init_41 : decode cX10_init 41 = .ok (.dup, 1) := by decide +kernel
theorem dX10_init_42 : decode cX10_init 42 = .ok (.iconst 0, 1) := by decide +kernel
theorem dX10_init_43 : decode cX10_init 43 = .ok (.iconst 0, 1) := by decide +kernel
theorem dX10_init_44 : decode cX10_init 44 = .ok (.lconst 0, 1) := by decide +kernel
theorem dX10_init_45 : decode cX10_init 45 = .ok (.iconst 0, 1) := by decide +kernel
theorem dX10_init_46 : decode cX10_init 46 = .ok (.invokespecial 29, 3) := by decide +kernel
theorem dX10_init_49 : decode cX10_init 49 = .ok (.putfield 32, 3) := by decide +kernel
theorem dX10_init_52 : decode cX10_init 52 = .ok (.aload_n 0, 1) := by decide +kernel
theorem dX10_init_53 : decode cX10_init 53 = .ok (.new 36, 3) := by decide +kernel
theorem dX10_init_56 : decode cX10_init 56 = .ok (.dup, 1) := by decide +kernel
theorem dX10_init_57 : decode cX10_init 57 = .ok (.invokespecial 38, 3) := by decide +kernel
theorem dX10_init_60 : decode cX10_init 60 = .ok (.putfield 39, 3) := by decide +kernel
theorem dX10_init_63 : decode cX10_init 63 = .ok (.aload_n 0, 1) := by decide +kernel
theorem dX10_init_64 : decode cX10_init 64 = .ok (.new 43, 3) := by decide +kernel
theorem dX10_init_67 : decode cX10_init 67 = .ok (.dup, 1) := by decide +kernel
theorem dX10_init_68 : decode cX10_init 68 = .ok (.invokespecial 45, 3) := by decide +kernel
theorem dX10_init_71 : decode cX10_init 71 = .ok (.putfield 46, 3) := by decide +kernel
theorem dX10_init_74 : decode cX10_init 74 = .ok (.aload_n 0, 1) := by decide +kernel
theorem dX10_init_75 : decode cX10_init 75 = .ok (.bipush 13, 2) := by decide +kernel
theorem dX10_init_77 : decode cX10_init 77 = .ok (.newarray .long, 2) := by decide +kernel
theorem dX10_init_79 : decode cX10_init 79 = .ok (.putfield 50, 3) := by decide +kernel
theorem dX10_init_82 : decode cX10_init 82 = .ok (.getstatic 53, 3) := by decide +kernel
theorem dX10_init_85 : decode cX10_init 85 = .ok (.iconst 0, 1) := by decide +kernel
theorem dX10_init_86 : decode cX10_init 86 = .ok (.aload_n 0, 1) := by decide +kernel
theorem dX10_init_87 : decode cX10_init 87 = .ok (.getfield 15, 3) := by decide +kernel
theorem dX10_init_90 : decode cX10_init 90 = .ok (.iconst 0, 1) := by decide +kernel
theorem dX10_init_91 : decode cX10_init 91 = .ok (.bipush 13, 2) := by decide +kernel
theorem dX10_init_93 : decode cX10_init 93 = .ok (.invokestatic 56, 3) := by decide +kernel
theorem dX10_init_96 : decode cX10_init 96 = .ok (.iconst 0, 1) := by decide +kernel
theorem dX10_init_97 : decode cX10_init 97 = .ok (.istore_n 1, 1) := by decide +kernel
theorem dX10_init_98 : decode cX10_init 98 = .ok (.iload_n 1, 1) := by decide +kernel
theorem dX10_init_99 : decode cX10_init 99 = .ok (.bipush 8, 2) := by decide +kernel
theorem dX10_init_101 : decode cX10_init 101 = .ok (.if_icmp .ge 19, 3) := by decide +kernel
theorem dX10_init_104 : decode cX10_init 104 = .ok (.aload_n 0, 1) := by decide +kernel
theorem dX10_init_105 : decode cX10_init 105 = .ok (.getfield 25, 3) := by decide +kernel
theorem dX10_init_108 : decode cX10_init 108 = .ok (.iload_n 1, 1) := by decide +kernel
theorem dX10_init_109 : decode cX10_init 109 = .ok (.aload_n 0, 1) := by decide +kernel
theorem dX10_init_110 : decode cX10_init 110 = .ok (.getfield 32, 3) := by decide +kernel
theorem dX10_init_113 : decode cX10_init 113 = .ok (.aastore, 1) := by decide +kernel
theorem dX10_init_114 : decode cX10_init 114 = .ok (.iinc 1 1, 3) := by decide +kernel
theorem dX10_init_117 : decode cX10_init 117 = .ok (.goto (-19), 3) := by decide +kernel
theorem dX10_init_120 : decode cX10_init 120 = .ok (.return_, 1) := by decide +kernel
theorem dX10_form_0 : decode cX10_form 0 = .ok (.iload_n 1, 1) := by decide +kernel
theorem dX10_form_1 : decode cX10_form 1 = .ok (.invokestatic 62, 3) := by decide +kernel
theorem dX10_form_4 : decode cX10_form 4 = .ok (.ifCond .ne 5, 3) := by decide +kernel
theorem dX10_form_7 : decode cX10_form 7 = .ok (.iconst (-1), 1) := by decide +kernel
theorem dX10_form_8 : decode cX10_form 8 = .ok (.ireturn, 1) := by decide +kernel
theorem dX10_form_9 : decode cX10_form 9 = .ok (.aload_n 0, 1) := by decide +kernel
theorem dX10_form_10 : decode cX10_form 10 = .ok (.getfield 68, 3) := by decide +kernel
theorem dX10_form_13 : decode cX10_form 13 = .ok (.bipush 60, 2) := by decide +kernel
theorem dX10_form_15 : decode cX10_form 15 = .ok (.if_icmp .lt 6, 3) := by decide +kernel
theorem dX10_form_18 : decode cX10_form 18 = .ok (.bipush (-2), 2) := by decide +kernel
theorem dX10_form_20 : decode cX10_form 20 = .ok (.ireturn, 1) := by decide +kernel
theorem dX10_form_21 : decode cX10_form 21 = .ok (.aload_n 0, 1) := by decide +kernel
theorem dX10_form_22 : decode cX10_form 22 = .ok (.iload_n 1, 1) := by decide +kernel
theorem dX10_form_23 : decode cX10_form 23 = .ok (.invokevirtual 72, 3) := by decide +kernel
theorem dX10_form_26 : decode cX10_form 26 = .ok (.pop, 1) := by decide +kernel
theorem dX10_form_27 : decode cX10_form 27 = .ok (.aload_n 0, 1) := by decide +kernel
theorem dX10_form_28 : decode cX10_form 28 = .ok (.getfield 68, 3) := by decide +kernel
theorem dX10_form_31 : decode cX10_form 31 = .ok (.iconst 1, 1) := by decide +kernel
theorem dX10_form_32 : decode cX10_form 32 = .ok (.isub, 1) := by decide +kernel
theorem dX10_form_33 : decode cX10_form 33 = .ok (.ireturn, 1) := by decide +kernel
theorem dX10_step_0 : decode cX10_step 0 = .ok (.aload_n 0, 1) := by decide +kernel
theorem dX10_step_1 : decode cX10_step 1 = .ok (.iload_n 1, 1) := by decide +kernel
theorem dX10_step_2 : decode cX10_step 2 = .ok (.invokevirtual 76, 3) := by decide +kernel
theorem dX10_step_5 : decode cX10_step 5 = .ok (.astore 6, 2) := by decide +kernel
theorem dX10_step_7 : decode cX10_step 7 = .ok (.aload 6, 2) := by decide +kernel
theorem dX10_step_9 : decode cX10_step 9 = .ok (.ifnull 34, 3) := by decide +kernel
theorem dX10_step_12 : decode cX10_step 12 = .ok (.iload_n 2, 1) := by decide +kernel
theorem dX10_step_13 : decode cX10_step 13 = .ok (.invokestatic 79, 3) := by decide +kernel
theorem dX10_step_16 : decode cX10_step 16 = .ok (.ifCond .eq 27, 3) := by decide +kernel
theorem dX10_step_19 : decode cX10_step 19 = .ok (.iload_n 3, 1) := by decide +kernel
theorem dX10_step_20 : decode cX10_step 20 = .ok (.ifCond .lt 23, 3) := by decide +kernel
theorem dX10_step_23 : decode cX10_step 23 = .ok (.iload_n 3, 1) := by decide +kernel
theorem dX10_step_24 : decode cX10_step 24 = .ok (.aload 6, 2) := by decide +kernel
theorem dX10_step_26 : decode cX10_step 26 = .ok (.getfield 82, 3) := by decide +kernel
theorem dX10_step_29 : decode cX10_step 29 = .ok (.if_icmp .gt 14, 3) := by decide +kernel
theorem dX10_step_32 : decode cX10_step 32 = .ok (.aload 6, 2) := by decide +kernel
theorem dX10_step_34 : decode cX10_step 34 = .ok (.iload_n 2, 1) := by decide +kernel
theorem dX10_step_35 : decode cX10_step 35 = .ok (.lload 4, 2) := by decide +kernel
theorem dX10_step_37 : decode cX10_step 37 = .ok (.invokestatic 85, 3) := by decide +kernel
theorem dX10_step_40 : decode cX10_step 40 = .ok (.ifCond .ne 5, 3) := by decide +kernel
theorem dX10_step_43 : decode cX10_step 43 = .ok (.iconst (-1), 1) := by decide +kernel
theorem dX10_step_44 : decode cX10_step 44 = .ok (.ireturn, 1) := by decide +kernel
theorem dX10_step_45 : decode cX10_step 45 = .ok (.aload 6, 2) := by decide +kernel
theorem dX10_step_47 : decode cX10_step 47 = .ok (.getfield 82, 3) := by decide +kernel
theorem dX10_step_50 : decode cX10_step 50 = .ok (.bipush 12, 2) := by decide +kernel
theorem dX10_step_52 : decode cX10_step 52 = .ok (.if_icmp .lt 6, 3) := by decide +kernel
theorem dX10_step_55 : decode cX10_step 55 = .ok (.bipush (-2), 2) := by decide +kernel
theorem dX10_step_57 : decode cX10_step 57 = .ok (.ireturn, 1) := by decide +kernel
theorem dX10_step_58 : decode cX10_step 58 = .ok (.aload 6, 2) := by decide +kernel
theorem dX10_step_60 : decode cX10_step 60 = .ok (.iload_n 2, 1) := by decide +kernel
theorem dX10_step_61 : decode cX10_step 61 = .ok (.iload_n 3, 1) := by decide +kernel
theorem dX10_step_62 : decode cX10_step 62 = .ok (.lload 4, 2) := by decide +kernel
theorem dX10_step_64 : decode cX10_step 64 = .ok (.aload 6, 2) := by decide +kernel
theorem dX10_step_66 : decode cX10_step 66 = .ok (.getfield 89, 3) := by decide +kernel
theorem dX10_step_69 : decode cX10_step 69 = .ok (.invokestatic 92, 3) := by decide +kernel
theorem dX10_step_72 : decode cX10_step 72 = .ok (.land, 1) := by decide +kernel
theorem dX10_step_73 : decode cX10_step 73 = .ok (.invokevirtual 96, 3) := by decide +kernel
theorem dX10_step_76 : decode cX10_step 76 = .ok (.pop, 1) := by decide +kernel
theorem dX10_step_77 : decode cX10_step 77 = .ok (.aload_n 0, 1) := by decide +kernel
theorem dX10_step_78 : decode cX10_step 78 = .ok (.getfield 39, 3) := by decide +kernel
theorem dX10_step_81 : decode cX10_step 81 = .ok (.new 100, 3) := by decide +kernel
theorem dX10_step_84 : decode cX10_step 84 = .ok (.dup, 1) := by decide +kernel
theorem dX10_step_85 : decode cX10_step 85 = .ok (.iconst 1, 1) := by decide +kernel
theorem dX10_step_86 : decode cX10_step 86 = .ok (.iload_n 1, 1) := by decide +kernel
theorem dX10_step_87 : decode cX10_step 87 = .ok (.iconst 0, 1) := by decide +kernel
theorem dX10_step_88 : decode cX10_step 88 = .ok (.lconst 0, 1) := by decide +kernel
theorem dX10_step_89 : decode cX10_step 89 = .ok (.aconst_null, 1) := by decide +kernel
theorem dX10_step_90 : decode cX10_step 90 = .ok (.invokespecial 102, 3) := by decide +kernel
theorem dX10_step_93 : decode cX10_step 93 = .ok (.invokevirtual 105, 3) := by decide +kernel
theorem dX10_step_96 : decode cX10_step 96 = .ok (.aload 6, 2) := by decide +kernel
theorem dX10_step_98 : decode cX10_step 98 = .ok (.getfield 82, 3) := by decide +kernel
theorem dX10_step_101 : decode cX10_step 101 = .ok (.iconst 1, 1) := by decide +kernel
theorem dX10_step_102 : decode cX10_step 102 = .ok (.isub, 1) := by decide +kernel
theorem dX10_step_103 : decode cX10_step 103 = .ok (.ireturn, 1) := by decide +kernel
theorem dX10_make_0 : decode cX10_make 0 = .ok (.iload_n 1, 1) := by decide +kernel
theorem dX10_make_1 : decode cX10_make 1 = .ok (.iload_n 2, 1) := by decide +kernel
theorem dX10_make_2 : decode cX10_make 2 = .ok (.iload_n 3, 1) := by decide +kernel
theorem dX10_make_3 : decode cX10_make 3 = .ok (.lload 4, 2) := by decide +kernel
theorem dX10_make_5 : decode cX10_make 5 = .ok (.invokestatic 108, 3) := by decide +kernel
theorem dX10_make_8 : decode cX10_make 8 = .ok (.ifCond .ne 5, 3) := by decide +kernel
theorem dX10_make_11 : decode cX10_make 11 = .ok (.iconst (-1), 1) := by decide +kernel
theorem dX10_make_12 : decode cX10_make 12 = .ok (.ireturn, 1) := by decide +kernel
theorem dX10_make_13 : decode cX10_make 13 = .ok (.aload_n 0, 1) := by decide +kernel
theorem dX10_make_14 : decode cX10_make 14 = .ok (.getfield 68, 3) := by decide +kernel
theorem dX10_make_17 : decode cX10_make 17 = .ok (.bipush 60, 2) := by decide +kernel
theorem dX10_make_19 : decode cX10_make 19 = .ok (.if_icmp .lt 6, 3) := by decide +kernel
theorem dX10_make_22 : decode cX10_make 22 = .ok (.bipush (-2), 2) := by decide +kernel
theorem dX10_make_24 : decode cX10_make 24 = .ok (.ireturn, 1) := by decide +kernel
theorem dX10_make_25 : decode cX10_make 25 = .ok (.new 114, 3) := by decide +kernel
theorem dX10_make_28 : decode cX10_make 28 = .ok (.dup, 1) := by decide +kernel
theorem dX10_make_29 : decode cX10_make 29 = .ok (.aload_n 0, 1) := by decide +kernel
theorem dX10_make_30 : decode cX10_make 30 = .ok (.iload_n 1, 1) := by decide +kernel
theorem dX10_make_31 : decode cX10_make 31 = .ok (.invokevirtual 72, 3) := by decide +kernel
theorem dX10_make_34 : decode cX10_make 34 = .ok (.new 109, 3) := by decide +kernel
theorem dX10_make_37 : decode cX10_make 37 = .ok (.dup, 1) := by decide +kernel
theorem dX10_make_38 : decode cX10_make 38 = .ok (.iload_n 1, 1) := by decide +kernel
theorem dX10_make_39 : decode cX10_make 39 = .ok (.iload_n 2, 1) := by decide +kernel
theorem dX10_make_40 : decode cX10_make 40 = .ok (.iload_n 3, 1) := by decide +kernel
theorem dX10_make_41 : decode cX10_make 41 = .ok (.lload 4, 2) := by decide +kernel
theorem dX10_make_43 : decode cX10_make 43 = .ok (.invokespecial 116, 3) := by decide +kernel
theorem dX10_make_46 : decode cX10_make 46 = .ok (.invokespecial 119, 3) := by decide +kernel
theorem dX10_make_49 : decode cX10_make 49 = .ok (.astore 6, 2) := by decide +kernel
theorem dX10_make_51 : decode cX10_make 51 = .ok (.iload_n 2, 1) := by decide +kernel
theorem dX10_make_52 : decode cX10_make 52 = .ok (.iconst 1, 1) := by decide +kernel
theorem dX10_make_53 : decode cX10_make 53 = .ok (.if_icmp .ne 11, 3) := by decide +kernel
theorem dX10_make_56 : decode cX10_make 56 = .ok (.aload 6, 2) := by decide +kernel
theorem dX10_make_58 : decode cX10_make 58 = .ok (.invokevirtual 122, 3) := by decide +kernel
theorem dX10_make_61 : decode cX10_make 61 = .ok (.goto 8, 3) := by decide +kernel
theorem dX10_make_64 : decode cX10_make 64 = .ok (.aload 6, 2) := by decide +kernel
theorem dX10_make_66 : decode cX10_make 66 = .ok (.invokevirtual 125, 3) := by decide +kernel
theorem dX10_make_69 : decode cX10_make 69 = .ok (.aload_n 0, 1) := by decide +kernel
theorem dX10_make_70 : decode cX10_make 70 = .ok (.getfield 68, 3) := by decide +kernel
theorem dX10_make_73 : decode cX10_make 73 = .ok (.iconst 1, 1) := by decide +kernel
theorem dX10_make_74 : decode cX10_make 74 = .ok (.isub, 1) := by decide +kernel
theorem dX10_make_75 : decode cX10_make 75 = .ok (.ireturn, 1) := by decide +kernel
theorem dX10_drop_0 : decode cX10_drop 0 = .ok (.aload_n 0, 1) := by decide +kernel
theorem dX10_drop_1 : decode cX10_drop 1 = .ok (.getfield 68, 3) := by decide +kernel
theorem dX10_drop_4 : decode cX10_drop 4 = .ok (.ifCond .ne 5, 3) := by decide +kernel
theorem dX10_drop_7 : decode cX10_drop 7 = .ok (.iconst (-1), 1) := by decide +kernel
theorem dX10_drop_8 : decode cX10_drop 8 = .ok (.ireturn, 1) := by decide +kernel
theorem dX10_drop_9 : decode cX10_drop 9 = .ok (.aload_n 0, 1) := by decide +kernel
theorem dX10_drop_10 : decode cX10_drop 10 = .ok (.dup, 1) := by decide +kernel
theorem dX10_drop_11 : decode cX10_drop 11 = .ok (.getfield 68, 3) := by decide +kernel
theorem dX10_drop_14 : decode cX10_drop 14 = .ok (.iconst 1, 1) := by decide +kernel
theorem dX10_drop_15 : decode cX10_drop 15 = .ok (.isub, 1) := by decide +kernel
theorem dX10_drop_16 : decode cX10_drop 16 = .ok (.putfield 68, 3) := by decide +kernel
theorem dX10_drop_19 : decode cX10_drop 19 = .ok (.aload_n 0, 1) := by decide +kernel
theorem dX10_drop_20 : decode cX10_drop 20 = .ok (.getfield 39, 3) := by decide +kernel
theorem dX10_drop_23 : decode cX10_drop 23 = .ok (.aload_n 0, 1) := by decide +kernel
theorem dX10_drop_24 : decode cX10_drop 24 = .ok (.getfield 68, 3) := by decide +kernel
theorem dX10_drop_27 : decode cX10_drop 27 = .ok (.invokevirtual 128, 3) := by decide +kernel
theorem dX10_drop_30 : decode cX10_drop 30 = .ok (.aload_n 0, 1) := by decide +kernel
theorem dX10_drop_31 : decode cX10_drop 31 = .ok (.getfield 68, 3) := by decide +kernel
theorem dX10_drop_34 : decode cX10_drop 34 = .ok (.ireturn, 1) := by decide +kernel
theorem dX10_steps_0 : decode cX10_steps 0 = .ok (.aload_n 0, 1) := by decide +kernel
theorem dX10_steps_1 : decode cX10_steps 1 = .ok (.iload_n 1, 1) := by decide +kernel
theorem dX10_steps_2 : decode cX10_steps 2 = .ok (.invokevirtual 76, 3) := by decide +kernel
theorem dX10_steps_5 : decode cX10_steps 5 = .ok (.astore_n 2, 1) := by decide +kernel
theorem dX10_steps_6 : decode cX10_steps 6 = .ok (.aload_n 2, 1) := by decide +kernel
theorem dX10_steps_7 : decode cX10_steps 7 = .ok (.ifnonnull 7, 3) := by decide +kernel
theorem dX10_steps_10 : decode cX10_steps 10 = .ok (.iconst (-1), 1) := by decide +kernel
theorem dX10_steps_11 : decode cX10_steps 11 = .ok (.goto 7, 3) := by decide +kernel
theorem dX10_steps_14 : decode cX10_steps 14 = .ok (.aload_n 2, 1) := by decide +kernel
theorem dX10_steps_15 : decode cX10_steps 15 = .ok (.getfield 82, 3) := by decide +kernel
theorem dX10_steps_18 : decode cX10_steps 18 = .ok (.ireturn, 1) := by decide +kernel
theorem dX10_told_0 : decode cX10_told 0 = .ok (.aload_n 0, 1) := by decide +kernel
theorem dX10_told_1 : decode cX10_told 1 = .ok (.iload_n 1, 1) := by decide +kernel
theorem dX10_told_2 : decode cX10_told 2 = .ok (.invokevirtual 76, 3) := by decide +kernel
theorem dX10_told_5 : decode cX10_told 5 = .ok (.astore 4, 2) := by decide +kernel
theorem dX10_told_7 : decode cX10_told 7 = .ok (.aload 4, 2) := by decide +kernel
theorem dX10_told_9 : decode cX10_told 9 = .ok (.ifnull 12, 3) := by decide +kernel
theorem dX10_told_12 : decode cX10_told 12 = .ok (.aload 4, 2) := by decide +kernel
theorem dX10_told_14 : decode cX10_told 14 = .ok (.iload_n 2, 1) := by decide +kernel
theorem dX10_told_15 : decode cX10_told 15 = .ok (.invokevirtual 132, 3) := by decide +kernel
theorem dX10_told_18 : decode cX10_told 18 = .ok (.ifCond .ne 7, 3) := by decide +kernel
theorem dX10_told_21 : decode cX10_told 21 = .ok (.ldc2_w 135, 3) := by decide +kernel
theorem dX10_told_24 : decode cX10_told 24 = .ok (.lreturn, 1) := by decide +kernel
theorem dX10_told_25 : decode cX10_told 25 = .ok (.iload_n 3, 1) := by decide +kernel
theorem dX10_told_26 : decode cX10_told 26 = .ok (.tableswitch 52 0 2 #[26, 35, 44], 26) := by decide +kernel
theorem dX10_told_52 : decode cX10_told 52 = .ok (.aload 4, 2) := by decide +kernel
theorem dX10_told_54 : decode cX10_told 54 = .ok (.getfield 137, 3) := by decide +kernel
theorem dX10_told_57 : decode cX10_told 57 = .ok (.iload_n 2, 1) := by decide +kernel
theorem dX10_told_58 : decode cX10_told 58 = .ok (.iaload, 1) := by decide +kernel
theorem dX10_told_59 : decode cX10_told 59 = .ok (.i2l, 1) := by decide +kernel
theorem dX10_told_60 : decode cX10_told 60 = .ok (.lreturn, 1) := by decide +kernel
theorem dX10_told_61 : decode cX10_told 61 = .ok (.aload 4, 2) := by decide +kernel
theorem dX10_told_63 : decode cX10_told 63 = .ok (.getfield 140, 3) := by decide +kernel
theorem dX10_told_66 : decode cX10_told 66 = .ok (.iload_n 2, 1) := by decide +kernel
theorem dX10_told_67 : decode cX10_told 67 = .ok (.iaload, 1) := by decide +kernel
theorem dX10_told_68 : decode cX10_told 68 = .ok (.i2l, 1) := by decide +kernel
theorem dX10_told_69 : decode cX10_told 69 = .ok (.lreturn, 1) := by decide +kernel
theorem dX10_told_70 : decode cX10_told 70 = .ok (.aload 4, 2) := by decide +kernel
theorem dX10_told_72 : decode cX10_told 72 = .ok (.getfield 143, 3) := by decide +kernel
theorem dX10_told_75 : decode cX10_told 75 = .ok (.iload_n 2, 1) := by decide +kernel
theorem dX10_told_76 : decode cX10_told 76 = .ok (.laload, 1) := by decide +kernel
theorem dX10_told_77 : decode cX10_told 77 = .ok (.lreturn, 1) := by decide +kernel
theorem dX10_told_78 : decode cX10_told 78 = .ok (.ldc2_w 135, 3) := by decide +kernel
theorem dX10_told_81 : decode cX10_told 81 = .ok (.lreturn, 1) := by decide +kernel
theorem dX10_width_0 : decode cX10_width 0 = .ok (.aload_n 0, 1) := by decide +kernel
theorem dX10_width_1 : decode cX10_width 1 = .ok (.iload_n 1, 1) := by decide +kernel
theorem dX10_width_2 : decode cX10_width 2 = .ok (.invokevirtual 76, 3) := by decide +kernel
theorem dX10_width_5 : decode cX10_width 5 = .ok (.astore_n 2, 1) := by decide +kernel
theorem dX10_width_6 : decode cX10_width 6 = .ok (.aload_n 2, 1) := by decide +kernel
theorem dX10_width_7 : decode cX10_width 7 = .ok (.ifnonnull 7, 3) := by decide +kernel
theorem dX10_width_10 : decode cX10_width 10 = .ok (.iconst (-1), 1) := by decide +kernel
theorem dX10_width_11 : decode cX10_width 11 = .ok (.goto 7, 3) := by decide +kernel
theorem dX10_width_14 : decode cX10_width 14 = .ok (.aload_n 2, 1) := by decide +kernel
theorem dX10_width_15 : decode cX10_width 15 = .ok (.getfield 89, 3) := by decide +kernel
theorem dX10_width_18 : decode cX10_width 18 = .ok (.ireturn, 1) := by decide +kernel
theorem dX10_cost_0 : decode cX10_cost 0 = .ok (.aload_n 0, 1) := by decide +kernel
theorem dX10_cost_1 : decode cX10_cost 1 = .ok (.iload_n 1, 1) := by decide +kernel
theorem dX10_cost_2 : decode cX10_cost 2 = .ok (.invokevirtual 76, 3) := by decide +kernel
theorem dX10_cost_5 : decode cX10_cost 5 = .ok (.astore_n 2, 1) := by decide +kernel
theorem dX10_cost_6 : decode cX10_cost 6 = .ok (.aload_n 2, 1) := by decide +kernel
theorem dX10_cost_7 : decode cX10_cost 7 = .ok (.ifnonnull 5, 3) := by decide +kernel
theorem dX10_cost_10 : decode cX10_cost 10 = .ok (.iconst (-1), 1) := by decide +kernel
theorem dX10_cost_11 : decode cX10_cost 11 = .ok (.ireturn, 1) := by decide +kernel
theorem dX10_cost_12 : decode cX10_cost 12 = .ok (.iconst 0, 1) := by decide +kernel
theorem dX10_cost_13 : decode cX10_cost 13 = .ok (.istore_n 3, 1) := by decide +kernel
theorem dX10_cost_14 : decode cX10_cost 14 = .ok (.iconst 0, 1) := by decide +kernel
theorem dX10_cost_15 : decode cX10_cost 15 = .ok (.istore 4, 2) := by decide +kernel
theorem dX10_cost_17 : decode cX10_cost 17 = .ok (.iload 4, 2) := by decide +kernel
theorem dX10_cost_19 : decode cX10_cost 19 = .ok (.aload_n 2, 1) := by decide +kernel
theorem dX10_cost_20 : decode cX10_cost 20 = .ok (.getfield 82, 3) := by decide +kernel
theorem dX10_cost_23 : decode cX10_cost 23 = .ok (.if_icmp .ge 24, 3) := by decide +kernel
theorem dX10_cost_26 : decode cX10_cost 26 = .ok (.iload_n 3, 1) := by decide +kernel
theorem dX10_cost_27 : decode cX10_cost 27 = .ok (.aload_n 0, 1) := by decide +kernel
theorem dX10_cost_28 : decode cX10_cost 28 = .ok (.getfield 15, 3) := by decide +kernel
theorem dX10_cost_31 : decode cX10_cost 31 = .ok (.aload_n 2, 1) := by decide +kernel
theorem dX10_cost_32 : decode cX10_cost 32 = .ok (.getfield 137, 3) := by decide +kernel
theorem dX10_cost_35 : decode cX10_cost 35 = .ok (.iload 4, 2) := by decide +kernel
theorem dX10_cost_37 : decode cX10_cost 37 = .ok (.iaload, 1) := by decide +kernel
theorem dX10_cost_38 : decode cX10_cost 38 = .ok (.iaload, 1) := by decide +kernel
theorem dX10_cost_39 : decode cX10_cost 39 = .ok (.iadd, 1) := by decide +kernel
theorem dX10_cost_40 : decode cX10_cost 40 = .ok (.istore_n 3, 1) := by decide +kernel
theorem dX10_cost_41 : decode cX10_cost 41 = .ok (.iinc 4 1, 3) := by decide +kernel
theorem dX10_cost_44 : decode cX10_cost 44 = .ok (.goto (-27), 3) := by decide +kernel
theorem dX10_cost_47 : decode cX10_cost 47 = .ok (.iload_n 3, 1) := by decide +kernel
theorem dX10_cost_48 : decode cX10_cost 48 = .ok (.ireturn, 1) := by decide +kernel
theorem dX10_price_0 : decode cX10_price 0 = .ok (.iload_n 1, 1) := by decide +kernel
theorem dX10_price_1 : decode cX10_price 1 = .ok (.invokestatic 79, 3) := by decide +kernel
theorem dX10_price_4 : decode cX10_price 4 = .ok (.ifCond .eq 14, 3) := by decide +kernel
theorem dX10_price_7 : decode cX10_price 7 = .ok (.iload_n 2, 1) := by decide +kernel
theorem dX10_price_8 : decode cX10_price 8 = .ok (.iconst 1, 1) := by decide +kernel
theorem dX10_price_9 : decode cX10_price 9 = .ok (.if_icmp .lt 9, 3) := by decide +kernel
theorem dX10_price_12 : decode cX10_price 12 = .ok (.iload_n 2, 1) := by decide +kernel
theorem dX10_price_13 : decode cX10_price 13 = .ok (.bipush 50, 2) := by decide +kernel
theorem dX10_price_15 : decode cX10_price 15 = .ok (.if_icmp .le 5, 3) := by decide +kernel
theorem dX10_price_18 : decode cX10_price 18 = .ok (.iconst (-1), 1) := by decide +kernel
theorem dX10_price_19 : decode cX10_price 19 = .ok (.ireturn, 1) := by decide +kernel
theorem dX10_price_20 : decode cX10_price 20 = .ok (.aload_n 0, 1) := by decide +kernel
theorem dX10_price_21 : decode cX10_price 21 = .ok (.getfield 15, 3) := by decide +kernel
theorem dX10_price_24 : decode cX10_price 24 = .ok (.iload_n 1, 1) := by decide +kernel
theorem dX10_price_25 : decode cX10_price 25 = .ok (.iaload, 1) := by decide +kernel
theorem dX10_price_26 : decode cX10_price 26 = .ok (.istore_n 3, 1) := by decide +kernel
theorem dX10_price_27 : decode cX10_price 27 = .ok (.aload_n 0, 1) := by decide +kernel
theorem dX10_price_28 : decode cX10_price 28 = .ok (.getfield 15, 3) := by decide +kernel
theorem dX10_price_31 : decode cX10_price 31 = .ok (.iload_n 1, 1) := by decide +kernel
theorem dX10_price_32 : decode cX10_price 32 = .ok (.iload_n 2, 1) := by decide +kernel
theorem dX10_price_33 : decode cX10_price 33 = .ok (.iastore, 1) := by decide +kernel
theorem dX10_price_34 : decode cX10_price 34 = .ok (.aload_n 0, 1) := by decide +kernel
theorem dX10_price_35 : decode cX10_price 35 = .ok (.getfield 39, 3) := by decide +kernel
theorem dX10_price_38 : decode cX10_price 38 = .ok (.new 100, 3) := by decide +kernel
theorem dX10_price_41 : decode cX10_price 41 = .ok (.dup, 1) := by decide +kernel
theorem dX10_price_42 : decode cX10_price 42 = .ok (.iconst 2, 1) := by decide +kernel
theorem dX10_price_43 : decode cX10_price 43 = .ok (.iload_n 1, 1) := by decide +kernel
theorem dX10_price_44 : decode cX10_price 44 = .ok (.iconst 0, 1) := by decide +kernel
theorem dX10_price_45 : decode cX10_price 45 = .ok (.iload_n 3, 1) := by decide +kernel
theorem dX10_price_46 : decode cX10_price 46 = .ok (.i2l, 1) := by decide +kernel
theorem dX10_price_47 : decode cX10_price 47 = .ok (.aconst_null, 1) := by decide +kernel
theorem dX10_price_48 : decode cX10_price 48 = .ok (.invokespecial 102, 3) := by decide +kernel
theorem dX10_price_51 : decode cX10_price 51 = .ok (.invokevirtual 105, 3) := by decide +kernel
theorem dX10_price_54 : decode cX10_price 54 = .ok (.iload_n 3, 1) := by decide +kernel
theorem dX10_price_55 : decode cX10_price 55 = .ok (.ireturn, 1) := by decide +kernel
theorem dX10_run_0 : decode cX10_run 0 = .ok (.aload_n 0, 1) := by decide +kernel
theorem dX10_run_1 : decode cX10_run 1 = .ok (.iload_n 1, 1) := by decide +kernel
theorem dX10_run_2 : decode cX10_run 2 = .ok (.invokevirtual 76, 3) := by decide +kernel
theorem dX10_run_5 : decode cX10_run 5 = .ok (.astore 4, 2) := by decide +kernel
theorem dX10_run_7 : decode cX10_run 7 = .ok (.aload 4, 2) := by decide +kernel
theorem dX10_run_9 : decode cX10_run 9 = .ok (.ifnonnull 5, 3) := by decide +kernel
theorem dX10_run_12 : decode cX10_run 12 = .ok (.lconst 0, 1) := by decide +kernel
theorem dX10_run_13 : decode cX10_run 13 = .ok (.lreturn, 1) := by decide +kernel
theorem dX10_run_14 : decode cX10_run 14 = .ok (.aload 4, 2) := by decide +kernel
theorem dX10_run_16 : decode cX10_run 16 = .ok (.lload_n 2, 1) := by decide +kernel
theorem dX10_run_17 : decode cX10_run 17 = .ok (.aload 4, 2) := by decide +kernel
theorem dX10_run_19 : decode cX10_run 19 = .ok (.getfield 82, 3) := by decide +kernel
theorem dX10_run_22 : decode cX10_run 22 = .ok (.aload_n 0, 1) := by decide +kernel
theorem dX10_run_23 : decode cX10_run 23 = .ok (.getfield 50, 3) := by decide +kernel
theorem dX10_run_26 : decode cX10_run 26 = .ok (.invokevirtual 146, 3) := by decide +kernel
theorem dX10_run_29 : decode cX10_run 29 = .ok (.aload_n 0, 1) := by decide +kernel
theorem dX10_run_30 : decode cX10_run 30 = .ok (.getfield 50, 3) := by decide +kernel
theorem dX10_run_33 : decode cX10_run 33 = .ok (.aload 4, 2) := by decide +kernel
theorem dX10_run_35 : decode cX10_run 35 = .ok (.getfield 82, 3) := by decide +kernel
theorem dX10_run_38 : decode cX10_run 38 = .ok (.laload, 1) := by decide +kernel
theorem dX10_run_39 : decode cX10_run 39 = .ok (.lreturn, 1) := by decide +kernel
theorem dX10_end_0 : decode cX10_end 0 = .ok (.aload_n 0, 1) := by decide +kernel
theorem dX10_end_1 : decode cX10_end 1 = .ok (.iload_n 1, 1) := by decide +kernel
theorem dX10_end_2 : decode cX10_end 2 = .ok (.invokevirtual 76, 3) := by decide +kernel
theorem dX10_end_5 : decode cX10_end 5 = .ok (.astore 5, 2) := by decide +kernel
theorem dX10_end_7 : decode cX10_end 7 = .ok (.aload 5, 2) := by decide +kernel
theorem dX10_end_9 : decode cX10_end 9 = .ok (.ifnull 13, 3) := by decide +kernel
theorem dX10_end_12 : decode cX10_end 12 = .ok (.aload 5, 2) := by decide +kernel
theorem dX10_end_14 : decode cX10_end 14 = .ok (.iload 4, 2) := by decide +kernel
theorem dX10_end_16 : decode cX10_end 16 = .ok (.invokevirtual 132, 3) := by decide +kernel
theorem dX10_end_19 : decode cX10_end 19 = .ok (.ifCond .ne 5, 3) := by decide +kernel
theorem dX10_end_22 : decode cX10_end 22 = .ok (.lconst 0, 1) := by decide +kernel
theorem dX10_end_23 : decode cX10_end 23 = .ok (.lreturn, 1) := by decide +kernel
theorem dX10_end_24 : decode cX10_end 24 = .ok (.aload 5, 2) := by decide +kernel
theorem dX10_end_26 : decode cX10_end 26 = .ok (.lload_n 2, 1) := by decide +kernel
theorem dX10_end_27 : decode cX10_end 27 = .ok (.iload 4, 2) := by decide +kernel
theorem dX10_end_29 : decode cX10_end 29 = .ok (.iconst 1, 1) := by decide +kernel
theorem dX10_end_30 : decode cX10_end 30 = .ok (.iadd, 1) := by decide +kernel
theorem dX10_end_31 : decode cX10_end 31 = .ok (.aload_n 0, 1) := by decide +kernel
theorem dX10_end_32 : decode cX10_end 32 = .ok (.getfield 50, 3) := by decide +kernel
theorem dX10_end_35 : decode cX10_end 35 = .ok (.invokevirtual 146, 3) := by decide +kernel
theorem dX10_end_38 : decode cX10_end 38 = .ok (.aload_n 0, 1) := by decide +kernel
theorem dX10_end_39 : decode cX10_end 39 = .ok (.getfield 50, 3) := by decide +kernel
theorem dX10_end_42 : decode cX10_end 42 = .ok (.iload 4, 2) := by decide +kernel
theorem dX10_end_44 : decode cX10_end 44 = .ok (.iconst 1, 1) := by decide +kernel
theorem dX10_end_45 : decode cX10_end 45 = .ok (.iadd, 1) := by decide +kernel
theorem dX10_end_46 : decode cX10_end 46 = .ok (.laload, 1) := by decide +kernel
theorem dX10_end_47 : decode cX10_end 47 = .ok (.lreturn, 1) := by decide +kernel
theorem dX10_fails_0 : decode cX10_fails 0 = .ok (.aload_n 0, 1) := by decide +kernel
theorem dX10_fails_1 : decode cX10_fails 1 = .ok (.iload_n 1, 1) := by decide +kernel
theorem dX10_fails_2 : decode cX10_fails 2 = .ok (.invokevirtual 76, 3) := by decide +kernel
theorem dX10_fails_5 : decode cX10_fails 5 = .ok (.astore 6, 2) := by decide +kernel
theorem dX10_fails_7 : decode cX10_fails 7 = .ok (.aload 6, 2) := by decide +kernel
theorem dX10_fails_9 : decode cX10_fails 9 = .ok (.ifnull 28, 3) := by decide +kernel
theorem dX10_fails_12 : decode cX10_fails 12 = .ok (.aload 6, 2) := by decide +kernel
theorem dX10_fails_14 : decode cX10_fails 14 = .ok (.getfield 89, 3) := by decide +kernel
theorem dX10_fails_17 : decode cX10_fails 17 = .ok (.bipush 16, 2) := by decide +kernel
theorem dX10_fails_19 : decode cX10_fails 19 = .ok (.if_icmp .gt 18, 3) := by decide +kernel
theorem dX10_fails_22 : decode cX10_fails 22 = .ok (.aload 6, 2) := by decide +kernel
theorem dX10_fails_24 : decode cX10_fails 24 = .ok (.getfield 89, 3) := by decide +kernel
theorem dX10_fails_27 : decode cX10_fails 27 = .ok (.iload_n 2, 1) := by decide +kernel
theorem dX10_fails_28 : decode cX10_fails 28 = .ok (.iload_n 3, 1) := by decide +kernel
theorem dX10_fails_29 : decode cX10_fails 29 = .ok (.lload 4, 2) := by decide +kernel
theorem dX10_fails_31 : decode cX10_fails 31 = .ok (.invokestatic 108, 3) := by decide +kernel
theorem dX10_fails_34 : decode cX10_fails 34 = .ok (.ifCond .ne 5, 3) := by decide +kernel
theorem dX10_fails_37 : decode cX10_fails 37 = .ok (.iconst (-1), 1) := by decide +kernel
theorem dX10_fails_38 : decode cX10_fails 38 = .ok (.ireturn, 1) := by decide +kernel
theorem dX10_fails_39 : decode cX10_fails 39 = .ok (.new 109, 3) := by decide +kernel
theorem dX10_fails_42 : decode cX10_fails 42 = .ok (.dup, 1) := by decide +kernel
theorem dX10_fails_43 : decode cX10_fails 43 = .ok (.aload 6, 2) := by decide +kernel
theorem dX10_fails_45 : decode cX10_fails 45 = .ok (.getfield 89, 3) := by decide +kernel
theorem dX10_fails_48 : decode cX10_fails 48 = .ok (.iload_n 2, 1) := by decide +kernel
theorem dX10_fails_49 : decode cX10_fails 49 = .ok (.iload_n 3, 1) := by decide +kernel
theorem dX10_fails_50 : decode cX10_fails 50 = .ok (.lload 4, 2) := by decide +kernel
theorem dX10_fails_52 : decode cX10_fails 52 = .ok (.invokespecial 116, 3) := by decide +kernel
theorem dX10_fails_55 : decode cX10_fails 55 = .ok (.astore 7, 2) := by decide +kernel
theorem dX10_fails_57 : decode cX10_fails 57 = .ok (.iconst 1, 1) := by decide +kernel
theorem dX10_fails_58 : decode cX10_fails 58 = .ok (.aload 6, 2) := by decide +kernel
theorem dX10_fails_60 : decode cX10_fails 60 = .ok (.getfield 89, 3) := by decide +kernel
theorem dX10_fails_63 : decode cX10_fails 63 = .ok (.ishl, 1) := by decide +kernel
theorem dX10_fails_64 : decode cX10_fails 64 = .ok (.istore 8, 2) := by decide +kernel
theorem dX10_fails_66 : decode cX10_fails 66 = .ok (.iconst 0, 1) := by decide +kernel
theorem dX10_fails_67 : decode cX10_fails 67 = .ok (.istore 9, 2) := by decide +kernel
theorem dX10_fails_69 : decode cX10_fails 69 = .ok (.iload 9, 2) := by decide +kernel
theorem dX10_fails_71 : decode cX10_fails 71 = .ok (.iload 8, 2) := by decide +kernel
theorem dX10_fails_73 : decode cX10_fails 73 = .ok (.if_icmp .ge 62, 3) := by decide +kernel
theorem dX10_fails_76 : decode cX10_fails 76 = .ok (.aload 6, 2) := by decide +kernel
theorem dX10_fails_78 : decode cX10_fails 78 = .ok (.iload 9, 2) := by decide +kernel
theorem dX10_fails_80 : decode cX10_fails 80 = .ok (.i2l, 1) := by decide +kernel
theorem dX10_fails_81 : decode cX10_fails 81 = .ok (.aload 6, 2) := by decide +kernel
theorem dX10_fails_83 : decode cX10_fails 83 = .ok (.getfield 82, 3) := by decide +kernel
theorem dX10_fails_86 : decode cX10_fails 86 = .ok (.aload_n 0, 1) := by decide +kernel
theorem dX10_fails_87 : decode cX10_fails 87 = .ok (.getfield 50, 3) := by decide +kernel
theorem dX10_fails_90 : decode cX10_fails 90 = .ok (.invokevirtual 146, 3) := by decide +kernel
theorem dX10_fails_93 : decode cX10_fails 93 = .ok (.aload_n 0, 1) := by decide +kernel
theorem dX10_fails_94 : decode cX10_fails 94 = .ok (.getfield 50, 3) := by decide +kernel
theorem dX10_fails_97 : decode cX10_fails 97 = .ok (.aload 6, 2) := by decide +kernel
theorem dX10_fails_99 : decode cX10_fails 99 = .ok (.getfield 82, 3) := by decide +kernel
theorem dX10_fails_102 : decode cX10_fails 102 = .ok (.laload, 1) := by decide +kernel
theorem dX10_fails_103 : decode cX10_fails 103 = .ok (.aload 7, 2) := by decide +kernel
theorem dX10_fails_105 : decode cX10_fails 105 = .ok (.iload 9, 2) := by decide +kernel
theorem dX10_fails_107 : decode cX10_fails 107 = .ok (.i2l, 1) := by decide +kernel
theorem dX10_fails_108 : decode cX10_fails 108 = .ok (.invokevirtual 150, 3) := by decide +kernel
theorem dX10_fails_111 : decode cX10_fails 111 = .ok (.lcmp, 1) := by decide +kernel
theorem dX10_fails_112 : decode cX10_fails 112 = .ok (.ifCond .eq 17, 3) := by decide +kernel
theorem dX10_fails_115 : decode cX10_fails 115 = .ok (.aload 7, 2) := by decide +kernel
theorem dX10_fails_117 : decode cX10_fails 117 = .ok (.iload 9, 2) := by decide +kernel
theorem dX10_fails_119 : decode cX10_fails 119 = .ok (.i2l, 1) := by decide +kernel
theorem dX10_fails_120 : decode cX10_fails 120 = .ok (.invokevirtual 154, 3) := by decide +kernel
theorem dX10_fails_123 : decode cX10_fails 123 = .ok (.ifCond .eq 6, 3) := by decide +kernel
theorem dX10_fails_126 : decode cX10_fails 126 = .ok (.iload 9, 2) := by decide +kernel
theorem dX10_fails_128 : decode cX10_fails 128 = .ok (.ireturn, 1) := by decide +kernel
theorem dX10_fails_129 : decode cX10_fails 129 = .ok (.iinc 9 1, 3) := by decide +kernel
theorem dX10_fails_132 : decode cX10_fails 132 = .ok (.goto (-63), 3) := by decide +kernel
theorem dX10_fails_135 : decode cX10_fails 135 = .ok (.bipush (-3), 2) := by decide +kernel
theorem dX10_fails_137 : decode cX10_fails 137 = .ok (.ireturn, 1) := by decide +kernel
theorem dX10_plain_0 : decode cX10_plain 0 = .ok (.iload_n 1, 1) := by decide +kernel
theorem dX10_plain_1 : decode cX10_plain 1 = .ok (.iload_n 2, 1) := by decide +kernel
theorem dX10_plain_2 : decode cX10_plain 2 = .ok (.iload_n 3, 1) := by decide +kernel
theorem dX10_plain_3 : decode cX10_plain 3 = .ok (.lload 4, 2) := by decide +kernel
theorem dX10_plain_5 : decode cX10_plain 5 = .ok (.invokestatic 108, 3) := by decide +kernel
theorem dX10_plain_8 : decode cX10_plain 8 = .ok (.ifCond .ne 5, 3) := by decide +kernel
theorem dX10_plain_11 : decode cX10_plain 11 = .ok (.lconst 0, 1) := by decide +kernel
theorem dX10_plain_12 : decode cX10_plain 12 = .ok (.lreturn, 1) := by decide +kernel
theorem dX10_plain_13 : decode cX10_plain 13 = .ok (.new 109, 3) := by decide +kernel
theorem dX10_plain_16 : decode cX10_plain 16 = .ok (.dup, 1) := by decide +kernel
theorem dX10_plain_17 : decode cX10_plain 17 = .ok (.iload_n 1, 1) := by decide +kernel
theorem dX10_plain_18 : decode cX10_plain 18 = .ok (.iload_n 2, 1) := by decide +kernel
theorem dX10_plain_19 : decode cX10_plain 19 = .ok (.iload_n 3, 1) := by decide +kernel
theorem dX10_plain_20 : decode cX10_plain 20 = .ok (.lload 4, 2) := by decide +kernel
theorem dX10_plain_22 : decode cX10_plain 22 = .ok (.invokespecial 116, 3) := by decide +kernel
theorem dX10_plain_25 : decode cX10_plain 25 = .ok (.lload 6, 2) := by decide +kernel
theorem dX10_plain_27 : decode cX10_plain 27 = .ok (.invokevirtual 150, 3) := by decide +kernel
theorem dX10_plain_30 : decode cX10_plain 30 = .ok (.lreturn, 1) := by decide +kernel
theorem dX10_proof_0 : decode cX10_proof 0 = .ok (.iload_n 1, 1) := by decide +kernel
theorem dX10_proof_1 : decode cX10_proof 1 = .ok (.invokestatic 62, 3) := by decide +kernel
theorem dX10_proof_4 : decode cX10_proof 4 = .ok (.ifCond .eq 14, 3) := by decide +kernel
theorem dX10_proof_7 : decode cX10_proof 7 = .ok (.iload 4, 2) := by decide +kernel
theorem dX10_proof_9 : decode cX10_proof 9 = .ok (.ifCond .lt 9, 3) := by decide +kernel
theorem dX10_proof_12 : decode cX10_proof 12 = .ok (.iload 4, 2) := by decide +kernel
theorem dX10_proof_14 : decode cX10_proof 14 = .ok (.iconst 3, 1) := by decide +kernel
theorem dX10_proof_15 : decode cX10_proof 15 = .ok (.if_icmp .le 7, 3) := by decide +kernel
theorem dX10_proof_18 : decode cX10_proof 18 = .ok (.ldc2_w 135, 3) := by decide +kernel
theorem dX10_proof_21 : decode cX10_proof 21 = .ok (.lreturn, 1) := by decide +kernel
theorem dX10_proof_22 : decode cX10_proof 22 = .ok (.lload_n 2, 1) := by decide +kernel
theorem dX10_proof_23 : decode cX10_proof 23 = .ok (.iload_n 1, 1) := by decide +kernel
theorem dX10_proof_24 : decode cX10_proof 24 = .ok (.invokestatic 92, 3) := by decide +kernel
theorem dX10_proof_27 : decode cX10_proof 27 = .ok (.land, 1) := by decide +kernel
theorem dX10_proof_28 : decode cX10_proof 28 = .ok (.lstore 5, 2) := by decide +kernel
theorem dX10_proof_30 : decode cX10_proof 30 = .ok (.lload 5, 2) := by decide +kernel
theorem dX10_proof_32 : decode cX10_proof 32 = .ok (.lconst 0, 1) := by decide +kernel
theorem dX10_proof_33 : decode cX10_proof 33 = .ok (.lcmp, 1) := by decide +kernel
theorem dX10_proof_34 : decode cX10_proof 34 = .ok (.ifCond .ne 7, 3) := by decide +kernel
theorem dX10_proof_37 : decode cX10_proof 37 = .ok (.ldc2_w 135, 3) := by decide +kernel
theorem dX10_proof_40 : decode cX10_proof 40 = .ok (.lreturn, 1) := by decide +kernel
theorem dX10_proof_41 : decode cX10_proof 41 = .ok (.lload 5, 2) := by decide +kernel
theorem dX10_proof_43 : decode cX10_proof 43 = .ok (.lload 5, 2) := by decide +kernel
theorem dX10_proof_45 : decode cX10_proof 45 = .ok (.lconst 1, 1) := by decide +kernel
theorem dX10_proof_46 : decode cX10_proof 46 = .ok (.lsub, 1) := by decide +kernel
theorem dX10_proof_47 : decode cX10_proof 47 = .ok (.land, 1) := by decide +kernel
theorem dX10_proof_48 : decode cX10_proof 48 = .ok (.lconst 0, 1) := by decide +kernel
theorem dX10_proof_49 : decode cX10_proof 49 = .ok (.lcmp, 1) := by decide +kernel
theorem dX10_proof_50 : decode cX10_proof 50 = .ok (.ifCond .ne 5, 3) := by decide +kernel
theorem dX10_proof_53 : decode cX10_proof 53 = .ok (.lconst 0, 1) := by decide +kernel
theorem dX10_proof_54 : decode cX10_proof 54 = .ok (.lreturn, 1) := by decide +kernel
theorem dX10_proof_55 : decode cX10_proof 55 = .ok (.new 158, 3) := by decide +kernel
theorem dX10_proof_58 : decode cX10_proof 58 = .ok (.dup, 1) := by decide +kernel
theorem dX10_proof_59 : decode cX10_proof 59 = .ok (.iload_n 1, 1) := by decide +kernel
theorem dX10_proof_60 : decode cX10_proof 60 = .ok (.lload 5, 2) := by decide +kernel
theorem dX10_proof_62 : decode cX10_proof 62 = .ok (.iconst 0, 1) := by decide +kernel
theorem dX10_proof_63 : decode cX10_proof 63 = .ok (.invokespecial 160, 3) := by decide +kernel
theorem dX10_proof_66 : decode cX10_proof 66 = .ok (.astore 7, 2) := by decide +kernel
theorem dX10_proof_68 : decode cX10_proof 68 = .ok (.iload 4, 2) := by decide +kernel
theorem dX10_proof_70 : decode cX10_proof 70 = .ok (.tableswitch 53 0 2 #[26, 33, 39], 26) := by decide +kernel
theorem dX10_proof_96 : decode cX10_proof 96 = .ok (.aload 7, 2) := by decide +kernel
theorem dX10_proof_98 : decode cX10_proof 98 = .ok (.getfield 163, 3) := by decide +kernel
theorem dX10_proof_101 : decode cX10_proof 101 = .ok (.i2l, 1) := by decide +kernel
theorem dX10_proof_102 : decode cX10_proof 102 = .ok (.lreturn, 1) := by decide +kernel
theorem dX10_proof_103 : decode cX10_proof 103 = .ok (.aload 7, 2) := by decide +kernel
theorem dX10_proof_105 : decode cX10_proof 105 = .ok (.getfield 166, 3) := by decide +kernel
theorem dX10_proof_108 : decode cX10_proof 108 = .ok (.lreturn, 1) := by decide +kernel
theorem dX10_proof_109 : decode cX10_proof 109 = .ok (.aload 7, 2) := by decide +kernel
theorem dX10_proof_111 : decode cX10_proof 111 = .ok (.getfield 170, 3) := by decide +kernel
theorem dX10_proof_114 : decode cX10_proof 114 = .ok (.ifCond .eq 7, 3) := by decide +kernel
theorem dX10_proof_117 : decode cX10_proof 117 = .ok (.lconst 1, 1) := by decide +kernel
theorem dX10_proof_118 : decode cX10_proof 118 = .ok (.goto 4, 3) := by decide +kernel
theorem dX10_proof_121 : decode cX10_proof 121 = .ok (.lconst 0, 1) := by decide +kernel
theorem dX10_proof_122 : decode cX10_proof 122 = .ok (.lreturn, 1) := by decide +kernel
theorem dX10_proof_123 : decode cX10_proof 123 = .ok (.aload 7, 2) := by decide +kernel
theorem dX10_proof_125 : decode cX10_proof 125 = .ok (.getfield 174, 3) := by decide +kernel
theorem dX10_proof_128 : decode cX10_proof 128 = .ok (.lreturn, 1) := by decide +kernel
theorem dX10_check_0 : decode cX10_check 0 = .ok (.iload_n 1, 1) := by decide +kernel
theorem dX10_check_1 : decode cX10_check 1 = .ok (.invokestatic 62, 3) := by decide +kernel
theorem dX10_check_4 : decode cX10_check 4 = .ok (.ifCond .eq 25, 3) := by decide +kernel
theorem dX10_check_7 : decode cX10_check 7 = .ok (.iload 4, 2) := by decide +kernel
theorem dX10_check_9 : decode cX10_check 9 = .ok (.ifCond .lt 20, 3) := by decide +kernel
theorem dX10_check_12 : decode cX10_check 12 = .ok (.iload 4, 2) := by decide +kernel
theorem dX10_check_14 : decode cX10_check 14 = .ok (.iload_n 1, 1) := by decide +kernel
theorem dX10_check_15 : decode cX10_check 15 = .ok (.if_icmp .gt 14, 3) := by decide +kernel
theorem dX10_check_18 : decode cX10_check 18 = .ok (.iload 7, 2) := by decide +kernel
theorem dX10_check_20 : decode cX10_check 20 = .ok (.ifCond .lt 9, 3) := by decide +kernel
theorem dX10_check_23 : decode cX10_check 23 = .ok (.iload 7, 2) := by decide +kernel
theorem dX10_check_25 : decode cX10_check 25 = .ok (.iconst 1, 1) := by decide +kernel
theorem dX10_check_26 : decode cX10_check 26 = .ok (.if_icmp .le 5, 3) := by decide +kernel
theorem dX10_check_29 : decode cX10_check 29 = .ok (.iconst (-1), 1) := by decide +kernel
theorem dX10_check_30 : decode cX10_check 30 = .ok (.ireturn, 1) := by decide +kernel
theorem dX10_check_31 : decode cX10_check 31 = .ok (.iload_n 1, 1) := by decide +kernel
theorem dX10_check_32 : decode cX10_check 32 = .ok (.invokestatic 92, 3) := by decide +kernel
theorem dX10_check_35 : decode cX10_check 35 = .ok (.lstore 8, 2) := by decide +kernel
theorem dX10_check_37 : decode cX10_check 37 = .ok (.lload_n 2, 1) := by decide +kernel
theorem dX10_check_38 : decode cX10_check 38 = .ok (.lload 8, 2) := by decide +kernel
theorem dX10_check_40 : decode cX10_check 40 = .ok (.land, 1) := by decide +kernel
theorem dX10_check_41 : decode cX10_check 41 = .ok (.lstore 10, 2) := by decide +kernel
theorem dX10_check_43 : decode cX10_check 43 = .ok (.lload 10, 2) := by decide +kernel
theorem dX10_check_45 : decode cX10_check 45 = .ok (.lconst 0, 1) := by decide +kernel
theorem dX10_check_46 : decode cX10_check 46 = .ok (.lcmp, 1) := by decide +kernel
theorem dX10_check_47 : decode cX10_check 47 = .ok (.ifCond .ne 5, 3) := by decide +kernel
theorem dX10_check_50 : decode cX10_check 50 = .ok (.iconst (-1), 1) := by decide +kernel
theorem dX10_check_51 : decode cX10_check 51 = .ok (.ireturn, 1) := by decide +kernel
theorem dX10_check_52 : decode cX10_check 52 = .ok (.lload 5, 2) := by decide +kernel
theorem dX10_check_54 : decode cX10_check 54 = .ok (.lload 8, 2) := by decide +kernel
theorem dX10_check_56 : decode cX10_check 56 = .ok (.land, 1) := by decide +kernel
theorem dX10_check_57 : decode cX10_check 57 = .ok (.lstore 12, 2) := by decide +kernel
theorem dX10_check_59 : decode cX10_check 59 = .ok (.lload 12, 2) := by decide +kernel
theorem dX10_check_61 : decode cX10_check 61 = .ok (.lload 10, 2) := by decide +kernel
theorem dX10_check_63 : decode cX10_check 63 = .ok (.lmul, 1) := by decide +kernel
theorem dX10_check_64 : decode cX10_check 64 = .ok (.lload 8, 2) := by decide +kernel
theorem dX10_check_66 : decode cX10_check 66 = .ok (.land, 1) := by decide +kernel
theorem dX10_check_67 : decode cX10_check 67 = .ok (.lstore 14, 2) := by decide +kernel
theorem dX10_check_69 : decode cX10_check 69 = .ok (.iload_n 1, 1) := by decide +kernel
theorem dX10_check_70 : decode cX10_check 70 = .ok (.lload 12, 2) := by decide +kernel
theorem dX10_check_72 : decode cX10_check 72 = .ok (.lload 10, 2) := by decide +kernel
theorem dX10_check_74 : decode cX10_check 74 = .ok (.invokestatic 177, 3) := by decide +kernel
theorem dX10_check_77 : decode cX10_check 77 = .ok (.lstore 16, 2) := by decide +kernel
theorem dX10_check_79 : decode cX10_check 79 = .ok (.iconst 0, 1) := by decide +kernel
theorem dX10_check_80 : decode cX10_check 80 = .ok (.istore 18, 2) := by decide +kernel
theorem dX10_check_82 : decode cX10_check 82 = .ok (.iload 7, 2) := by decide +kernel
theorem dX10_check_84 : decode cX10_check 84 = .ok (.iconst 1, 1) := by decide +kernel
theorem dX10_check_85 : decode cX10_check 85 = .ok (.if_icmp .ne 26, 3) := by decide +kernel
theorem dX10_check_88 : decode cX10_check 88 = .ok (.lload 16, 2) := by decide +kernel
theorem dX10_check_90 : decode cX10_check 90 = .ok (.lload 10, 2) := by decide +kernel
theorem dX10_check_92 : decode cX10_check 92 = .ok (.ladd, 1) := by decide +kernel
theorem dX10_check_93 : decode cX10_check 93 = .ok (.lload 8, 2) := by decide +kernel
theorem dX10_check_95 : decode cX10_check 95 = .ok (.land, 1) := by decide +kernel
theorem dX10_check_96 : decode cX10_check 96 = .ok (.lstore 19, 2) := by decide +kernel
theorem dX10_check_98 : decode cX10_check 98 = .ok (.lload 19, 2) := by decide +kernel
theorem dX10_check_100 : decode cX10_check 100 = .ok (.lload 16, 2) := by decide +kernel
theorem dX10_check_102 : decode cX10_check 102 = .ok (.invokestatic 181, 3) := by decide +kernel
theorem dX10_check_105 : decode cX10_check 105 = .ok (.istore 18, 2) := by decide +kernel
theorem dX10_check_107 : decode cX10_check 107 = .ok (.lload 19, 2) := by decide +kernel
theorem dX10_check_109 : decode cX10_check 109 = .ok (.lstore 16, 2) := by decide +kernel
theorem dX10_check_111 : decode cX10_check 111 = .ok (.iload_n 1, 1) := by decide +kernel
theorem dX10_check_112 : decode cX10_check 112 = .ok (.iload 4, 2) := by decide +kernel
theorem dX10_check_114 : decode cX10_check 114 = .ok (.iload 18, 2) := by decide +kernel
theorem dX10_check_116 : decode cX10_check 116 = .ok (.lload 16, 2) := by decide +kernel
theorem dX10_check_118 : decode cX10_check 118 = .ok (.lload 14, 2) := by decide +kernel
theorem dX10_check_120 : decode cX10_check 120 = .ok (.invokestatic 185, 3) := by decide +kernel
theorem dX10_check_123 : decode cX10_check 123 = .ok (.ifCond .eq 7, 3) := by decide +kernel
theorem dX10_check_126 : decode cX10_check 126 = .ok (.iconst 1, 1) := by decide +kernel
theorem dX10_check_127 : decode cX10_check 127 = .ok (.goto 4, 3) := by decide +kernel
theorem dX10_check_130 : decode cX10_check 130 = .ok (.iconst 0, 1) := by decide +kernel
theorem dX10_check_131 : decode cX10_check 131 = .ok (.ireturn, 1) := by decide +kernel
theorem dX10_inverse_0 : decode cX10_inverse 0 = .ok (.iload_n 1, 1) := by decide +kernel
theorem dX10_inverse_1 : decode cX10_inverse 1 = .ok (.invokestatic 62, 3) := by decide +kernel
theorem dX10_inverse_4 : decode cX10_inverse 4 = .ok (.ifCond .eq 11, 3) := by decide +kernel
theorem dX10_inverse_7 : decode cX10_inverse 7 = .ok (.lload_n 2, 1) := by decide +kernel
theorem dX10_inverse_8 : decode cX10_inverse 8 = .ok (.lconst 1, 1) := by decide +kernel
theorem dX10_inverse_9 : decode cX10_inverse 9 = .ok (.land, 1) := by decide +kernel
theorem dX10_inverse_10 : decode cX10_inverse 10 = .ok (.lconst 0, 1) := by decide +kernel
theorem dX10_inverse_11 : decode cX10_inverse 11 = .ok (.lcmp, 1) := by decide +kernel
theorem dX10_inverse_12 : decode cX10_inverse 12 = .ok (.ifCond .ne 5, 3) := by decide +kernel
theorem dX10_inverse_15 : decode cX10_inverse 15 = .ok (.lconst 0, 1) := by decide +kernel
theorem dX10_inverse_16 : decode cX10_inverse 16 = .ok (.lreturn, 1) := by decide +kernel
theorem dX10_inverse_17 : decode cX10_inverse 17 = .ok (.iload_n 1, 1) := by decide +kernel
theorem dX10_inverse_18 : decode cX10_inverse 18 = .ok (.lload_n 2, 1) := by decide +kernel
theorem dX10_inverse_19 : decode cX10_inverse 19 = .ok (.invokestatic 189, 3) := by decide +kernel
theorem dX10_inverse_22 : decode cX10_inverse 22 = .ok (.lreturn, 1) := by decide +kernel
theorem dX10_tell_0 : decode cX10_tell 0 = .ok (.iload_n 1, 1) := by decide +kernel
theorem dX10_tell_1 : decode cX10_tell 1 = .ok (.ifCond .lt 8, 3) := by decide +kernel
theorem dX10_tell_4 : decode cX10_tell 4 = .ok (.iload_n 1, 1) := by decide +kernel
theorem dX10_tell_5 : decode cX10_tell 5 = .ok (.iconst 4, 1) := by decide +kernel
theorem dX10_tell_6 : decode cX10_tell 6 = .ok (.if_icmp .lt 5, 3) := by decide +kernel
theorem dX10_tell_9 : decode cX10_tell 9 = .ok (.lconst 0, 1) := by decide +kernel
theorem dX10_tell_10 : decode cX10_tell 10 = .ok (.lreturn, 1) := by decide +kernel
theorem dX10_tell_11 : decode cX10_tell 11 = .ok (.aload_n 0, 1) := by decide +kernel
theorem dX10_tell_12 : decode cX10_tell 12 = .ok (.getfield 19, 3) := by decide +kernel
theorem dX10_tell_15 : decode cX10_tell 15 = .ok (.iload_n 1, 1) := by decide +kernel
theorem dX10_tell_16 : decode cX10_tell 16 = .ok (.laload, 1) := by decide +kernel
theorem dX10_tell_17 : decode cX10_tell 17 = .ok (.lstore 4, 2) := by decide +kernel
theorem dX10_tell_19 : decode cX10_tell 19 = .ok (.aload_n 0, 1) := by decide +kernel
theorem dX10_tell_20 : decode cX10_tell 20 = .ok (.getfield 19, 3) := by decide +kernel
theorem dX10_tell_23 : decode cX10_tell 23 = .ok (.iload_n 1, 1) := by decide +kernel
theorem dX10_tell_24 : decode cX10_tell 24 = .ok (.lload_n 2, 1) := by decide +kernel
theorem dX10_tell_25 : decode cX10_tell 25 = .ok (.lastore, 1) := by decide +kernel
theorem dX10_tell_26 : decode cX10_tell 26 = .ok (.aload_n 0, 1) := by decide +kernel
theorem dX10_tell_27 : decode cX10_tell 27 = .ok (.getfield 39, 3) := by decide +kernel
theorem dX10_tell_30 : decode cX10_tell 30 = .ok (.new 100, 3) := by decide +kernel
theorem dX10_tell_33 : decode cX10_tell 33 = .ok (.dup, 1) := by decide +kernel
theorem dX10_tell_34 : decode cX10_tell 34 = .ok (.iconst 3, 1) := by decide +kernel
theorem dX10_tell_35 : decode cX10_tell 35 = .ok (.iload_n 1, 1) := by decide +kernel
theorem dX10_tell_36 : decode cX10_tell 36 = .ok (.iconst 0, 1) := by decide +kernel
theorem dX10_tell_37 : decode cX10_tell 37 = .ok (.lload 4, 2) := by decide +kernel
theorem dX10_tell_39 : decode cX10_tell 39 = .ok (.aconst_null, 1) := by decide +kernel
theorem dX10_tell_40 : decode cX10_tell 40 = .ok (.invokespecial 102, 3) := by decide +kernel
theorem dX10_tell_43 : decode cX10_tell 43 = .ok (.invokevirtual 105, 3) := by decide +kernel
theorem dX10_tell_46 : decode cX10_tell 46 = .ok (.lload 4, 2) := by decide +kernel
theorem dX10_tell_48 : decode cX10_tell 48 = .ok (.lreturn, 1) := by decide +kernel
theorem dX10_least_0 : decode cX10_least 0 = .ok (.iload 5, 2) := by decide +kernel
theorem dX10_least_2 : decode cX10_least 2 = .ok (.iconst 1, 1) := by decide +kernel
theorem dX10_least_3 : decode cX10_least 3 = .ok (.if_icmp .lt 20, 3) := by decide +kernel
theorem dX10_least_6 : decode cX10_least 6 = .ok (.iload 5, 2) := by decide +kernel
theorem dX10_least_8 : decode cX10_least 8 = .ok (.iconst 3, 1) := by decide +kernel
theorem dX10_least_9 : decode cX10_least 9 = .ok (.if_icmp .gt 14, 3) := by decide +kernel
theorem dX10_least_12 : decode cX10_least 12 = .ok (.bipush 8, 2) := by decide +kernel
theorem dX10_least_14 : decode cX10_least 14 = .ok (.iload_n 1, 1) := by decide +kernel
theorem dX10_least_15 : decode cX10_least 15 = .ok (.iload_n 2, 1) := by decide +kernel
theorem dX10_least_16 : decode cX10_least 16 = .ok (.lload_n 3, 1) := by decide +kernel
theorem dX10_least_17 : decode cX10_least 17 = .ok (.invokestatic 108, 3) := by decide +kernel
theorem dX10_least_20 : decode cX10_least 20 = .ok (.ifCond .ne 5, 3) := by decide +kernel
theorem dX10_least_23 : decode cX10_least 23 = .ok (.iconst (-1), 1) := by decide +kernel
theorem dX10_least_24 : decode cX10_least 24 = .ok (.ireturn, 1) := by decide +kernel
theorem dX10_least_25 : decode cX10_least 25 = .ok (.aload_n 0, 1) := by decide +kernel
theorem dX10_least_26 : decode cX10_least 26 = .ok (.getfield 68, 3) := by decide +kernel
theorem dX10_least_29 : decode cX10_least 29 = .ok (.bipush 60, 2) := by decide +kernel
theorem dX10_least_31 : decode cX10_least 31 = .ok (.if_icmp .ge 12, 3) := by decide +kernel
theorem dX10_least_34 : decode cX10_least 34 = .ok (.aload_n 0, 1) := by decide +kernel
theorem dX10_least_35 : decode cX10_least 35 = .ok (.getfield 193, 3) := by decide +kernel
theorem dX10_least_38 : decode cX10_least 38 = .ok (.bipush 12, 2) := by decide +kernel
theorem dX10_least_40 : decode cX10_least 40 = .ok (.if_icmp .lt 6, 3) := by decide +kernel
theorem dX10_least_43 : decode cX10_least 43 = .ok (.bipush (-2), 2) := by decide +kernel
theorem dX10_least_45 : decode cX10_least 45 = .ok (.ireturn, 1) := by decide +kernel
theorem dX10_least_46 : decode cX10_least 46 = .ok (.aload_n 0, 1) := by decide +kernel
theorem dX10_least_47 : decode cX10_least 47 = .ok (.dup, 1) := by decide +kernel
theorem dX10_least_48 : decode cX10_least 48 = .ok (.getfield 193, 3) := by decide +kernel
theorem dX10_least_51 : decode cX10_least 51 = .ok (.iconst 1, 1) := by decide +kernel
theorem dX10_least_52 : decode cX10_least 52 = .ok (.iadd, 1) := by decide +kernel
theorem dX10_least_53 : decode cX10_least 53 = .ok (.putfield 193, 3) := by decide +kernel
theorem dX10_least_56 : decode cX10_least 56 = .ok (.aload_n 0, 1) := by decide +kernel
theorem dX10_least_57 : decode cX10_least 57 = .ok (.getfield 46, 3) := by decide +kernel
theorem dX10_least_60 : decode cX10_least 60 = .ok (.new 109, 3) := by decide +kernel
theorem dX10_least_63 : decode cX10_least 63 = .ok (.dup, 1) := by decide +kernel
theorem dX10_least_64 : decode cX10_least 64 = .ok (.bipush 8, 2) := by decide +kernel
theorem dX10_least_66 : decode cX10_least 66 = .ok (.iload_n 1, 1) := by decide +kernel
theorem dX10_least_67 : decode cX10_least 67 = .ok (.iload_n 2, 1) := by decide +kernel
theorem dX10_least_68 : decode cX10_least 68 = .ok (.lload_n 3, 1) := by decide +kernel
theorem dX10_least_69 : decode cX10_least 69 = .ok (.invokespecial 116, 3) := by decide +kernel
theorem dX10_least_72 : decode cX10_least 72 = .ok (.aload_n 0, 1) := by decide +kernel
theorem dX10_least_73 : decode cX10_least 73 = .ok (.getfield 19, 3) := by decide +kernel
theorem dX10_least_76 : decode cX10_least 76 = .ok (.aload_n 0, 1) := by decide +kernel
theorem dX10_least_77 : decode cX10_least 77 = .ok (.getfield 15, 3) := by decide +kernel
theorem dX10_least_80 : decode cX10_least 80 = .ok (.invokevirtual 196, 3) := by decide +kernel
theorem dX10_least_83 : decode cX10_least 83 = .ok (.iconst 1, 1) := by decide +kernel
theorem dX10_least_84 : decode cX10_least 84 = .ok (.istore 6, 2) := by decide +kernel
theorem dX10_least_86 : decode cX10_least 86 = .ok (.iload 6, 2) := by decide +kernel
theorem dX10_least_88 : decode cX10_least 88 = .ok (.iload 5, 2) := by decide +kernel
theorem dX10_least_90 : decode cX10_least 90 = .ok (.if_icmp .gt 21, 3) := by decide +kernel
theorem dX10_least_93 : decode cX10_least 93 = .ok (.aload_n 0, 1) := by decide +kernel
theorem dX10_least_94 : decode cX10_least 94 = .ok (.getfield 46, 3) := by decide +kernel
theorem dX10_least_97 : decode cX10_least 97 = .ok (.iload 6, 2) := by decide +kernel
theorem dX10_least_99 : decode cX10_least 99 = .ok (.iconst 0, 1) := by decide +kernel
theorem dX10_least_100 : decode cX10_least 100 = .ok (.iconst 0, 1) := by decide +kernel
theorem dX10_least_101 : decode cX10_least 101 = .ok (.iconst 0, 1) := by decide +kernel
theorem dX10_least_102 : decode cX10_least 102 = .ok (.invokevirtual 200, 3) := by decide +kernel
theorem dX10_least_105 : decode cX10_least 105 = .ok (.iinc 6 1, 3) := by decide +kernel
theorem dX10_least_108 : decode cX10_least 108 = .ok (.goto (-22), 3) := by decide +kernel
theorem dX10_least_111 : decode cX10_least 111 = .ok (.aload_n 0, 1) := by decide +kernel
theorem dX10_least_112 : decode cX10_least 112 = .ok (.getfield 46, 3) := by decide +kernel
theorem dX10_least_115 : decode cX10_least 115 = .ok (.getfield 204, 3) := by decide +kernel
theorem dX10_least_118 : decode cX10_least 118 = .ok (.ifCond .ne 6, 3) := by decide +kernel
theorem dX10_least_121 : decode cX10_least 121 = .ok (.bipush (-3), 2) := by decide +kernel
theorem dX10_least_123 : decode cX10_least 123 = .ok (.ireturn, 1) := by decide +kernel
theorem dX10_least_124 : decode cX10_least 124 = .ok (.aload_n 0, 1) := by decide +kernel
theorem dX10_least_125 : decode cX10_least 125 = .ok (.getfield 46, 3) := by decide +kernel
theorem dX10_least_128 : decode cX10_least 128 = .ok (.aload_n 0, 1) := by decide +kernel
theorem dX10_least_129 : decode cX10_least 129 = .ok (.bipush 8, 2) := by decide +kernel
theorem dX10_least_131 : decode cX10_least 131 = .ok (.invokevirtual 72, 3) := by decide +kernel
theorem dX10_least_134 : decode cX10_least 134 = .ok (.invokevirtual 207, 3) := by decide +kernel
theorem dX10_least_137 : decode cX10_least 137 = .ok (.aload_n 0, 1) := by decide +kernel
theorem dX10_least_138 : decode cX10_least 138 = .ok (.getfield 68, 3) := by decide +kernel
theorem dX10_least_141 : decode cX10_least 141 = .ok (.iconst 1, 1) := by decide +kernel
theorem dX10_least_142 : decode cX10_least 142 = .ok (.isub, 1) := by decide +kernel
theorem dX10_least_143 : decode cX10_least 143 = .ok (.ireturn, 1) := by decide +kernel
theorem dX10_count_0 : decode cX10_count 0 = .ok (.iload_n 1, 1) := by decide +kernel
theorem dX10_count_1 : decode cX10_count 1 = .ok (.tableswitch 45 0 2 #[27, 32, 40], 27) := by decide +kernel
theorem dX10_count_28 : decode cX10_count 28 = .ok (.aload_n 0, 1) := by decide +kernel
theorem dX10_count_29 : decode cX10_count 29 = .ok (.getfield 68, 3) := by decide +kernel
theorem dX10_count_32 : decode cX10_count 32 = .ok (.ireturn, 1) := by decide +kernel
theorem dX10_count_33 : decode cX10_count 33 = .ok (.aload_n 0, 1) := by decide +kernel
theorem dX10_count_34 : decode cX10_count 34 = .ok (.getfield 39, 3) := by decide +kernel
theorem dX10_count_37 : decode cX10_count 37 = .ok (.getfield 211, 3) := by decide +kernel
theorem dX10_count_40 : decode cX10_count 40 = .ok (.ireturn, 1) := by decide +kernel
theorem dX10_count_41 : decode cX10_count 41 = .ok (.aload_n 0, 1) := by decide +kernel
theorem dX10_count_42 : decode cX10_count 42 = .ok (.getfield 193, 3) := by decide +kernel
theorem dX10_count_45 : decode cX10_count 45 = .ok (.ireturn, 1) := by decide +kernel
theorem dX10_count_46 : decode cX10_count 46 = .ok (.iconst (-1), 1) := by decide +kernel
theorem dX10_count_47 : decode cX10_count 47 = .ok (.ireturn, 1) := by decide +kernel
theorem dX10_undo_0 : decode cX10_undo 0 = .ok (.aload_n 0, 1) := by decide +kernel
theorem dX10_undo_1 : decode cX10_undo 1 = .ok (.getfield 39, 3) := by decide +kernel
theorem dX10_undo_4 : decode cX10_undo 4 = .ok (.invokevirtual 214, 3) := by decide +kernel
theorem dX10_undo_7 : decode cX10_undo 7 = .ok (.astore_n 1, 1) := by decide +kernel
theorem dX10_undo_8 : decode cX10_undo 8 = .ok (.aload_n 1, 1) := by decide +kernel
theorem dX10_undo_9 : decode cX10_undo 9 = .ok (.ifnonnull 5, 3) := by decide +kernel
theorem dX10_undo_12 : decode cX10_undo 12 = .ok (.iconst (-1), 1) := by decide +kernel
theorem dX10_undo_13 : decode cX10_undo 13 = .ok (.ireturn, 1) := by decide +kernel
theorem dX10_undo_14 : decode cX10_undo 14 = .ok (.aload_n 0, 1) := by decide +kernel
theorem dX10_undo_15 : decode cX10_undo 15 = .ok (.aload_n 1, 1) := by decide +kernel
theorem dX10_undo_16 : decode cX10_undo 16 = .ok (.invokevirtual 218, 3) := by decide +kernel
theorem dX10_undo_19 : decode cX10_undo 19 = .ok (.aload_n 0, 1) := by decide +kernel
theorem dX10_undo_20 : decode cX10_undo 20 = .ok (.getfield 39, 3) := by decide +kernel
theorem dX10_undo_23 : decode cX10_undo 23 = .ok (.getfield 211, 3) := by decide +kernel
theorem dX10_undo_26 : decode cX10_undo 26 = .ok (.ireturn, 1) := by decide +kernel
theorem dX10_hook_0 : decode cX10_hook 0 = .ok (.iload_n 1, 1) := by decide +kernel
theorem dX10_hook_1 : decode cX10_hook 1 = .ok (.ifCond .lt 18, 3) := by decide +kernel
theorem dX10_hook_4 : decode cX10_hook 4 = .ok (.iload_n 1, 1) := by decide +kernel
theorem dX10_hook_5 : decode cX10_hook 5 = .ok (.bipush 8, 2) := by decide +kernel
theorem dX10_hook_7 : decode cX10_hook 7 = .ok (.if_icmp .ge 12, 3) := by decide +kernel
theorem dX10_hook_10 : decode cX10_hook 10 = .ok (.iload_n 2, 1) := by decide +kernel
theorem dX10_hook_11 : decode cX10_hook 11 = .ok (.ifCond .lt 8, 3) := by decide +kernel
theorem dX10_hook_14 : decode cX10_hook 14 = .ok (.iload_n 2, 1) := by decide +kernel
theorem dX10_hook_15 : decode cX10_hook 15 = .ok (.iconst 5, 1) := by decide +kernel
theorem dX10_hook_16 : decode cX10_hook 16 = .ok (.if_icmp .le 5, 3) := by decide +kernel
theorem dX10_hook_19 : decode cX10_hook 19 = .ok (.iconst (-1), 1) := by decide +kernel
theorem dX10_hook_20 : decode cX10_hook 20 = .ok (.ireturn, 1) := by decide +kernel
theorem dX10_hook_21 : decode cX10_hook 21 = .ok (.aload_n 0, 1) := by decide +kernel
theorem dX10_hook_22 : decode cX10_hook 22 = .ok (.getfield 32, 3) := by decide +kernel
theorem dX10_hook_25 : decode cX10_hook 25 = .ok (.astore 5, 2) := by decide +kernel
theorem dX10_hook_27 : decode cX10_hook 27 = .ok (.iload_n 2, 1) := by decide +kernel
theorem dX10_hook_28 : decode cX10_hook 28 = .ok (.ifCond .eq 92, 3) := by decide +kernel
theorem dX10_hook_31 : decode cX10_hook 31 = .ok (.aload_n 0, 1) := by decide +kernel
theorem dX10_hook_32 : decode cX10_hook 32 = .ok (.iload_n 3, 1) := by decide +kernel
theorem dX10_hook_33 : decode cX10_hook 33 = .ok (.invokevirtual 76, 3) := by decide +kernel
theorem dX10_hook_36 : decode cX10_hook 36 = .ok (.astore 6, 2) := by decide +kernel
theorem dX10_hook_38 : decode cX10_hook 38 = .ok (.aload 6, 2) := by decide +kernel
theorem dX10_hook_40 : decode cX10_hook 40 = .ok (.ifnull 33, 3) := by decide +kernel
theorem dX10_hook_43 : decode cX10_hook 43 = .ok (.iload 4, 2) := by decide +kernel
theorem dX10_hook_45 : decode cX10_hook 45 = .ok (.ifCond .lt 28, 3) := by decide +kernel
theorem dX10_hook_48 : decode cX10_hook 48 = .ok (.iload 4, 2) := by decide +kernel
theorem dX10_hook_50 : decode cX10_hook 50 = .ok (.aload 6, 2) := by decide +kernel
theorem dX10_hook_52 : decode cX10_hook 52 = .ok (.getfield 82, 3) := by decide +kernel
theorem dX10_hook_55 : decode cX10_hook 55 = .ok (.if_icmp .gt 18, 3) := by decide +kernel
theorem dX10_hook_58 : decode cX10_hook 58 = .ok (.iload_n 2, 1) := by decide +kernel
theorem dX10_hook_59 : decode cX10_hook 59 = .ok (.iconst 1, 1) := by decide +kernel
theorem dX10_hook_60 : decode cX10_hook 60 = .ok (.if_icmp .ne 15, 3) := by decide +kernel
theorem dX10_hook_63 : decode cX10_hook 63 = .ok (.iload 4, 2) := by decide +kernel
theorem dX10_hook_65 : decode cX10_hook 65 = .ok (.aload 6, 2) := by decide +kernel
theorem dX10_hook_67 : decode cX10_hook 67 = .ok (.getfield 82, 3) := by decide +kernel
theorem dX10_hook_70 : decode cX10_hook 70 = .ok (.if_icmp .ne 5, 3) := by decide +kernel
theorem dX10_hook_73 : decode cX10_hook 73 = .ok (.iconst (-1), 1) := by decide +kernel
theorem dX10_hook_74 : decode cX10_hook 74 = .ok (.ireturn, 1) := by decide +kernel
theorem dX10_hook_75 : decode cX10_hook 75 = .ok (.iload_n 2, 1) := by decide +kernel
theorem dX10_hook_76 : decode cX10_hook 76 = .ok (.iconst 1, 1) := by decide +kernel
theorem dX10_hook_77 : decode cX10_hook 77 = .ok (.if_icmp .ne 31, 3) := by decide +kernel
theorem dX10_hook_80 : decode cX10_hook 80 = .ok (.new 23, 3) := by decide +kernel
theorem dX10_hook_83 : decode cX10_hook 83 = .ok (.dup, 1) := by decide +kernel
theorem dX10_hook_84 : decode cX10_hook 84 = .ok (.iconst 1, 1) := by decide +kernel
theorem dX10_hook_85 : decode cX10_hook 85 = .ok (.aload 6, 2) := by decide +kernel
theorem dX10_hook_87 : decode cX10_hook 87 = .ok (.getfield 137, 3) := by decide +kernel
theorem dX10_hook_90 : decode cX10_hook 90 = .ok (.iload 4, 2) := by decide +kernel
theorem dX10_hook_92 : decode cX10_hook 92 = .ok (.iaload, 1) := by decide +kernel
theorem dX10_hook_93 : decode cX10_hook 93 = .ok (.aload 6, 2) := by decide +kernel
theorem dX10_hook_95 : decode cX10_hook 95 = .ok (.getfield 143, 3) := by decide +kernel
theorem dX10_hook_98 : decode cX10_hook 98 = .ok (.iload 4, 2) := by decide +kernel
theorem dX10_hook_100 : decode cX10_hook 100 = .ok (.laload, 1) := by decide +kernel
theorem dX10_hook_101 : decode cX10_hook 101 = .ok (.iconst 0, 1) := by decide +kernel
theorem dX10_hook_102 : decode cX10_hook 102 = .ok (.invokespecial 29, 3) := by decide +kernel
theorem dX10_hook_105 : decode cX10_hook 105 = .ok (.goto 13, 3) := by decide +kernel
theorem dX10_hook_108 : decode cX10_hook 108 = .ok (.aload_n 0, 1) := by decide +kernel
theorem dX10_hook_109 : decode cX10_hook 109 = .ok (.iload_n 2, 1) := by decide +kernel
theorem dX10_hook_110 : decode cX10_hook 110 = .ok (.aload 6, 2) := by decide +kernel
theorem dX10_hook_112 : decode cX10_hook 112 = .ok (.iload_n 3, 1) := by decide +kernel
theorem dX10_hook_113 : decode cX10_hook 113 = .ok (.iload 4, 2) := by decide +kernel
theorem dX10_hook_115 : decode cX10_hook 115 = .ok (.invokevirtual 221, 3) := by decide +kernel
theorem dX10_hook_118 : decode cX10_hook 118 = .ok (.astore 5, 2) := by decide +kernel
theorem dX10_hook_120 : decode cX10_hook 120 = .ok (.aload_n 0, 1) := by decide +kernel
theorem dX10_hook_121 : decode cX10_hook 121 = .ok (.getfield 25, 3) := by decide +kernel
theorem dX10_hook_124 : decode cX10_hook 124 = .ok (.iload_n 1, 1) := by decide +kernel
theorem dX10_hook_125 : decode cX10_hook 125 = .ok (.aaload, 1) := by decide +kernel
theorem dX10_hook_126 : decode cX10_hook 126 = .ok (.astore 6, 2) := by decide +kernel
theorem dX10_hook_128 : decode cX10_hook 128 = .ok (.aload_n 0, 1) := by decide +kernel
theorem dX10_hook_129 : decode cX10_hook 129 = .ok (.getfield 25, 3) := by decide +kernel
theorem dX10_hook_132 : decode cX10_hook 132 = .ok (.iload_n 1, 1) := by decide +kernel
theorem dX10_hook_133 : decode cX10_hook 133 = .ok (.aload 5, 2) := by decide +kernel
theorem dX10_hook_135 : decode cX10_hook 135 = .ok (.aastore, 1) := by decide +kernel
theorem dX10_hook_136 : decode cX10_hook 136 = .ok (.aload_n 0, 1) := by decide +kernel
theorem dX10_hook_137 : decode cX10_hook 137 = .ok (.getfield 39, 3) := by decide +kernel
theorem dX10_hook_140 : decode cX10_hook 140 = .ok (.new 100, 3) := by decide +kernel
theorem dX10_hook_143 : decode cX10_hook 143 = .ok (.dup, 1) := by decide +kernel
theorem dX10_hook_144 : decode cX10_hook 144 = .ok (.iconst 4, 1) := by decide +kernel
theorem dX10_hook_145 : decode cX10_hook 145 = .ok (.iload_n 1, 1) := by decide +kernel
theorem dX10_hook_146 : decode cX10_hook 146 = .ok (.iconst 0, 1) := by decide +kernel
theorem dX10_hook_147 : decode cX10_hook 147 = .ok (.lconst 0, 1) := by decide +kernel
theorem dX10_hook_148 : decode cX10_hook 148 = .ok (.aload 6, 2) := by decide +kernel
theorem dX10_hook_150 : decode cX10_hook 150 = .ok (.invokespecial 102, 3) := by decide +kernel
theorem dX10_hook_153 : decode cX10_hook 153 = .ok (.invokevirtual 105, 3) := by decide +kernel
theorem dX10_hook_156 : decode cX10_hook 156 = .ok (.aload 6, 2) := by decide +kernel
theorem dX10_hook_158 : decode cX10_hook 158 = .ok (.getfield 225, 3) := by decide +kernel
theorem dX10_hook_161 : decode cX10_hook 161 = .ok (.ireturn, 1) := by decide +kernel
theorem dX10_held_0 : decode cX10_held 0 = .ok (.iload_n 1, 1) := by decide +kernel
theorem dX10_held_1 : decode cX10_held 1 = .ok (.ifCond .lt 9, 3) := by decide +kernel
theorem dX10_held_4 : decode cX10_held 4 = .ok (.iload_n 1, 1) := by decide +kernel
theorem dX10_held_5 : decode cX10_held 5 = .ok (.bipush 8, 2) := by decide +kernel
theorem dX10_held_7 : decode cX10_held 7 = .ok (.if_icmp .lt 7, 3) := by decide +kernel
theorem dX10_held_10 : decode cX10_held 10 = .ok (.iconst (-1), 1) := by decide +kernel
theorem dX10_held_11 : decode cX10_held 11 = .ok (.goto 12, 3) := by decide +kernel
theorem dX10_held_14 : decode cX10_held 14 = .ok (.aload_n 0, 1) := by decide +kernel
theorem dX10_held_15 : decode cX10_held 15 = .ok (.getfield 25, 3) := by decide +kernel
theorem dX10_held_18 : decode cX10_held 18 = .ok (.iload_n 1, 1) := by decide +kernel
theorem dX10_held_19 : decode cX10_held 19 = .ok (.aaload, 1) := by decide +kernel
theorem dX10_held_20 : decode cX10_held 20 = .ok (.getfield 225, 3) := by decide +kernel
theorem dX10_held_23 : decode cX10_held 23 = .ok (.ireturn, 1) := by decide +kernel
theorem dX10_use_0 : decode cX10_use 0 = .ok (.iload_n 1, 1) := by decide +kernel
theorem dX10_use_1 : decode cX10_use 1 = .ok (.ifCond .lt 31, 3) := by decide +kernel
theorem dX10_use_4 : decode cX10_use 4 = .ok (.iload_n 1, 1) := by decide +kernel
theorem dX10_use_5 : decode cX10_use 5 = .ok (.bipush 8, 2) := by decide +kernel
theorem dX10_use_7 : decode cX10_use 7 = .ok (.if_icmp .ge 25, 3) := by decide +kernel
theorem dX10_use_10 : decode cX10_use 10 = .ok (.iload_n 2, 1) := by decide +kernel
theorem dX10_use_11 : decode cX10_use 11 = .ok (.ifCond .lt 21, 3) := by decide +kernel
theorem dX10_use_14 : decode cX10_use 14 = .ok (.iload_n 2, 1) := by decide +kernel
theorem dX10_use_15 : decode cX10_use 15 = .ok (.bipush 11, 2) := by decide +kernel
theorem dX10_use_17 : decode cX10_use 17 = .ok (.if_icmp .ge 15, 3) := by decide +kernel
theorem dX10_use_20 : decode cX10_use 20 = .ok (.iload_n 2, 1) := by decide +kernel
theorem dX10_use_21 : decode cX10_use 21 = .ok (.bipush 9, 2) := by decide +kernel
theorem dX10_use_23 : decode cX10_use 23 = .ok (.if_icmp .ne 11, 3) := by decide +kernel
theorem dX10_use_26 : decode cX10_use 26 = .ok (.iload_n 3, 1) := by decide +kernel
theorem dX10_use_27 : decode cX10_use 27 = .ok (.bipush 100, 2) := by decide +kernel
theorem dX10_use_29 : decode cX10_use 29 = .ok (.if_icmp .le 5, 3) := by decide +kernel
theorem dX10_use_32 : decode cX10_use 32 = .ok (.iconst (-1), 1) := by decide +kernel
theorem dX10_use_33 : decode cX10_use 33 = .ok (.ireturn, 1) := by decide +kernel
theorem dX10_use_34 : decode cX10_use 34 = .ok (.aload_n 0, 1) := by decide +kernel
theorem dX10_use_35 : decode cX10_use 35 = .ok (.getfield 25, 3) := by decide +kernel
theorem dX10_use_38 : decode cX10_use 38 = .ok (.iload_n 1, 1) := by decide +kernel
theorem dX10_use_39 : decode cX10_use 39 = .ok (.aaload, 1) := by decide +kernel
theorem dX10_use_40 : decode cX10_use 40 = .ok (.astore 5, 2) := by decide +kernel
theorem dX10_use_42 : decode cX10_use 42 = .ok (.iload_n 2, 1) := by decide +kernel
theorem dX10_use_43 : decode cX10_use 43 = .ok (.bipush 10, 2) := by decide +kernel
theorem dX10_use_45 : decode cX10_use 45 = .ok (.if_icmp .ne 19, 3) := by decide +kernel
theorem dX10_use_48 : decode cX10_use 48 = .ok (.aload 5, 2) := by decide +kernel
theorem dX10_use_50 : decode cX10_use 50 = .ok (.getfield 225, 3) := by decide +kernel
theorem dX10_use_53 : decode cX10_use 53 = .ok (.ifCond .ne 8, 3) := by decide +kernel
theorem dX10_use_56 : decode cX10_use 56 = .ok (.bipush (-15), 2) := by decide +kernel
theorem dX10_use_58 : decode cX10_use 58 = .ok (.goto 5, 3) := by decide +kernel
theorem dX10_use_61 : decode cX10_use 61 = .ok (.bipush (-11), 2) := by decide +kernel
theorem dX10_use_63 : decode cX10_use 63 = .ok (.ireturn, 1) := by decide +kernel
theorem dX10_use_64 : decode cX10_use 64 = .ok (.aload 5, 2) := by decide +kernel
theorem dX10_use_66 : decode cX10_use 66 = .ok (.getfield 225, 3) := by decide +kernel
theorem dX10_use_69 : decode cX10_use 69 = .ok (.ifCond .ne 6, 3) := by decide +kernel
theorem dX10_use_72 : decode cX10_use 72 = .ok (.bipush (-12), 2) := by decide +kernel
theorem dX10_use_74 : decode cX10_use 74 = .ok (.ireturn, 1) := by decide +kernel
theorem dX10_use_75 : decode cX10_use 75 = .ok (.aload 5, 2) := by decide +kernel
theorem dX10_use_77 : decode cX10_use 77 = .ok (.getfield 225, 3) := by decide +kernel
theorem dX10_use_80 : decode cX10_use 80 = .ok (.getstatic 228, 3) := by decide +kernel
theorem dX10_use_83 : decode cX10_use 83 = .ok (.iload_n 2, 1) := by decide +kernel
theorem dX10_use_84 : decode cX10_use 84 = .ok (.iaload, 1) := by decide +kernel
theorem dX10_use_85 : decode cX10_use 85 = .ok (.if_icmp .ne 16, 3) := by decide +kernel
theorem dX10_use_88 : decode cX10_use 88 = .ok (.iload_n 2, 1) := by decide +kernel
theorem dX10_use_89 : decode cX10_use 89 = .ok (.iconst 1, 1) := by decide +kernel
theorem dX10_use_90 : decode cX10_use 90 = .ok (.if_icmp .ne 14, 3) := by decide +kernel
theorem dX10_use_93 : decode cX10_use 93 = .ok (.aload 5, 2) := by decide +kernel
theorem dX10_use_95 : decode cX10_use 95 = .ok (.invokevirtual 231, 3) := by decide +kernel
theorem dX10_use_98 : decode cX10_use 98 = .ok (.ifCond .ne 6, 3) := by decide +kernel
theorem dX10_use_101 : decode cX10_use 101 = .ok (.bipush (-11), 2) := by decide +kernel
theorem dX10_use_103 : decode cX10_use 103 = .ok (.ireturn, 1) := by decide +kernel
theorem dX10_use_104 : decode cX10_use 104 = .ok (.aload 5, 2) := by decide +kernel
theorem dX10_use_106 : decode cX10_use 106 = .ok (.getfield 225, 3) := by decide +kernel
theorem dX10_use_109 : decode cX10_use 109 = .ok (.iconst 1, 1) := by decide +kernel
theorem dX10_use_110 : decode cX10_use 110 = .ok (.if_icmp .ne 23, 3) := by decide +kernel
theorem dX10_use_113 : decode cX10_use 113 = .ok (.iload_n 2, 1) := by decide +kernel
theorem dX10_use_114 : decode cX10_use 114 = .ok (.iconst 1, 1) := by decide +kernel
theorem dX10_use_115 : decode cX10_use 115 = .ok (.if_icmp .ne 12, 3) := by decide +kernel
theorem dX10_use_118 : decode cX10_use 118 = .ok (.aload 5, 2) := by decide +kernel
theorem dX10_use_120 : decode cX10_use 120 = .ok (.getfield 235, 3) := by decide +kernel
theorem dX10_use_123 : decode cX10_use 123 = .ok (.l2i, 1) := by decide +kernel
theorem dX10_use_124 : decode cX10_use 124 = .ok (.goto 8, 3) := by decide +kernel
theorem dX10_use_127 : decode cX10_use 127 = .ok (.aload 5, 2) := by decide +kernel
theorem dX10_use_129 : decode cX10_use 129 = .ok (.getfield 238, 3) := by decide +kernel
theorem dX10_use_132 : decode cX10_use 132 = .ok (.ireturn, 1) := by decide +kernel
theorem dX10_use_133 : decode cX10_use 133 = .ok (.iload_n 2, 1) := by decide +kernel
theorem dX10_use_134 : decode cX10_use 134 = .ok (.bipush 9, 2) := by decide +kernel
theorem dX10_use_136 : decode cX10_use 136 = .ok (.if_icmp .ne 12, 3) := by decide +kernel
theorem dX10_use_139 : decode cX10_use 139 = .ok (.aload 5, 2) := by decide +kernel
theorem dX10_use_141 : decode cX10_use 141 = .ok (.iload_n 3, 1) := by decide +kernel
theorem dX10_use_142 : decode cX10_use 142 = .ok (.iload 4, 2) := by decide +kernel
theorem dX10_use_144 : decode cX10_use 144 = .ok (.invokestatic 241, 3) := by decide +kernel
theorem dX10_use_147 : decode cX10_use 147 = .ok (.ireturn, 1) := by decide +kernel
theorem dX10_use_148 : decode cX10_use 148 = .ok (.aload 5, 2) := by decide +kernel
theorem dX10_use_150 : decode cX10_use 150 = .ok (.iload_n 3, 1) := by decide +kernel
theorem dX10_use_151 : decode cX10_use 151 = .ok (.invokevirtual 245, 3) := by decide +kernel
theorem dX10_use_154 : decode cX10_use 154 = .ok (.ifCond .eq 15, 3) := by decide +kernel
theorem dX10_use_157 : decode cX10_use 157 = .ok (.aload_n 0, 1) := by decide +kernel
theorem dX10_use_158 : decode cX10_use 158 = .ok (.iload_n 1, 1) := by decide +kernel
theorem dX10_use_159 : decode cX10_use 159 = .ok (.iload_n 2, 1) := by decide +kernel
theorem dX10_use_160 : decode cX10_use 160 = .ok (.iload_n 3, 1) := by decide +kernel
theorem dX10_use_161 : decode cX10_use 161 = .ok (.iload 4, 2) := by decide +kernel
theorem dX10_use_163 : decode cX10_use 163 = .ok (.invokevirtual 248, 3) := by decide +kernel
theorem dX10_use_166 : decode cX10_use 166 = .ok (.goto 5, 3) := by decide +kernel
theorem dX10_use_169 : decode cX10_use 169 = .ok (.bipush (-13), 2) := by decide +kernel
theorem dX10_use_171 : decode cX10_use 171 = .ok (.ireturn, 1) := by decide +kernel
theorem dX10_isKind_0 : decode cX10_isKind 0 = .ok (.iload_n 0, 1) := by decide +kernel
theorem dX10_isKind_1 : decode cX10_isKind 1 = .ok (.ifCond .lt 13, 3) := by decide +kernel
theorem dX10_isKind_4 : decode cX10_isKind 4 = .ok (.iload_n 0, 1) := by decide +kernel
theorem dX10_isKind_5 : decode cX10_isKind 5 = .ok (.bipush 13, 2) := by decide +kernel
theorem dX10_isKind_7 : decode cX10_isKind 7 = .ok (.if_icmp .ge 7, 3) := by decide +kernel
theorem dX10_isKind_10 : decode cX10_isKind 10 = .ok (.iconst 1, 1) := by decide +kernel
theorem dX10_isKind_11 : decode cX10_isKind 11 = .ok (.goto 4, 3) := by decide +kernel
theorem dX10_isKind_14 : decode cX10_isKind 14 = .ok (.iconst 0, 1) := by decide +kernel
theorem dX10_isKind_15 : decode cX10_isKind 15 = .ok (.ireturn, 1) := by decide +kernel
theorem dX10_fitsAsY_0 : decode cX10_fitsAsY 0 = .ok (.iload_n 1, 1) := by decide +kernel
theorem dX10_fitsAsY_1 : decode cX10_fitsAsY 1 = .ok (.invokestatic 252, 3) := by decide +kernel
theorem dX10_fitsAsY_4 : decode cX10_fitsAsY 4 = .ok (.ifCond .eq 25, 3) := by decide +kernel
theorem dX10_fitsAsY_7 : decode cX10_fitsAsY 7 = .ok (.lload_n 2, 1) := by decide +kernel
theorem dX10_fitsAsY_8 : decode cX10_fitsAsY 8 = .ok (.lconst 0, 1) := by decide +kernel
theorem dX10_fitsAsY_9 : decode cX10_fitsAsY 9 = .ok (.lcmp, 1) := by decide +kernel
theorem dX10_fitsAsY_10 : decode cX10_fitsAsY 10 = .ok (.ifCond .lt 17, 3) := by decide +kernel
theorem dX10_fitsAsY_13 : decode cX10_fitsAsY 13 = .ok (.lload_n 2, 1) := by decide +kernel
theorem dX10_fitsAsY_14 : decode cX10_fitsAsY 14 = .ok (.aload_n 0, 1) := by decide +kernel
theorem dX10_fitsAsY_15 : decode cX10_fitsAsY 15 = .ok (.getfield 82, 3) := by decide +kernel
theorem dX10_fitsAsY_18 : decode cX10_fitsAsY 18 = .ok (.i2l, 1) := by decide +kernel
theorem dX10_fitsAsY_19 : decode cX10_fitsAsY 19 = .ok (.lcmp, 1) := by decide +kernel
theorem dX10_fitsAsY_20 : decode cX10_fitsAsY 20 = .ok (.ifCond .gt 7, 3) := by decide +kernel
theorem dX10_fitsAsY_23 : decode cX10_fitsAsY 23 = .ok (.iconst 1, 1) := by decide +kernel
theorem dX10_fitsAsY_24 : decode cX10_fitsAsY 24 = .ok (.goto 4, 3) := by decide +kernel
theorem dX10_fitsAsY_27 : decode cX10_fitsAsY 27 = .ok (.iconst 0, 1) := by decide +kernel
theorem dX10_fitsAsY_28 : decode cX10_fitsAsY 28 = .ok (.ireturn, 1) := by decide +kernel
theorem dX10_fitsAsY_29 : decode cX10_fitsAsY 29 = .ok (.iload_n 1, 1) := by decide +kernel
theorem dX10_fitsAsY_30 : decode cX10_fitsAsY 30 = .ok (.invokestatic 257, 3) := by decide +kernel
theorem dX10_fitsAsY_33 : decode cX10_fitsAsY 33 = .ok (.ifCond .eq 19, 3) := by decide +kernel
theorem dX10_fitsAsY_36 : decode cX10_fitsAsY 36 = .ok (.lload_n 2, 1) := by decide +kernel
theorem dX10_fitsAsY_37 : decode cX10_fitsAsY 37 = .ok (.lconst 0, 1) := by decide +kernel
theorem dX10_fitsAsY_38 : decode cX10_fitsAsY 38 = .ok (.lcmp, 1) := by decide +kernel
theorem dX10_fitsAsY_39 : decode cX10_fitsAsY 39 = .ok (.ifCond .lt 17, 3) := by decide +kernel
theorem dX10_fitsAsY_42 : decode cX10_fitsAsY 42 = .ok (.lload_n 2, 1) := by decide +kernel
theorem dX10_fitsAsY_43 : decode cX10_fitsAsY 43 = .ok (.aload_n 0, 1) := by decide +kernel
theorem dX10_fitsAsY_44 : decode cX10_fitsAsY 44 = .ok (.getfield 89, 3) := by decide +kernel
theorem dX10_fitsAsY_47 : decode cX10_fitsAsY 47 = .ok (.i2l, 1) := by decide +kernel
theorem dX10_fitsAsY_48 : decode cX10_fitsAsY 48 = .ok (.lcmp, 1) := by decide +kernel
theorem dX10_fitsAsY_49 : decode cX10_fitsAsY 49 = .ok (.ifCond .ge 7, 3) := by decide +kernel
theorem dX10_fitsAsY_52 : decode cX10_fitsAsY 52 = .ok (.iconst 1, 1) := by decide +kernel
theorem dX10_fitsAsY_53 : decode cX10_fitsAsY 53 = .ok (.goto 4, 3) := by decide +kernel
theorem dX10_fitsAsY_56 : decode cX10_fitsAsY 56 = .ok (.iconst 0, 1) := by decide +kernel
theorem dX10_fitsAsY_57 : decode cX10_fitsAsY 57 = .ok (.ireturn, 1) := by decide +kernel
theorem dX10_formAt_0 : decode cX10_formAt 0 = .ok (.iload_n 1, 1) := by decide +kernel
theorem dX10_formAt_1 : decode cX10_formAt 1 = .ok (.ifCond .lt 11, 3) := by decide +kernel
theorem dX10_formAt_4 : decode cX10_formAt 4 = .ok (.iload_n 1, 1) := by decide +kernel
theorem dX10_formAt_5 : decode cX10_formAt 5 = .ok (.aload_n 0, 1) := by decide +kernel
theorem dX10_formAt_6 : decode cX10_formAt 6 = .ok (.getfield 68, 3) := by decide +kernel
theorem dX10_formAt_9 : decode cX10_formAt 9 = .ok (.if_icmp .lt 7, 3) := by decide +kernel
theorem dX10_formAt_12 : decode cX10_formAt 12 = .ok (.aconst_null, 1) := by decide +kernel
theorem dX10_formAt_13 : decode cX10_formAt 13 = .ok (.goto 9, 3) := by decide +kernel
theorem dX10_formAt_16 : decode cX10_formAt 16 = .ok (.aload_n 0, 1) := by decide +kernel
theorem dX10_formAt_17 : decode cX10_formAt 17 = .ok (.getfield 11, 3) := by decide +kernel
theorem dX10_formAt_20 : decode cX10_formAt 20 = .ok (.iload_n 1, 1) := by decide +kernel
theorem dX10_formAt_21 : decode cX10_formAt 21 = .ok (.aaload, 1) := by decide +kernel
theorem dX10_formAt_22 : decode cX10_formAt 22 = .ok (.areturn, 1) := by decide +kernel
theorem dX10_openForm_0 : decode cX10_openForm 0 = .ok (.aload_n 0, 1) := by decide +kernel
theorem dX10_openForm_1 : decode cX10_openForm 1 = .ok (.getfield 11, 3) := by decide +kernel
theorem dX10_openForm_4 : decode cX10_openForm 4 = .ok (.aload_n 0, 1) := by decide +kernel
theorem dX10_openForm_5 : decode cX10_openForm 5 = .ok (.getfield 68, 3) := by decide +kernel
theorem dX10_openForm_8 : decode cX10_openForm 8 = .ok (.aaload, 1) := by decide +kernel
theorem dX10_openForm_9 : decode cX10_openForm 9 = .ok (.astore_n 2, 1) := by decide +kernel
theorem dX10_openForm_10 : decode cX10_openForm 10 = .ok (.aload_n 2, 1) := by decide +kernel
theorem dX10_openForm_11 : decode cX10_openForm 11 = .ok (.ifnonnull 21, 3) := by decide +kernel
theorem dX10_openForm_14 : decode cX10_openForm 14 = .ok (.new 9, 3) := by decide +kernel
theorem dX10_openForm_17 : decode cX10_openForm 17 = .ok (.dup, 1) := by decide +kernel
theorem dX10_openForm_18 : decode cX10_openForm 18 = .ok (.invokespecial 260, 3) := by decide +kernel
theorem dX10_openForm_21 : decode cX10_openForm 21 = .ok (.astore_n 2, 1) := by decide +kernel
theorem dX10_openForm_22 : decode cX10_openForm 22 = .ok (.aload_n 0, 1) := by decide +kernel
theorem dX10_openForm_23 : decode cX10_openForm 23 = .ok (.getfield 11, 3) := by decide +kernel
theorem dX10_openForm_26 : decode cX10_openForm 26 = .ok (.aload_n 0, 1) := by decide +kernel
theorem dX10_openForm_27 : decode cX10_openForm 27 = .ok (.getfield 68, 3) := by decide +kernel
theorem dX10_openForm_30 : decode cX10_openForm 30 = .ok (.aload_n 2, 1) := by decide +kernel
theorem dX10_openForm_31 : decode cX10_openForm 31 = .ok (.aastore, 1) := by decide +kernel
theorem dX10_openForm_32 : decode cX10_openForm 32 = .ok (.aload_n 2, 1) := by decide +kernel
theorem dX10_openForm_33 : decode cX10_openForm 33 = .ok (.iload_n 1, 1) := by decide +kernel
theorem dX10_openForm_34 : decode cX10_openForm 34 = .ok (.invokevirtual 261, 3) := by decide +kernel
theorem dX10_openForm_37 : decode cX10_openForm 37 = .ok (.aload_n 0, 1) := by decide +kernel
theorem dX10_openForm_38 : decode cX10_openForm 38 = .ok (.getfield 39, 3) := by decide +kernel
theorem dX10_openForm_41 : decode cX10_openForm 41 = .ok (.new 100, 3) := by decide +kernel
theorem dX10_openForm_44 : decode cX10_openForm 44 = .ok (.dup, 1) := by decide +kernel
theorem dX10_openForm_45 : decode cX10_openForm 45 = .ok (.iconst 0, 1) := by decide +kernel
theorem dX10_openForm_46 : decode cX10_openForm 46 = .ok (.aload_n 0, 1) := by decide +kernel
theorem dX10_openForm_47 : decode cX10_openForm 47 = .ok (.getfield 68, 3) := by decide +kernel
theorem dX10_openForm_50 : decode cX10_openForm 50 = .ok (.iconst 0, 1) := by decide +kernel
theorem dX10_openForm_51 : decode cX10_openForm 51 = .ok (.lconst 0, 1) := by decide +kernel
theorem dX10_openForm_52 : decode cX10_openForm 52 = .ok (.aconst_null, 1) := by decide +kernel
theorem dX10_openForm_53 : decode cX10_openForm 53 = .ok (.invokespecial 102, 3) := by decide +kernel
theorem dX10_openForm_56 : decode cX10_openForm 56 = .ok (.invokevirtual 105, 3) := by decide +kernel
theorem dX10_openForm_59 : decode cX10_openForm 59 = .ok (.aload_n 0, 1) := by decide +kernel
theorem dX10_openForm_60 : decode cX10_openForm 60 = .ok (.dup, 1) := by decide +kernel
theorem dX10_openForm_61 : decode cX10_openForm 61 = .ok (.getfield 68, 3) := by decide +kernel
theorem dX10_openForm_64 : decode cX10_openForm 64 = .ok (.iconst 1, 1) := by decide +kernel
theorem dX10_openForm_65 : decode cX10_openForm 65 = .ok (.iadd, 1) := by decide +kernel
theorem dX10_openForm_66 : decode cX10_openForm 66 = .ok (.putfield 68, 3) := by decide +kernel
theorem dX10_openForm_69 : decode cX10_openForm 69 = .ok (.aload_n 2, 1) := by decide +kernel
theorem dX10_openForm_70 : decode cX10_openForm 70 = .ok (.areturn, 1) := by decide +kernel
theorem dX10_proofHolds_0 : decode cX10_proofHolds 0 = .ok (.iload_n 1, 1) := by decide +kernel
theorem dX10_proofHolds_1 : decode cX10_proofHolds 1 = .ok (.iload_n 0, 1) := by decide +kernel
theorem dX10_proofHolds_2 : decode cX10_proofHolds 2 = .ok (.if_icmp .ge 32, 3) := by decide +kernel
theorem dX10_proofHolds_5 : decode cX10_proofHolds 5 = .ok (.iload_n 2, 1) := by decide +kernel
theorem dX10_proofHolds_6 : decode cX10_proofHolds 6 = .ok (.ifCond .ne 26, 3) := by decide +kernel
theorem dX10_proofHolds_9 : decode cX10_proofHolds 9 = .ok (.lload_n 3, 1) := by decide +kernel
theorem dX10_proofHolds_10 : decode cX10_proofHolds 10 = .ok (.lconst 1, 1) := by decide +kernel
theorem dX10_proofHolds_11 : decode cX10_proofHolds 11 = .ok (.iload_n 1, 1) := by decide +kernel
theorem dX10_proofHolds_12 : decode cX10_proofHolds 12 = .ok (.lshl, 1) := by decide +kernel
theorem dX10_proofHolds_13 : decode cX10_proofHolds 13 = .ok (.lcmp, 1) := by decide +kernel
theorem dX10_proofHolds_14 : decode cX10_proofHolds 14 = .ok (.ifCond .ne 18, 3) := by decide +kernel
theorem dX10_proofHolds_17 : decode cX10_proofHolds 17 = .ok (.lconst 1, 1) := by decide +kernel
theorem dX10_proofHolds_18 : decode cX10_proofHolds 18 = .ok (.iload_n 1, 1) := by decide +kernel
theorem dX10_proofHolds_19 : decode cX10_proofHolds 19 = .ok (.lshl, 1) := by decide +kernel
theorem dX10_proofHolds_20 : decode cX10_proofHolds 20 = .ok (.lload 5, 2) := by decide +kernel
theorem dX10_proofHolds_22 : decode cX10_proofHolds 22 = .ok (.invokestatic 181, 3) := by decide +kernel
theorem dX10_proofHolds_25 : decode cX10_proofHolds 25 = .ok (.ifCond .ne 7, 3) := by decide +kernel
theorem dX10_proofHolds_28 : decode cX10_proofHolds 28 = .ok (.iconst 1, 1) := by decide +kernel
theorem dX10_proofHolds_29 : decode cX10_proofHolds 29 = .ok (.goto 4, 3) := by decide +kernel
theorem dX10_proofHolds_32 : decode cX10_proofHolds 32 = .ok (.iconst 0, 1) := by decide +kernel
theorem dX10_proofHolds_33 : decode cX10_proofHolds 33 = .ok (.ireturn, 1) := by decide +kernel
theorem dX10_proofHolds_34 : decode cX10_proofHolds 34 = .ok (.iload_n 2, 1) := by decide +kernel
theorem dX10_proofHolds_35 : decode cX10_proofHolds 35 = .ok (.ifCond .eq 26, 3) := by decide +kernel
theorem dX10_proofHolds_38 : decode cX10_proofHolds 38 = .ok (.lload_n 3, 1) := by decide +kernel
theorem dX10_proofHolds_39 : decode cX10_proofHolds 39 = .ok (.lconst 0, 1) := by decide +kernel
theorem dX10_proofHolds_40 : decode cX10_proofHolds 40 = .ok (.lcmp, 1) := by decide +kernel
theorem dX10_proofHolds_41 : decode cX10_proofHolds 41 = .ok (.ifCond .eq 16, 3) := by decide +kernel
theorem dX10_proofHolds_44 : decode cX10_proofHolds 44 = .ok (.lload_n 3, 1) := by decide +kernel
theorem dX10_proofHolds_45 : decode cX10_proofHolds 45 = .ok (.lconst 1, 1) := by decide +kernel
theorem dX10_proofHolds_46 : decode cX10_proofHolds 46 = .ok (.lcmp, 1) := by decide +kernel
theorem dX10_proofHolds_47 : decode cX10_proofHolds 47 = .ok (.ifCond .ne 14, 3) := by decide +kernel
theorem dX10_proofHolds_50 : decode cX10_proofHolds 50 = .ok (.lload 5, 2) := by decide +kernel
theorem dX10_proofHolds_52 : decode cX10_proofHolds 52 = .ok (.lconst 0, 1) := by decide +kernel
theorem dX10_proofHolds_53 : decode cX10_proofHolds 53 = .ok (.lcmp, 1) := by decide +kernel
theorem dX10_proofHolds_54 : decode cX10_proofHolds 54 = .ok (.ifCond .ne 7, 3) := by decide +kernel
theorem dX10_proofHolds_57 : decode cX10_proofHolds 57 = .ok (.iconst 1, 1) := by decide +kernel
theorem dX10_proofHolds_58 : decode cX10_proofHolds 58 = .ok (.goto 4, 3) := by decide +kernel
theorem dX10_proofHolds_61 : decode cX10_proofHolds 61 = .ok (.iconst 0, 1) := by decide +kernel
theorem dX10_proofHolds_62 : decode cX10_proofHolds 62 = .ok (.ireturn, 1) := by decide +kernel
theorem dX10_takeBack_0 : decode cX10_takeBack 0 = .ok (.aload_n 1, 1) := by decide +kernel
theorem dX10_takeBack_1 : decode cX10_takeBack 1 = .ok (.getfield 264, 3) := by decide +kernel
theorem dX10_takeBack_4 : decode cX10_takeBack 4 = .ok (.tableswitch 110 0 4 #[36, 47, 61, 78, 94], 36) := by decide +kernel
theorem dX10_takeBack_40 : decode cX10_takeBack 40 = .ok (.aload_n 0, 1) := by decide +kernel
theorem dX10_takeBack_41 : decode cX10_takeBack 41 = .ok (.aload_n 1, 1) := by decide +kernel
theorem dX10_takeBack_42 : decode cX10_takeBack 42 = .ok (.getfield 265, 3) := by decide +kernel
theorem dX10_takeBack_45 : decode cX10_takeBack 45 = .ok (.putfield 68, 3) := by decide +kernel
theorem dX10_takeBack_48 : decode cX10_takeBack 48 = .ok (.goto 81, 3) := by decide +kernel
theorem dX10_takeBack_51 : decode cX10_takeBack 51 = .ok (.aload_n 0, 1) := by decide +kernel
theorem dX10_takeBack_52 : decode cX10_takeBack 52 = .ok (.aload_n 1, 1) := by decide +kernel
theorem dX10_takeBack_53 : decode cX10_takeBack 53 = .ok (.getfield 265, 3) := by decide +kernel
theorem dX10_takeBack_56 : decode cX10_takeBack 56 = .ok (.invokevirtual 76, 3) := by decide +kernel
theorem dX10_takeBack_59 : decode cX10_takeBack 59 = .ok (.invokestatic 268, 3) := by decide +kernel
theorem dX10_takeBack_62 : decode cX10_takeBack 62 = .ok (.goto 67, 3) := by decide +kernel
theorem dX10_takeBack_65 : decode cX10_takeBack 65 = .ok (.aload_n 0, 1) := by decide +kernel
theorem dX10_takeBack_66 : decode cX10_takeBack 66 = .ok (.getfield 15, 3) := by decide +kernel
theorem dX10_takeBack_69 : decode cX10_takeBack 69 = .ok (.aload_n 1, 1) := by decide +kernel
theorem dX10_takeBack_70 : decode cX10_takeBack 70 = .ok (.getfield 265, 3) := by decide +kernel
theorem dX10_takeBack_73 : decode cX10_takeBack 73 = .ok (.aload_n 1, 1) := by decide +kernel
theorem dX10_takeBack_74 : decode cX10_takeBack 74 = .ok (.getfield 271, 3) := by decide +kernel
theorem dX10_takeBack_77 : decode cX10_takeBack 77 = .ok (.l2i, 1) := by decide +kernel
theorem dX10_takeBack_78 : decode cX10_takeBack 78 = .ok (.iastore, 1) := by decide +kernel
theorem dX10_takeBack_79 : decode cX10_takeBack 79 = .ok (.goto 50, 3) := by decide +kernel
theorem dX10_takeBack_82 : decode cX10_takeBack 82 = .ok (.aload_n 0, 1) := by decide +kernel
theorem dX10_takeBack_83 : decode cX10_takeBack 83 = .ok (.getfield 19, 3) := by decide +kernel
theorem dX10_takeBack_86 : decode cX10_takeBack 86 = .ok (.aload_n 1, 1) := by decide +kernel
theorem dX10_takeBack_87 : decode cX10_takeBack 87 = .ok (.getfield 265, 3) := by decide +kernel
theorem dX10_takeBack_90 : decode cX10_takeBack 90 = .ok (.aload_n 1, 1) := by decide +kernel
theorem dX10_takeBack_91 : decode cX10_takeBack 91 = .ok (.getfield 271, 3) := by decide +kernel
theorem dX10_takeBack_94 : decode cX10_takeBack 94 = .ok (.lastore, 1) := by decide +kernel
theorem dX10_takeBack_95 : decode cX10_takeBack 95 = .ok (.goto 34, 3) := by decide +kernel
theorem dX10_takeBack_98 : decode cX10_takeBack 98 = .ok (.aload_n 0, 1) := by decide +kernel
theorem dX10_takeBack_99 : decode cX10_takeBack 99 = .ok (.getfield 25, 3) := by decide +kernel
theorem dX10_takeBack_102 : decode cX10_takeBack 102 = .ok (.aload_n 1, 1) := by decide +kernel
theorem dX10_takeBack_103 : decode cX10_takeBack 103 = .ok (.getfield 265, 3) := by decide +kernel
theorem dX10_takeBack_106 : decode cX10_takeBack 106 = .ok (.aload_n 1, 1) := by decide +kernel
theorem dX10_takeBack_107 : decode cX10_takeBack 107 = .ok (.getfield 274, 3) := by decide +kernel
theorem dX10_takeBack_110 : decode cX10_takeBack 110 = .ok (.aastore, 1) := by decide +kernel
theorem dX10_takeBack_111 : decode cX10_takeBack 111 = .ok (.goto 18, 3) := by decide +kernel
theorem dX10_takeBack_114 : decode cX10_takeBack 114 = .ok (.aload_n 1, 1) := by decide +kernel
theorem dX10_takeBack_115 : decode cX10_takeBack 115 = .ok (.getfield 274, 3) := by decide +kernel
theorem dX10_takeBack_118 : decode cX10_takeBack 118 = .ok (.aload_n 1, 1) := by decide +kernel
theorem dX10_takeBack_119 : decode cX10_takeBack 119 = .ok (.getfield 277, 3) := by decide +kernel
theorem dX10_takeBack_122 : decode cX10_takeBack 122 = .ok (.aload_n 1, 1) := by decide +kernel
theorem dX10_takeBack_123 : decode cX10_takeBack 123 = .ok (.getfield 271, 3) := by decide +kernel
theorem dX10_takeBack_126 : decode cX10_takeBack 126 = .ok (.invokestatic 280, 3) := by decide +kernel
theorem dX10_takeBack_129 : decode cX10_takeBack 129 = .ok (.return_, 1) := by decide +kernel
theorem dX10_removeStep_0 : decode cX10_removeStep 0 = .ok (.aload_n 0, 1) := by decide +kernel
theorem dX10_removeStep_1 : decode cX10_removeStep 1 = .ok (.ifnull 7, 3) := by decide +kernel
theorem dX10_removeStep_4 : decode cX10_removeStep 4 = .ok (.aload_n 0, 1) := by decide +kernel
theorem dX10_removeStep_5 : decode cX10_removeStep 5 = .ok (.invokevirtual 284, 3) := by decide +kernel
theorem dX10_removeStep_8 : decode cX10_removeStep 8 = .ok (.return_, 1) := by decide +kernel
theorem dX10_restoreCell_0 : decode cX10_restoreCell 0 = .ok (.aload_n 0, 1) := by decide +kernel
theorem dX10_restoreCell_1 : decode cX10_restoreCell 1 = .ok (.ifnull 18, 3) := by decide +kernel
theorem dX10_restoreCell_4 : decode cX10_restoreCell 4 = .ok (.aload_n 0, 1) := by decide +kernel
theorem dX10_restoreCell_5 : decode cX10_restoreCell 5 = .ok (.iload_n 1, 1) := by decide +kernel
theorem dX10_restoreCell_6 : decode cX10_restoreCell 6 = .ok (.invokevirtual 245, 3) := by decide +kernel
theorem dX10_restoreCell_9 : decode cX10_restoreCell 9 = .ok (.ifCond .eq 10, 3) := by decide +kernel
theorem dX10_restoreCell_12 : decode cX10_restoreCell 12 = .ok (.aload_n 0, 1) := by decide +kernel
theorem dX10_restoreCell_13 : decode cX10_restoreCell 13 = .ok (.getfield 287, 3) := by decide +kernel
theorem dX10_restoreCell_16 : decode cX10_restoreCell 16 = .ok (.iload_n 1, 1) := by decide +kernel
theorem dX10_restoreCell_17 : decode cX10_restoreCell 17 = .ok (.lload_n 2, 1) := by decide +kernel
theorem dX10_restoreCell_18 : decode cX10_restoreCell 18 = .ok (.lastore, 1) := by decide +kernel
theorem dX10_restoreCell_19 : decode cX10_restoreCell 19 = .ok (.return_, 1) := by decide +kernel
theorem dX10_rowOf_0 : decode cX10_rowOf 0 = .ok (.new 23, 3) := by decide +kernel
theorem dX10_rowOf_3 : decode cX10_rowOf 3 = .ok (.dup, 1) := by decide +kernel
theorem dX10_rowOf_4 : decode cX10_rowOf 4 = .ok (.iload_n 1, 1) := by decide +kernel
theorem dX10_rowOf_5 : decode cX10_rowOf 5 = .ok (.iconst 0, 1) := by decide +kernel
theorem dX10_rowOf_6 : decode cX10_rowOf 6 = .ok (.lconst 0, 1) := by decide +kernel
theorem dX10_rowOf_7 : decode cX10_rowOf 7 = .ok (.iload 4, 2) := by decide +kernel
theorem dX10_rowOf_9 : decode cX10_rowOf 9 = .ok (.invokespecial 29, 3) := by decide +kernel
theorem dX10_rowOf_12 : decode cX10_rowOf 12 = .ok (.astore 5, 2) := by decide +kernel
theorem dX10_rowOf_14 : decode cX10_rowOf 14 = .ok (.aload_n 2, 1) := by decide +kernel
theorem dX10_rowOf_15 : decode cX10_rowOf 15 = .ok (.iload_n 3, 1) := by decide +kernel
theorem dX10_rowOf_16 : decode cX10_rowOf 16 = .ok (.i2l, 1) := by decide +kernel
theorem dX10_rowOf_17 : decode cX10_rowOf 17 = .ok (.iload 4, 2) := by decide +kernel
theorem dX10_rowOf_19 : decode cX10_rowOf 19 = .ok (.aload_n 0, 1) := by decide +kernel
theorem dX10_rowOf_20 : decode cX10_rowOf 20 = .ok (.getfield 50, 3) := by decide +kernel
theorem dX10_rowOf_23 : decode cX10_rowOf 23 = .ok (.invokevirtual 146, 3) := by decide +kernel
theorem dX10_rowOf_26 : decode cX10_rowOf 26 = .ok (.iconst 0, 1) := by decide +kernel
theorem dX10_rowOf_27 : decode cX10_rowOf 27 = .ok (.istore 6, 2) := by decide +kernel
theorem dX10_rowOf_29 : decode cX10_rowOf 29 = .ok (.iload 6, 2) := by decide +kernel
theorem dX10_rowOf_31 : decode cX10_rowOf 31 = .ok (.iload 4, 2) := by decide +kernel
theorem dX10_rowOf_33 : decode cX10_rowOf 33 = .ok (.if_icmp .ge 30, 3) := by decide +kernel
theorem dX10_rowOf_36 : decode cX10_rowOf 36 = .ok (.aload 5, 2) := by decide +kernel
theorem dX10_rowOf_38 : decode cX10_rowOf 38 = .ok (.getfield 287, 3) := by decide +kernel
theorem dX10_rowOf_41 : decode cX10_rowOf 41 = .ok (.iload 6, 2) := by decide +kernel
theorem dX10_rowOf_43 : decode cX10_rowOf 43 = .ok (.iload_n 1, 1) := by decide +kernel
theorem dX10_rowOf_44 : decode cX10_rowOf 44 = .ok (.aload_n 0, 1) := by decide +kernel
theorem dX10_rowOf_45 : decode cX10_rowOf 45 = .ok (.getfield 50, 3) := by decide +kernel
theorem dX10_rowOf_48 : decode cX10_rowOf 48 = .ok (.iload 6, 2) := by decide +kernel
theorem dX10_rowOf_50 : decode cX10_rowOf 50 = .ok (.iconst 1, 1) := by decide +kernel
theorem dX10_rowOf_51 : decode cX10_rowOf 51 = .ok (.iadd, 1) := by decide +kernel
theorem dX10_rowOf_52 : decode cX10_rowOf 52 = .ok (.laload, 1) := by decide +kernel
theorem dX10_rowOf_53 : decode cX10_rowOf 53 = .ok (.invokestatic 290, 3) := by decide +kernel
theorem dX10_rowOf_56 : decode cX10_rowOf 56 = .ok (.lastore, 1) := by decide +kernel
theorem dX10_rowOf_57 : decode cX10_rowOf 57 = .ok (.iinc 6 1, 3) := by decide +kernel
theorem dX10_rowOf_60 : decode cX10_rowOf 60 = .ok (.goto (-31), 3) := by decide +kernel
theorem dX10_rowOf_63 : decode cX10_rowOf 63 = .ok (.aload 5, 2) := by decide +kernel
theorem dX10_rowOf_65 : decode cX10_rowOf 65 = .ok (.areturn, 1) := by decide +kernel
theorem dX10_narrowed_0 : decode cX10_narrowed 0 = .ok (.iload_n 0, 1) := by decide +kernel
theorem dX10_narrowed_1 : decode cX10_narrowed 1 = .ok (.tableswitch 45 2 5 #[31, 45, 35, 40], 31) := by decide +kernel
theorem dX10_narrowed_32 : decode cX10_narrowed 32 = .ok (.lload_n 1, 1) := by decide +kernel
theorem dX10_narrowed_33 : decode cX10_narrowed 33 = .ok (.l2i, 1) := by decide +kernel
theorem dX10_narrowed_34 : decode cX10_narrowed 34 = .ok (.i2l, 1) := by decide +kernel
theorem dX10_narrowed_35 : decode cX10_narrowed 35 = .ok (.lreturn, 1) := by decide +kernel
theorem dX10_narrowed_36 : decode cX10_narrowed 36 = .ok (.lload_n 1, 1) := by decide +kernel
theorem dX10_narrowed_37 : decode cX10_narrowed 37 = .ok (.l2i, 1) := by decide +kernel
theorem dX10_narrowed_38 : decode cX10_narrowed 38 = .ok (.i2b, 1) := by decide +kernel
theorem dX10_narrowed_39 : decode cX10_narrowed 39 = .ok (.i2l, 1) := by decide +kernel
theorem dX10_narrowed_40 : decode cX10_narrowed 40 = .ok (.lreturn, 1) := by decide +kernel
theorem dX10_narrowed_41 : decode cX10_narrowed 41 = .ok (.lload_n 1, 1) := by decide +kernel
theorem dX10_narrowed_42 : decode cX10_narrowed 42 = .ok (.l2i, 1) := by decide +kernel
theorem dX10_narrowed_43 : decode cX10_narrowed 43 = .ok (.i2s, 1) := by decide +kernel
theorem dX10_narrowed_44 : decode cX10_narrowed 44 = .ok (.i2l, 1) := by decide +kernel
theorem dX10_narrowed_45 : decode cX10_narrowed 45 = .ok (.lreturn, 1) := by decide +kernel
theorem dX10_narrowed_46 : decode cX10_narrowed 46 = .ok (.lload_n 1, 1) := by decide +kernel
theorem dX10_narrowed_47 : decode cX10_narrowed 47 = .ok (.lreturn, 1) := by decide +kernel
theorem dX10_copyAnswer_0 : decode cX10_copyAnswer 0 = .ok (.iload_n 1, 1) := by decide +kernel
theorem dX10_copyAnswer_1 : decode cX10_copyAnswer 1 = .ok (.ifCond .ge 6, 3) := by decide +kernel
theorem dX10_copyAnswer_4 : decode cX10_copyAnswer 4 = .ok (.bipush (-14), 2) := by decide +kernel
theorem dX10_copyAnswer_6 : decode cX10_copyAnswer 6 = .ok (.ireturn, 1) := by decide +kernel
theorem dX10_copyAnswer_7 : decode cX10_copyAnswer 7 = .ok (.iload_n 2, 1) := by decide +kernel
theorem dX10_copyAnswer_8 : decode cX10_copyAnswer 8 = .ok (.ifCond .lt 17, 3) := by decide +kernel
theorem dX10_copyAnswer_11 : decode cX10_copyAnswer 11 = .ok (.iload_n 2, 1) := by decide +kernel
theorem dX10_copyAnswer_12 : decode cX10_copyAnswer 12 = .ok (.iload_n 1, 1) := by decide +kernel
theorem dX10_copyAnswer_13 : decode cX10_copyAnswer 13 = .ok (.if_icmp .gt 12, 3) := by decide +kernel
theorem dX10_copyAnswer_16 : decode cX10_copyAnswer 16 = .ok (.iload_n 2, 1) := by decide +kernel
theorem dX10_copyAnswer_17 : decode cX10_copyAnswer 17 = .ok (.aload_n 0, 1) := by decide +kernel
theorem dX10_copyAnswer_18 : decode cX10_copyAnswer 18 = .ok (.getfield 287, 3) := by decide +kernel
theorem dX10_copyAnswer_21 : decode cX10_copyAnswer 21 = .ok (.arraylength, 1) := by decide +kernel
theorem dX10_copyAnswer_22 : decode cX10_copyAnswer 22 = .ok (.if_icmp .le 8, 3) := by decide +kernel
theorem dX10_copyAnswer_25 : decode cX10_copyAnswer 25 = .ok (.bipush (-13), 2) := by decide +kernel
theorem dX10_copyAnswer_27 : decode cX10_copyAnswer 27 = .ok (.goto 4, 3) := by decide +kernel
theorem dX10_copyAnswer_30 : decode cX10_copyAnswer 30 = .ok (.iload_n 2, 1) := by decide +kernel
theorem dX10_copyAnswer_31 : decode cX10_copyAnswer 31 = .ok (.ireturn, 1) := by decide +kernel
theorem dX10_rowAnswer_0 : decode cX10_rowAnswer 0 = .ok (.aload_n 0, 1) := by decide +kernel
theorem dX10_rowAnswer_1 : decode cX10_rowAnswer 1 = .ok (.getfield 25, 3) := by decide +kernel
theorem dX10_rowAnswer_4 : decode cX10_rowAnswer 4 = .ok (.iload_n 1, 1) := by decide +kernel
theorem dX10_rowAnswer_5 : decode cX10_rowAnswer 5 = .ok (.aaload, 1) := by decide +kernel
theorem dX10_rowAnswer_6 : decode cX10_rowAnswer 6 = .ok (.astore 5, 2) := by decide +kernel
theorem dX10_rowAnswer_8 : decode cX10_rowAnswer 8 = .ok (.aload 5, 2) := by decide +kernel
theorem dX10_rowAnswer_10 : decode cX10_rowAnswer 10 = .ok (.getfield 287, 3) := by decide +kernel
theorem dX10_rowAnswer_13 : decode cX10_rowAnswer 13 = .ok (.iload_n 3, 1) := by decide +kernel
theorem dX10_rowAnswer_14 : decode cX10_rowAnswer 14 = .ok (.laload, 1) := by decide +kernel
theorem dX10_rowAnswer_15 : decode cX10_rowAnswer 15 = .ok (.lstore 6, 2) := by decide +kernel
theorem dX10_rowAnswer_17 : decode cX10_rowAnswer 17 = .ok (.iload_n 2, 1) := by decide +kernel
theorem dX10_rowAnswer_18 : decode cX10_rowAnswer 18 = .ok (.bipush 6, 2) := by decide +kernel
theorem dX10_rowAnswer_20 : decode cX10_rowAnswer 20 = .ok (.if_icmp .ne 38, 3) := by decide +kernel
theorem dX10_rowAnswer_23 : decode cX10_rowAnswer 23 = .ok (.aload 5, 2) := by decide +kernel
theorem dX10_rowAnswer_25 : decode cX10_rowAnswer 25 = .ok (.getfield 287, 3) := by decide +kernel
end
section
theorem dX10_rowAnswer_28 : decode cX10_rowAnswer 28 = .ok (.iload_n 3, 1) := by decide +kernel
theorem dX10_rowAnswer_29 : decode cX10_rowAnswer 29 = .ok (.iload 4, 2) := by decide +kernel
theorem dX10_rowAnswer_31 : decode cX10_rowAnswer 31 = .ok (.i2l, 1) := by decide +kernel
theorem dX10_rowAnswer_32 : decode cX10_rowAnswer 32 = .ok (.lastore, 1) := by decide +kernel
theorem dX10_rowAnswer_33 : decode cX10_rowAnswer 33 = .ok (.aload_n 0, 1) := by decide +kernel
theorem dX10_rowAnswer_34 : decode cX10_rowAnswer 34 = .ok (.getfield 39, 3) := by decide +kernel
theorem dX10_rowAnswer_37 : decode cX10_rowAnswer 37 = .ok (.new 100, 3) := by decide +kernel
theorem dX10_rowAnswer_40 : decode cX10_rowAnswer 40 = .ok (.dup, 1) := by decide +kernel
theorem dX10_rowAnswer_41 : decode cX10_rowAnswer 41 = .ok (.iconst 5, 1) := by decide +kernel
theorem dX10_rowAnswer_42 : decode cX10_rowAnswer 42 = .ok (.iload_n 1, 1) := by decide +kernel
theorem dX10_rowAnswer_43 : decode cX10_rowAnswer 43 = .ok (.iload_n 3, 1) := by decide +kernel
theorem dX10_rowAnswer_44 : decode cX10_rowAnswer 44 = .ok (.lload 6, 2) := by decide +kernel
theorem dX10_rowAnswer_46 : decode cX10_rowAnswer 46 = .ok (.aload 5, 2) := by decide +kernel
theorem dX10_rowAnswer_48 : decode cX10_rowAnswer 48 = .ok (.invokespecial 102, 3) := by decide +kernel
theorem dX10_rowAnswer_51 : decode cX10_rowAnswer 51 = .ok (.invokevirtual 105, 3) := by decide +kernel
theorem dX10_rowAnswer_54 : decode cX10_rowAnswer 54 = .ok (.lload 6, 2) := by decide +kernel
theorem dX10_rowAnswer_56 : decode cX10_rowAnswer 56 = .ok (.l2i, 1) := by decide +kernel
theorem dX10_rowAnswer_57 : decode cX10_rowAnswer 57 = .ok (.ireturn, 1) := by decide +kernel
theorem dX10_rowAnswer_58 : decode cX10_rowAnswer 58 = .ok (.iload_n 2, 1) := by decide +kernel
theorem dX10_rowAnswer_59 : decode cX10_rowAnswer 59 = .ok (.bipush 7, 2) := by decide +kernel
theorem dX10_rowAnswer_61 : decode cX10_rowAnswer 61 = .ok (.if_icmp .eq 13, 3) := by decide +kernel
theorem dX10_rowAnswer_64 : decode cX10_rowAnswer 64 = .ok (.iload_n 2, 1) := by decide +kernel
theorem dX10_rowAnswer_65 : decode cX10_rowAnswer 65 = .ok (.bipush 8, 2) := by decide +kernel
theorem dX10_rowAnswer_67 : decode cX10_rowAnswer 67 = .ok (.if_icmp .eq 7, 3) := by decide +kernel
theorem dX10_rowAnswer_70 : decode cX10_rowAnswer 70 = .ok (.lload 6, 2) := by decide +kernel
theorem dX10_rowAnswer_72 : decode cX10_rowAnswer 72 = .ok (.l2i, 1) := by decide +kernel
theorem dX10_rowAnswer_73 : decode cX10_rowAnswer 73 = .ok (.ireturn, 1) := by decide +kernel
theorem dX10_rowAnswer_74 : decode cX10_rowAnswer 74 = .ok (.aload 5, 2) := by decide +kernel
theorem dX10_rowAnswer_76 : decode cX10_rowAnswer 76 = .ok (.iload 4, 2) := by decide +kernel
theorem dX10_rowAnswer_78 : decode cX10_rowAnswer 78 = .ok (.invokevirtual 245, 3) := by decide +kernel
theorem dX10_rowAnswer_81 : decode cX10_rowAnswer 81 = .ok (.ifCond .ne 6, 3) := by decide +kernel
theorem dX10_rowAnswer_84 : decode cX10_rowAnswer 84 = .ok (.bipush (-13), 2) := by decide +kernel
theorem dX10_rowAnswer_86 : decode cX10_rowAnswer 86 = .ok (.ireturn, 1) := by decide +kernel
theorem dX10_rowAnswer_87 : decode cX10_rowAnswer 87 = .ok (.aload 5, 2) := by decide +kernel
theorem dX10_rowAnswer_89 : decode cX10_rowAnswer 89 = .ok (.getfield 287, 3) := by decide +kernel
theorem dX10_rowAnswer_92 : decode cX10_rowAnswer 92 = .ok (.iload 4, 2) := by decide +kernel
theorem dX10_rowAnswer_94 : decode cX10_rowAnswer 94 = .ok (.laload, 1) := by decide +kernel
theorem dX10_rowAnswer_95 : decode cX10_rowAnswer 95 = .ok (.lstore 8, 2) := by decide +kernel
theorem dX10_rowAnswer_97 : decode cX10_rowAnswer 97 = .ok (.lload 8, 2) := by decide +kernel
theorem dX10_rowAnswer_99 : decode cX10_rowAnswer 99 = .ok (.lconst 0, 1) := by decide +kernel
theorem dX10_rowAnswer_100 : decode cX10_rowAnswer 100 = .ok (.lcmp, 1) := by decide +kernel
theorem dX10_rowAnswer_101 : decode cX10_rowAnswer 101 = .ok (.ifCond .ne 6, 3) := by decide +kernel
theorem dX10_rowAnswer_104 : decode cX10_rowAnswer 104 = .ok (.bipush (-16), 2) := by decide +kernel
theorem dX10_rowAnswer_106 : decode cX10_rowAnswer 106 = .ok (.ireturn, 1) := by decide +kernel
theorem dX10_rowAnswer_107 : decode cX10_rowAnswer 107 = .ok (.iload_n 2, 1) := by decide +kernel
theorem dX10_rowAnswer_108 : decode cX10_rowAnswer 108 = .ok (.bipush 7, 2) := by decide +kernel
theorem dX10_rowAnswer_110 : decode cX10_rowAnswer 110 = .ok (.if_icmp .ne 11, 3) := by decide +kernel
theorem dX10_rowAnswer_113 : decode cX10_rowAnswer 113 = .ok (.lload 6, 2) := by decide +kernel
theorem dX10_rowAnswer_115 : decode cX10_rowAnswer 115 = .ok (.lload 8, 2) := by decide +kernel
theorem dX10_rowAnswer_117 : decode cX10_rowAnswer 117 = .ok (.ldiv, 1) := by decide +kernel
theorem dX10_rowAnswer_118 : decode cX10_rowAnswer 118 = .ok (.goto 8, 3) := by decide +kernel
theorem dX10_rowAnswer_121 : decode cX10_rowAnswer 121 = .ok (.lload 6, 2) := by decide +kernel
theorem dX10_rowAnswer_123 : decode cX10_rowAnswer 123 = .ok (.lload 8, 2) := by decide +kernel
theorem dX10_rowAnswer_125 : decode cX10_rowAnswer 125 = .ok (.lrem, 1) := by decide +kernel
theorem dX10_rowAnswer_126 : decode cX10_rowAnswer 126 = .ok (.l2i, 1) := by decide +kernel
theorem dX10_rowAnswer_127 : decode cX10_rowAnswer 127 = .ok (.ireturn, 1) := by decide +kernel
end
section
theorem dX11_init_0 : decode cX11_init 0 = .ok (.aload_n 0, 1) := by decide +kernel
theorem dX11_init_1 : decode cX11_init 1 = .ok (.invokespecial 1, 3) := by decide +kernel
theorem dX11_init_4 : decode cX11_init 4 = .ok (.aload_n 0, 1) := by decide +kernel
theorem dX11_init_5 : decode cX11_init 5 = .ok (.bipush 60, 2) := by decide +kernel
theorem dX11_init_7 : decode cX11_init 7 = .ok (.newarray .int, 2) := by decide +kernel
theorem dX11_init_9 : decode cX11_init 9 = .ok (.putfield 7, 3) := by decide +kernel
theorem dX11_init_12 : decode cX11_init 12 = .ok (.aload_n 0, 1) := by decide +kernel
theorem dX11_init_13 : decode cX11_init 13 = .ok (.bipush 60, 2) := by decide +kernel
theorem dX11_init_15 : decode cX11_init 15 = .ok (.newarray .int, 2) := by decide +kernel
theorem dX11_init_17 : decode cX11_init 17 = .ok (.putfield 13, 3) := by decide +kernel
theorem dX11_init_20 : decode cX11_init 20 = .ok (.aload_n 0, 1) := by decide +kernel
theorem dX11_init_21 : decode cX11_init 21 = .ok (.sipush 720, 3) := by decide +kernel
theorem dX11_init_24 : decode cX11_init 24 = .ok (.newarray .int, 2) := by decide +kernel
theorem dX11_init_26 : decode cX11_init 26 = .ok (.putfield 16, 3) := by decide +kernel
theorem dX11_init_29 : decode cX11_init 29 = .ok (.aload_n 0, 1) := by decide +kernel
theorem dX11_init_30 : decode cX11_init 30 = .ok (.sipush 720, 3) := by decide +kernel
theorem dX11_init_33 : decode cX11_init 33 = .ok (.newarray .int, 2) := by decide +kernel
theorem dX11_init_35 : decode cX11_init 35 = .ok (.putfield 19, 3) := by decide +kernel
theorem dX11_init_38 : decode cX11_init 38 = .ok (.aload_n 0, 1) := by decide +kernel
theorem dX11_init_39 : decode cX11_init 39 = .ok (.sipush 720, 3) := by decide +kernel
theorem dX11_init_42 : decode cX11_init 42 = .ok (.newarray .long, 2) := by decide +kernel
theorem dX11_init_44 : decode cX11_init 44 = .ok (.putfield 22, 3) := by decide +kernel
theorem dX11_init_47 : decode cX11_init 47 = .ok (.aload_n 0, 1) := by decide +kernel
theorem dX11_init_48 : decode cX11_init 48 = .ok (.bipush 13, 2) := by decide +kernel
theorem dX11_init_50 : decode cX11_init 50 = .ok (.newarray .int, 2) := by decide +kernel
theorem dX11_init_52 : decode cX11_init 52 = .ok (.dup, 1) := by decide +kernel
theorem dX11_init_53 : decode cX11_init 53 = .ok (.iconst 0, 1) := by decide +kernel
theorem dX11_init_54 : decode cX11_init 54 = .ok (.iconst 1, 1) := by decide +kernel
theorem dX11_init_55 : decode cX11_init 55 = .ok (.iastore, 1) := by decide +kernel
theorem dX11_init_56 : decode cX11_init 56 = .ok (.dup, 1) := by decide +kernel
theorem dX11_init_57 : decode cX11_init 57 = .ok (.iconst 1, 1) := by decide +kernel
theorem dX11_init_58 : decode cX11_init 58 = .ok (.iconst 1, 1) := by decide +kernel
theorem dX11_init_59 : decode cX11_init 59 = .ok (.iastore, 1) := by decide +kernel
theorem dX11_init_60 : decode cX11_init 60 = .ok (.dup, 1) := by decide +kernel
theorem dX11_init_61 : decode cX11_init 61 = .ok (.iconst 2, 1) := by decide +kernel
theorem dX11_init_62 : decode cX11_init 62 = .ok (.iconst 4, 1) := by decide +kernel
theorem dX11_init_63 : decode cX11_init 63 = .ok (.iastore, 1) := by decide +kernel
theorem dX11_init_64 : decode cX11_init 64 = .ok (.dup, 1) := by decide +kernel
theorem dX11_init_65 : decode cX11_init 65 = .ok (.iconst 3, 1) := by decide +kernel
theorem dX11_init_66 : decode cX11_init 66 = .ok (.iconst 4, 1) := by decide +kernel
theorem dX11_init_67 : decode cX11_init 67 = .ok (.iastore, 1) := by decide +kernel
theorem dX11_init_68 : decode cX11_init 68 = .ok (.dup, 1) := by decide +kernel
theorem dX11_init_69 : decode cX11_init 69 = .ok (.iconst 4, 1) := by decide +kernel
theorem dX11_init_70 : decode cX11_init 70 = .ok (.iconst 3, 1) := by decide +kernel
theorem dX11_init_71 : decode cX11_init 71 = .ok (.iastore, 1) := by decide +kernel
theorem dX11_init_72 : decode cX11_init 72 = .ok (.dup, 1) := by decide +kernel
theorem dX11_init_73 : decode cX11_init 73 = .ok (.iconst 5, 1) := by decide +kernel
theorem dX11_init_74 : decode cX11_init 74 = .ok (.iconst 1, 1) := by decide +kernel
theorem dX11_init_75 : decode cX11_init 75 = .ok (.iastore, 1) := by decide +kernel
theorem dX11_init_76 : decode cX11_init 76 = .ok (.dup, 1) := by decide +kernel
theorem dX11_init_77 : decode cX11_init 77 = .ok (.bipush 6, 2) := by decide +kernel
theorem dX11_init_79 : decode cX11_init 79 = .ok (.iconst 1, 1) := by decide +kernel
theorem dX11_init_80 : decode cX11_init 80 = .ok (.iastore, 1) := by decide +kernel
theorem dX11_init_81 : decode cX11_init 81 = .ok (.dup, 1) := by decide +kernel
theorem dX11_init_82 : decode cX11_init 82 = .ok (.bipush 7, 2) := by decide +kernel
theorem dX11_init_84 : decode cX11_init 84 = .ok (.iconst 1, 1) := by decide +kernel
theorem dX11_init_85 : decode cX11_init 85 = .ok (.iastore, 1) := by decide +kernel
theorem dX11_init_86 : decode cX11_init 86 = .ok (.dup, 1) := by decide +kernel
theorem dX11_init_87 : decode cX11_init 87 = .ok (.bipush 8, 2) := by decide +kernel
theorem dX11_init_89 : decode cX11_init 89 = .ok (.iconst 1, 1) := by decide +kernel
theorem dX11_init_90 : decode cX11_init 90 = .ok (.iastore, 1) := by decide +kernel
theorem dX11_init_91 : decode cX11_init 91 = .ok (.dup, 1) := by decide +kernel
theorem dX11_init_92 : decode cX11_init 92 = .ok (.bipush 9, 2) := by decide +kernel
theorem dX11_init_94 : decode cX11_init 94 = .ok (.iconst 1, 1) := by decide +kernel
theorem dX11_init_95 : decode cX11_init 95 = .ok (.iastore, 1) := by decide +kernel
theorem dX11_init_96 : decode cX11_init 96 = .ok (.dup, 1) := by decide +kernel
theorem dX11_init_97 : decode cX11_init 97 = .ok (.bipush 10, 2) := by decide +kernel
theorem dX11_init_99 : decode cX11_init 99 = .ok (.iconst 1, 1) := by decide +kernel
theorem dX11_init_100 : decode cX11_init 100 = .ok (.iastore, 1) := by decide +kernel
theorem dX11_init_101 : decode cX11_init 101 = .ok (.dup, 1) := by decide +kernel
theorem dX11_init_102 : decode cX11_init 102 = .ok (.bipush 11, 2) := by decide +kernel
theorem dX11_init_104 : decode cX11_init 104 = .ok (.iconst 1, 1) := by decide +kernel
theorem dX11_init_105 : decode cX11_init 105 = .ok (.iastore, 1) := by decide +kernel
theorem dX11_init_106 : decode cX11_init 106 = .ok (.dup, 1) := by decide +kernel
theorem dX11_init_107 : decode cX11_init 107 = .ok (.bipush 12, 2) := by decide +kernel
theorem dX11_init_109 : decode cX11_init 109 = .ok (.iconst 1, 1) := by decide +kernel
theorem dX11_init_110 : decode cX11_init 110 = .ok (.iastore, 1) := by decide +kernel
theorem dX11_init_111 : decode cX11_init 111 = .ok (.putfield 26, 3) := by decide +kernel
theorem dX11_init_114 : decode cX11_init 114 = .ok (.aload_n 0, 1) := by decide +kernel
theorem dX11_init_115 : decode cX11_init 115 = .ok (.bipush 13, 2) := by decide +kernel
theorem dX11_init_117 : decode cX11_init 117 = .ok (.newarray .long, 2) := by decide +kernel
theorem dX11_init_119 : decode cX11_init 119 = .ok (.putfield 29, 3) := by decide +kernel
theorem dX11_init_122 : decode cX11_init 122 = .ok (.aload_n 0, 1) := by decide +kernel
theorem dX11_init_123 : decode cX11_init 123 = .ok (.bipush 50, 2) := by decide +kernel
theorem dX11_init_125 : decode cX11_init 125 = .ok (.newarray .int, 2) := by decide +kernel
theorem dX11_init_127 : decode cX11_init 127 = .ok (.putfield 32, 3) := by decide +kernel
theorem dX11_init_130 : decode cX11_init 130 = .ok (.aload_n 0, 1) := by decide +kernel
theorem dX11_init_131 : decode cX11_init 131 = .ok (.bipush 50, 2) := by decide +kernel
theorem dX11_init_133 : decode cX11_init 133 = .ok (.newarray .int, 2) := by decide +kernel
theorem dX11_init_135 : decode cX11_init 135 = .ok (.putfield 35, 3) := by decide +kernel
theorem dX11_init_138 : decode cX11_init 138 = .ok (.aload_n 0, 1) := by decide +kernel
theorem dX11_init_139 : decode cX11_init 139 = .ok (.bipush 50, 2) := by decide +kernel
theorem dX11_init_141 : decode cX11_init 141 = .ok (.newarray .int, 2) := by decide +kernel
theorem dX11_init_143 : decode cX11_init 143 = .ok (.putfield 38, 3) := by decide +kernel
theorem dX11_init_146 : decode cX11_init 146 = .ok (.aload_n 0, 1) := by decide +kernel
theorem dX11_init_147 : decode cX11_init 147 = .ok (.bipush 50, 2) := by decide +kernel
theorem dX11_init_149 : decode cX11_init 149 = .ok (.newarray .long, 2) := by decide +kernel
theorem dX11_init_151 : decode cX11_init 151 = .ok (.putfield 41, 3) := by decide +kernel
theorem dX11_init_154 : decode cX11_init 154 = .ok (.aload_n 0, 1) := by decide +kernel
theorem dX11_init_155 : decode cX11_init 155 = .ok (.bipush 58, 2) := by decide +kernel
theorem dX11_init_157 : decode cX11_init 157 = .ok (.newarray .int, 2) := by decide +kernel
theorem dX11_init_159 : decode cX11_init 159 = .ok (.putfield 44, 3) := by decide +kernel
theorem dX11_init_162 : decode cX11_init 162 = .ok (.aload_n 0, 1) := by decide +kernel
theorem dX11_init_163 : decode cX11_init 163 = .ok (.bipush 58, 2) := by decide +kernel
theorem dX11_init_165 : decode cX11_init 165 = .ok (.newarray .int, 2) := by decide +kernel
theorem dX11_init_167 : decode cX11_init 167 = .ok (.putfield 47, 3) := by decide +kernel
theorem dX11_init_170 : decode cX11_init 170 = .ok (.aload_n 0, 1) := by decide +kernel
theorem dX11_init_171 : decode cX11_init 171 = .ok (.sipush 5800, 3) := by decide +kernel
theorem dX11_init_174 : decode cX11_init 174 = .ok (.newarray .long, 2) := by decide +kernel
theorem dX11_init_176 : decode cX11_init 176 = .ok (.putfield 50, 3) := by decide +kernel
theorem dX11_init_179 : decode cX11_init 179 = .ok (.aload_n 0, 1) := by decide +kernel
theorem dX11_init_180 : decode cX11_init 180 = .ok (.bipush 8, 2) := by decide +kernel
theorem dX11_init_182 : decode cX11_init 182 = .ok (.newarray .long, 2) := by decide +kernel
theorem dX11_init_184 : decode cX11_init 184 = .ok (.putfield 53, 3) := by decide +kernel
theorem dX11_init_187 : decode cX11_init 187 = .ok (.aload_n 0, 1) := by decide +kernel
theorem dX11_init_188 : decode cX11_init 188 = .ok (.iconst 4, 1) := by decide +kernel
theorem dX11_init_189 : decode cX11_init 189 = .ok (.newarray .long, 2) := by decide +kernel
theorem dX11_init_191 : decode cX11_init 191 = .ok (.putfield 56, 3) := by decide +kernel
theorem dX11_init_194 : decode cX11_init 194 = .ok (.aload_n 0, 1) := by decide +kernel
theorem dX11_init_195 : decode cX11_init 195 = .ok (.sipush 1024, 3) := by decide +kernel
theorem dX11_init_198 : decode cX11_init 198 = .ok (.newarray .int, 2) := by decide +kernel
theorem dX11_init_200 : decode cX11_init 200 = .ok (.putfield 59, 3) := by decide +kernel
theorem dX11_init_203 : decode cX11_init 203 = .ok (.aload_n 0, 1) := by decide +kernel
theorem dX11_init_204 : decode cX11_init 204 = .ok (.sipush 256, 3) := by decide +kernel
theorem dX11_init_207 : decode cX11_init 207 = .ok (.newarray .int, 2) := by decide +kernel
theorem dX11_init_209 : decode cX11_init 209 = .ok (.putfield 62, 3) := by decide +kernel
theorem dX11_init_212 : decode cX11_init 212 = .ok (.aload_n 0, 1) := by decide +kernel
theorem dX11_init_213 : decode cX11_init 213 = .ok (.sipush 256, 3) := by decide +kernel
theorem dX11_init_216 : decode cX11_init 216 = .ok (.newarray .boolean, 2) := by decide +kernel
theorem dX11_init_218 : decode cX11_init 218 = .ok (.putfield 65, 3) := by decide +kernel
theorem dX11_init_221 : decode cX11_init 221 = .ok (.aload_n 0, 1) := by decide +kernel
theorem dX11_init_222 : decode cX11_init 222 = .ok (.iconst 3, 1) := by decide +kernel
theorem dX11_init_223 : decode cX11_init 223 = .ok (.newarray .int, 2) := by decide +kernel
theorem dX11_init_225 : decode cX11_init 225 = .ok (.putfield 69, 3) := by decide +kernel
theorem dX11_init_228 : decode cX11_init 228 = .ok (.aload_n 0, 1) := by decide +kernel
theorem dX11_init_229 : decode cX11_init 229 = .ok (.iconst 3, 1) := by decide +kernel
theorem dX11_init_230 : decode cX11_init 230 = .ok (.newarray .int, 2) := by decide +kernel
theorem dX11_init_232 : decode cX11_init 232 = .ok (.putfield 72, 3) := by decide +kernel
theorem dX11_init_235 : decode cX11_init 235 = .ok (.aload_n 0, 1) := by decide +kernel
theorem dX11_init_236 : decode cX11_init 236 = .ok (.iconst 3, 1) := by decide +kernel
theorem dX11_init_237 : decode cX11_init 237 = .ok (.newarray .int, 2) := by decide +kernel
theorem dX11_init_239 : decode cX11_init 239 = .ok (.putfield 75, 3) := by decide +kernel
theorem dX11_init_242 : decode cX11_init 242 = .ok (.aload_n 0, 1) := by decide +kernel
theorem dX11_init_243 : decode cX11_init 243 = .ok (.iconst 3, 1) := by decide +kernel
theorem dX11_init_244 : decode cX11_init 244 = .ok (.newarray .int, 2) := by decide +kernel
theorem dX11_init_246 : decode cX11_init 246 = .ok (.putfield 78, 3) := by decide +kernel
theorem dX11_init_249 : decode cX11_init 249 = .ok (.aload_n 0, 1) := by decide +kernel
theorem dX11_init_250 : decode cX11_init 250 = .ok (.iconst 3, 1) := by decide +kernel
theorem dX11_init_251 : decode cX11_init 251 = .ok (.newarray .int, 2) := by decide +kernel
theorem dX11_init_253 : decode cX11_init 253 = .ok (.putfield 81, 3) := by decide +kernel
theorem dX11_init_256 : decode cX11_init 256 = .ok (.aload_n 0, 1) := by decide +kernel
theorem dX11_init_257 : decode cX11_init 257 = .ok (.iconst 3, 1) := by decide +kernel
theorem dX11_init_258 : decode cX11_init 258 = .ok (.newarray .long, 2) := by decide +kernel
theorem dX11_init_260 : decode cX11_init 260 = .ok (.putfield 84, 3) := by decide +kernel
theorem dX11_init_263 : decode cX11_init 263 = .ok (.return_, 1) := by decide +kernel
theorem dX11_isWidth_0 : decode cX11_isWidth 0 = .ok (.iload_n 0, 1) := by decide +kernel
theorem dX11_isWidth_1 : decode cX11_isWidth 1 = .ok (.bipush 8, 2) := by decide +kernel
theorem dX11_isWidth_3 : decode cX11_isWidth 3 = .ok (.if_icmp .eq 21, 3) := by decide +kernel
theorem dX11_isWidth_6 : decode cX11_isWidth 6 = .ok (.iload_n 0, 1) := by decide +kernel
theorem dX11_isWidth_7 : decode cX11_isWidth 7 = .ok (.bipush 16, 2) := by decide +kernel
theorem dX11_isWidth_9 : decode cX11_isWidth 9 = .ok (.if_icmp .eq 15, 3) := by decide +kernel
theorem dX11_isWidth_12 : decode cX11_isWidth 12 = .ok (.iload_n 0, 1) := by decide +kernel
theorem dX11_isWidth_13 : decode cX11_isWidth 13 = .ok (.bipush 32, 2) := by decide +kernel
theorem dX11_isWidth_15 : decode cX11_isWidth 15 = .ok (.if_icmp .eq 9, 3) := by decide +kernel
theorem dX11_isWidth_18 : decode cX11_isWidth 18 = .ok (.iload_n 0, 1) := by decide +kernel
theorem dX11_isWidth_19 : decode cX11_isWidth 19 = .ok (.bipush 64, 2) := by decide +kernel
theorem dX11_isWidth_21 : decode cX11_isWidth 21 = .ok (.if_icmp .ne 7, 3) := by decide +kernel
theorem dX11_isWidth_24 : decode cX11_isWidth 24 = .ok (.iconst 1, 1) := by decide +kernel
theorem dX11_isWidth_25 : decode cX11_isWidth 25 = .ok (.goto 4, 3) := by decide +kernel
theorem dX11_isWidth_28 : decode cX11_isWidth 28 = .ok (.iconst 0, 1) := by decide +kernel
theorem dX11_isWidth_29 : decode cX11_isWidth 29 = .ok (.ireturn, 1) := by decide +kernel
theorem dX11_low_0 : decode cX11_low 0 = .ok (.iload_n 2, 1) := by decide +kernel
theorem dX11_low_1 : decode cX11_low 1 = .ok (.bipush 64, 2) := by decide +kernel
theorem dX11_low_3 : decode cX11_low 3 = .ok (.if_icmp .ne 7, 3) := by decide +kernel
theorem dX11_low_6 : decode cX11_low 6 = .ok (.lload_n 0, 1) := by decide +kernel
theorem dX11_low_7 : decode cX11_low 7 = .ok (.goto 10, 3) := by decide +kernel
theorem dX11_low_10 : decode cX11_low 10 = .ok (.lload_n 0, 1) := by decide +kernel
theorem dX11_low_11 : decode cX11_low 11 = .ok (.lconst 1, 1) := by decide +kernel
theorem dX11_low_12 : decode cX11_low 12 = .ok (.iload_n 2, 1) := by decide +kernel
theorem dX11_low_13 : decode cX11_low 13 = .ok (.lshl, 1) := by decide +kernel
theorem dX11_low_14 : decode cX11_low 14 = .ok (.lconst 1, 1) := by decide +kernel
theorem dX11_low_15 : decode cX11_low 15 = .ok (.lsub, 1) := by decide +kernel
theorem dX11_low_16 : decode cX11_low 16 = .ok (.land, 1) := by decide +kernel
theorem dX11_low_17 : decode cX11_low 17 = .ok (.lreturn, 1) := by decide +kernel
theorem dX11_isUp_0 : decode cX11_isUp 0 = .ok (.lload_n 0, 1) := by decide +kernel
theorem dX11_isUp_1 : decode cX11_isUp 1 = .ok (.iload_n 2, 1) := by decide +kernel
theorem dX11_isUp_2 : decode cX11_isUp 2 = .ok (.iconst 1, 1) := by decide +kernel
theorem dX11_isUp_3 : decode cX11_isUp 3 = .ok (.isub, 1) := by decide +kernel
theorem dX11_isUp_4 : decode cX11_isUp 4 = .ok (.lushr, 1) := by decide +kernel
theorem dX11_isUp_5 : decode cX11_isUp 5 = .ok (.lconst 1, 1) := by decide +kernel
theorem dX11_isUp_6 : decode cX11_isUp 6 = .ok (.land, 1) := by decide +kernel
theorem dX11_isUp_7 : decode cX11_isUp 7 = .ok (.lconst 1, 1) := by decide +kernel
theorem dX11_isUp_8 : decode cX11_isUp 8 = .ok (.lcmp, 1) := by decide +kernel
theorem dX11_isUp_9 : decode cX11_isUp 9 = .ok (.ifCond .ne 7, 3) := by decide +kernel
theorem dX11_isUp_12 : decode cX11_isUp 12 = .ok (.iconst 1, 1) := by decide +kernel
theorem dX11_isUp_13 : decode cX11_isUp 13 = .ok (.goto 4, 3) := by decide +kernel
theorem dX11_isUp_16 : decode cX11_isUp 16 = .ok (.iconst 0, 1) := by decide +kernel
theorem dX11_isUp_17 : decode cX11_isUp 17 = .ok (.ireturn, 1) := by decide +kernel
theorem dX11_signed_0 : decode cX11_signed 0 = .ok (.iload_n 2, 1) := by decide +kernel
theorem dX11_signed_1 : decode cX11_signed 1 = .ok (.bipush 64, 2) := by decide +kernel
theorem dX11_signed_3 : decode cX11_signed 3 = .ok (.if_icmp .ne 7, 3) := by decide +kernel
theorem dX11_signed_6 : decode cX11_signed 6 = .ok (.lload_n 0, 1) := by decide +kernel
theorem dX11_signed_7 : decode cX11_signed 7 = .ok (.goto 14, 3) := by decide +kernel
theorem dX11_signed_10 : decode cX11_signed 10 = .ok (.lload_n 0, 1) := by decide +kernel
theorem dX11_signed_11 : decode cX11_signed 11 = .ok (.bipush 64, 2) := by decide +kernel
theorem dX11_signed_13 : decode cX11_signed 13 = .ok (.iload_n 2, 1) := by decide +kernel
theorem dX11_signed_14 : decode cX11_signed 14 = .ok (.isub, 1) := by decide +kernel
theorem dX11_signed_15 : decode cX11_signed 15 = .ok (.lshl, 1) := by decide +kernel
theorem dX11_signed_16 : decode cX11_signed 16 = .ok (.bipush 64, 2) := by decide +kernel
theorem dX11_signed_18 : decode cX11_signed 18 = .ok (.iload_n 2, 1) := by decide +kernel
theorem dX11_signed_19 : decode cX11_signed 19 = .ok (.isub, 1) := by decide +kernel
theorem dX11_signed_20 : decode cX11_signed 20 = .ok (.lshr, 1) := by decide +kernel
theorem dX11_signed_21 : decode cX11_signed 21 = .ok (.lreturn, 1) := by decide +kernel
theorem dX11_isUnder_0 : decode cX11_isUnder 0 = .ok (.lload_n 0, 1) := by decide +kernel
theorem dX11_isUnder_1 : decode cX11_isUnder 1 = .ok (.ldc2_w 93, 3) := by decide +kernel
theorem dX11_isUnder_4 : decode cX11_isUnder 4 = .ok (.lxor, 1) := by decide +kernel
theorem dX11_isUnder_5 : decode cX11_isUnder 5 = .ok (.lload_n 2, 1) := by decide +kernel
theorem dX11_isUnder_6 : decode cX11_isUnder 6 = .ok (.ldc2_w 93, 3) := by decide +kernel
theorem dX11_isUnder_9 : decode cX11_isUnder 9 = .ok (.lxor, 1) := by decide +kernel
theorem dX11_isUnder_10 : decode cX11_isUnder 10 = .ok (.lcmp, 1) := by decide +kernel
theorem dX11_isUnder_11 : decode cX11_isUnder 11 = .ok (.ifCond .ge 7, 3) := by decide +kernel
theorem dX11_isUnder_14 : decode cX11_isUnder 14 = .ok (.iconst 1, 1) := by decide +kernel
theorem dX11_isUnder_15 : decode cX11_isUnder 15 = .ok (.goto 4, 3) := by decide +kernel
theorem dX11_isUnder_18 : decode cX11_isUnder 18 = .ok (.iconst 0, 1) := by decide +kernel
theorem dX11_isUnder_19 : decode cX11_isUnder 19 = .ok (.ireturn, 1) := by decide +kernel
theorem dX11_upper_0 : decode cX11_upper 0 = .ok (.lload_n 0, 1) := by decide +kernel
theorem dX11_upper_1 : decode cX11_upper 1 = .ok (.ldc2_w 95, 3) := by decide +kernel
theorem dX11_upper_4 : decode cX11_upper 4 = .ok (.land, 1) := by decide +kernel
theorem dX11_upper_5 : decode cX11_upper 5 = .ok (.lstore 4, 2) := by decide +kernel
theorem dX11_upper_7 : decode cX11_upper 7 = .ok (.lload_n 0, 1) := by decide +kernel
theorem dX11_upper_8 : decode cX11_upper 8 = .ok (.bipush 32, 2) := by decide +kernel
theorem dX11_upper_10 : decode cX11_upper 10 = .ok (.lushr, 1) := by decide +kernel
theorem dX11_upper_11 : decode cX11_upper 11 = .ok (.lstore 6, 2) := by decide +kernel
theorem dX11_upper_13 : decode cX11_upper 13 = .ok (.lload_n 2, 1) := by decide +kernel
theorem dX11_upper_14 : decode cX11_upper 14 = .ok (.ldc2_w 95, 3) := by decide +kernel
theorem dX11_upper_17 : decode cX11_upper 17 = .ok (.land, 1) := by decide +kernel
theorem dX11_upper_18 : decode cX11_upper 18 = .ok (.lstore 8, 2) := by decide +kernel
theorem dX11_upper_20 : decode cX11_upper 20 = .ok (.lload_n 2, 1) := by decide +kernel
theorem dX11_upper_21 : decode cX11_upper 21 = .ok (.bipush 32, 2) := by decide +kernel
theorem dX11_upper_23 : decode cX11_upper 23 = .ok (.lushr, 1) := by decide +kernel
theorem dX11_upper_24 : decode cX11_upper 24 = .ok (.lstore 10, 2) := by decide +kernel
theorem dX11_upper_26 : decode cX11_upper 26 = .ok (.lload 6, 2) := by decide +kernel
theorem dX11_upper_28 : decode cX11_upper 28 = .ok (.lload 8, 2) := by decide +kernel
theorem dX11_upper_30 : decode cX11_upper 30 = .ok (.lmul, 1) := by decide +kernel
theorem dX11_upper_31 : decode cX11_upper 31 = .ok (.lload 4, 2) := by decide +kernel
theorem dX11_upper_33 : decode cX11_upper 33 = .ok (.lload 8, 2) := by decide +kernel
theorem dX11_upper_35 : decode cX11_upper 35 = .ok (.lmul, 1) := by decide +kernel
theorem dX11_upper_36 : decode cX11_upper 36 = .ok (.bipush 32, 2) := by decide +kernel
theorem dX11_upper_38 : decode cX11_upper 38 = .ok (.lushr, 1) := by decide +kernel
theorem dX11_upper_39 : decode cX11_upper 39 = .ok (.ladd, 1) := by decide +kernel
theorem dX11_upper_40 : decode cX11_upper 40 = .ok (.lstore 12, 2) := by decide +kernel
theorem dX11_upper_42 : decode cX11_upper 42 = .ok (.lload 4, 2) := by decide +kernel
theorem dX11_upper_44 : decode cX11_upper 44 = .ok (.lload 10, 2) := by decide +kernel
theorem dX11_upper_46 : decode cX11_upper 46 = .ok (.lmul, 1) := by decide +kernel
theorem dX11_upper_47 : decode cX11_upper 47 = .ok (.lload 12, 2) := by decide +kernel
theorem dX11_upper_49 : decode cX11_upper 49 = .ok (.ldc2_w 95, 3) := by decide +kernel
theorem dX11_upper_52 : decode cX11_upper 52 = .ok (.land, 1) := by decide +kernel
theorem dX11_upper_53 : decode cX11_upper 53 = .ok (.ladd, 1) := by decide +kernel
theorem dX11_upper_54 : decode cX11_upper 54 = .ok (.lstore 14, 2) := by decide +kernel
theorem dX11_upper_56 : decode cX11_upper 56 = .ok (.lload 6, 2) := by decide +kernel
theorem dX11_upper_58 : decode cX11_upper 58 = .ok (.lload 10, 2) := by decide +kernel
theorem dX11_upper_60 : decode cX11_upper 60 = .ok (.lmul, 1) := by decide +kernel
theorem dX11_upper_61 : decode cX11_upper 61 = .ok (.lload 12, 2) := by decide +kernel
theorem dX11_upper_63 : decode cX11_upper 63 = .ok (.bipush 32, 2) := by decide +kernel
theorem dX11_upper_65 : decode cX11_upper 65 = .ok (.lushr, 1) := by decide +kernel
theorem dX11_upper_66 : decode cX11_upper 66 = .ok (.ladd, 1) := by decide +kernel
theorem dX11_upper_67 : decode cX11_upper 67 = .ok (.lload 14, 2) := by decide +kernel
theorem dX11_upper_69 : decode cX11_upper 69 = .ok (.bipush 32, 2) := by decide +kernel
theorem dX11_upper_71 : decode cX11_upper 71 = .ok (.lushr, 1) := by decide +kernel
theorem dX11_upper_72 : decode cX11_upper 72 = .ok (.ladd, 1) := by decide +kernel
theorem dX11_upper_73 : decode cX11_upper 73 = .ok (.lreturn, 1) := by decide +kernel
theorem dX11_upperPlain_0 : decode cX11_upperPlain 0 = .ok (.iload 4, 2) := by decide +kernel
theorem dX11_upperPlain_2 : decode cX11_upperPlain 2 = .ok (.bipush 64, 2) := by decide +kernel
theorem dX11_upperPlain_4 : decode cX11_upperPlain 4 = .ok (.if_icmp .ne 11, 3) := by decide +kernel
theorem dX11_upperPlain_7 : decode cX11_upperPlain 7 = .ok (.lload_n 0, 1) := by decide +kernel
theorem dX11_upperPlain_8 : decode cX11_upperPlain 8 = .ok (.lload_n 2, 1) := by decide +kernel
theorem dX11_upperPlain_9 : decode cX11_upperPlain 9 = .ok (.invokestatic 97, 3) := by decide +kernel
theorem dX11_upperPlain_12 : decode cX11_upperPlain 12 = .ok (.goto 9, 3) := by decide +kernel
theorem dX11_upperPlain_15 : decode cX11_upperPlain 15 = .ok (.lload_n 0, 1) := by decide +kernel
theorem dX11_upperPlain_16 : decode cX11_upperPlain 16 = .ok (.lload_n 2, 1) := by decide +kernel
theorem dX11_upperPlain_17 : decode cX11_upperPlain 17 = .ok (.lmul, 1) := by decide +kernel
theorem dX11_upperPlain_18 : decode cX11_upperPlain 18 = .ok (.iload 4, 2) := by decide +kernel
theorem dX11_upperPlain_20 : decode cX11_upperPlain 20 = .ok (.lushr, 1) := by decide +kernel
theorem dX11_upperPlain_21 : decode cX11_upperPlain 21 = .ok (.lreturn, 1) := by decide +kernel
theorem dX11_upperSigned_0 : decode cX11_upperSigned 0 = .ok (.iload 4, 2) := by decide +kernel
theorem dX11_upperSigned_2 : decode cX11_upperSigned 2 = .ok (.bipush 64, 2) := by decide +kernel
theorem dX11_upperSigned_4 : decode cX11_upperSigned 4 = .ok (.if_icmp .ge 25, 3) := by decide +kernel
theorem dX11_upperSigned_7 : decode cX11_upperSigned 7 = .ok (.lload_n 0, 1) := by decide +kernel
theorem dX11_upperSigned_8 : decode cX11_upperSigned 8 = .ok (.iload 4, 2) := by decide +kernel
theorem dX11_upperSigned_10 : decode cX11_upperSigned 10 = .ok (.invokestatic 101, 3) := by decide +kernel
theorem dX11_upperSigned_13 : decode cX11_upperSigned 13 = .ok (.lload_n 2, 1) := by decide +kernel
theorem dX11_upperSigned_14 : decode cX11_upperSigned 14 = .ok (.iload 4, 2) := by decide +kernel
theorem dX11_upperSigned_16 : decode cX11_upperSigned 16 = .ok (.invokestatic 101, 3) := by decide +kernel
theorem dX11_upperSigned_19 : decode cX11_upperSigned 19 = .ok (.lmul, 1) := by decide +kernel
theorem dX11_upperSigned_20 : decode cX11_upperSigned 20 = .ok (.iload 4, 2) := by decide +kernel
theorem dX11_upperSigned_22 : decode cX11_upperSigned 22 = .ok (.lshr, 1) := by decide +kernel
theorem dX11_upperSigned_23 : decode cX11_upperSigned 23 = .ok (.iload 4, 2) := by decide +kernel
theorem dX11_upperSigned_25 : decode cX11_upperSigned 25 = .ok (.invokestatic 105, 3) := by decide +kernel
theorem dX11_upperSigned_28 : decode cX11_upperSigned 28 = .ok (.lreturn, 1) := by decide +kernel
theorem dX11_upperSigned_29 : decode cX11_upperSigned 29 = .ok (.lload_n 0, 1) := by decide +kernel
theorem dX11_upperSigned_30 : decode cX11_upperSigned 30 = .ok (.lload_n 2, 1) := by decide +kernel
theorem dX11_upperSigned_31 : decode cX11_upperSigned 31 = .ok (.invokestatic 97, 3) := by decide +kernel
theorem dX11_upperSigned_34 : decode cX11_upperSigned 34 = .ok (.lload_n 0, 1) := by decide +kernel
theorem dX11_upperSigned_35 : decode cX11_upperSigned 35 = .ok (.lconst 0, 1) := by decide +kernel
theorem dX11_upperSigned_36 : decode cX11_upperSigned 36 = .ok (.lcmp, 1) := by decide +kernel
theorem dX11_upperSigned_37 : decode cX11_upperSigned 37 = .ok (.ifCond .ge 7, 3) := by decide +kernel
theorem dX11_upperSigned_40 : decode cX11_upperSigned 40 = .ok (.lload_n 2, 1) := by decide +kernel
theorem dX11_upperSigned_41 : decode cX11_upperSigned 41 = .ok (.goto 4, 3) := by decide +kernel
theorem dX11_upperSigned_44 : decode cX11_upperSigned 44 = .ok (.lconst 0, 1) := by decide +kernel
theorem dX11_upperSigned_45 : decode cX11_upperSigned 45 = .ok (.lsub, 1) := by decide +kernel
theorem dX11_upperSigned_46 : decode cX11_upperSigned 46 = .ok (.lload_n 2, 1) := by decide +kernel
theorem dX11_upperSigned_47 : decode cX11_upperSigned 47 = .ok (.lconst 0, 1) := by decide +kernel
theorem dX11_upperSigned_48 : decode cX11_upperSigned 48 = .ok (.lcmp, 1) := by decide +kernel
theorem dX11_upperSigned_49 : decode cX11_upperSigned 49 = .ok (.ifCond .ge 7, 3) := by decide +kernel
theorem dX11_upperSigned_52 : decode cX11_upperSigned 52 = .ok (.lload_n 0, 1) := by decide +kernel
theorem dX11_upperSigned_53 : decode cX11_upperSigned 53 = .ok (.goto 4, 3) := by decide +kernel
theorem dX11_upperSigned_56 : decode cX11_upperSigned 56 = .ok (.lconst 0, 1) := by decide +kernel
theorem dX11_upperSigned_57 : decode cX11_upperSigned 57 = .ok (.lsub, 1) := by decide +kernel
theorem dX11_upperSigned_58 : decode cX11_upperSigned 58 = .ok (.lreturn, 1) := by decide +kernel
theorem dX11_quotient_0 : decode cX11_quotient 0 = .ok (.lconst 0, 1) := by decide +kernel
theorem dX11_quotient_1 : decode cX11_quotient 1 = .ok (.lstore 5, 2) := by decide +kernel
theorem dX11_quotient_3 : decode cX11_quotient 3 = .ok (.lconst 0, 1) := by decide +kernel
theorem dX11_quotient_4 : decode cX11_quotient 4 = .ok (.lstore 7, 2) := by decide +kernel
theorem dX11_quotient_6 : decode cX11_quotient 6 = .ok (.bipush 63, 2) := by decide +kernel
theorem dX11_quotient_8 : decode cX11_quotient 8 = .ok (.istore 9, 2) := by decide +kernel
theorem dX11_quotient_10 : decode cX11_quotient 10 = .ok (.iload 9, 2) := by decide +kernel
theorem dX11_quotient_12 : decode cX11_quotient 12 = .ok (.ifCond .lt 68, 3) := by decide +kernel
theorem dX11_quotient_15 : decode cX11_quotient 15 = .ok (.lload 7, 2) := by decide +kernel
theorem dX11_quotient_17 : decode cX11_quotient 17 = .ok (.lconst 0, 1) := by decide +kernel
theorem dX11_quotient_18 : decode cX11_quotient 18 = .ok (.lcmp, 1) := by decide +kernel
theorem dX11_quotient_19 : decode cX11_quotient 19 = .ok (.ifCond .ge 7, 3) := by decide +kernel
theorem dX11_quotient_22 : decode cX11_quotient 22 = .ok (.iconst 1, 1) := by decide +kernel
theorem dX11_quotient_23 : decode cX11_quotient 23 = .ok (.goto 4, 3) := by decide +kernel
theorem dX11_quotient_26 : decode cX11_quotient 26 = .ok (.iconst 0, 1) := by decide +kernel
theorem dX11_quotient_27 : decode cX11_quotient 27 = .ok (.istore 10, 2) := by decide +kernel
theorem dX11_quotient_29 : decode cX11_quotient 29 = .ok (.lload 7, 2) := by decide +kernel
theorem dX11_quotient_31 : decode cX11_quotient 31 = .ok (.iconst 1, 1) := by decide +kernel
theorem dX11_quotient_32 : decode cX11_quotient 32 = .ok (.lshl, 1) := by decide +kernel
theorem dX11_quotient_33 : decode cX11_quotient 33 = .ok (.lload_n 1, 1) := by decide +kernel
theorem dX11_quotient_34 : decode cX11_quotient 34 = .ok (.iload 9, 2) := by decide +kernel
theorem dX11_quotient_36 : decode cX11_quotient 36 = .ok (.lushr, 1) := by decide +kernel
theorem dX11_quotient_37 : decode cX11_quotient 37 = .ok (.lconst 1, 1) := by decide +kernel
theorem dX11_quotient_38 : decode cX11_quotient 38 = .ok (.land, 1) := by decide +kernel
theorem dX11_quotient_39 : decode cX11_quotient 39 = .ok (.lor, 1) := by decide +kernel
theorem dX11_quotient_40 : decode cX11_quotient 40 = .ok (.lstore 7, 2) := by decide +kernel
theorem dX11_quotient_42 : decode cX11_quotient 42 = .ok (.lload 5, 2) := by decide +kernel
theorem dX11_quotient_44 : decode cX11_quotient 44 = .ok (.iconst 1, 1) := by decide +kernel
theorem dX11_quotient_45 : decode cX11_quotient 45 = .ok (.lshl, 1) := by decide +kernel
theorem dX11_quotient_46 : decode cX11_quotient 46 = .ok (.lstore 5, 2) := by decide +kernel
theorem dX11_quotient_48 : decode cX11_quotient 48 = .ok (.iload 10, 2) := by decide +kernel
theorem dX11_quotient_50 : decode cX11_quotient 50 = .ok (.ifCond .ne 12, 3) := by decide +kernel
theorem dX11_quotient_53 : decode cX11_quotient 53 = .ok (.lload 7, 2) := by decide +kernel
theorem dX11_quotient_55 : decode cX11_quotient 55 = .ok (.lload_n 3, 1) := by decide +kernel
theorem dX11_quotient_56 : decode cX11_quotient 56 = .ok (.invokestatic 108, 3) := by decide +kernel
theorem dX11_quotient_59 : decode cX11_quotient 59 = .ok (.ifCond .ne 15, 3) := by decide +kernel
theorem dX11_quotient_62 : decode cX11_quotient 62 = .ok (.lload 7, 2) := by decide +kernel
theorem dX11_quotient_64 : decode cX11_quotient 64 = .ok (.lload_n 3, 1) := by decide +kernel
theorem dX11_quotient_65 : decode cX11_quotient 65 = .ok (.lsub, 1) := by decide +kernel
theorem dX11_quotient_66 : decode cX11_quotient 66 = .ok (.lstore 7, 2) := by decide +kernel
theorem dX11_quotient_68 : decode cX11_quotient 68 = .ok (.lload 5, 2) := by decide +kernel
theorem dX11_quotient_70 : decode cX11_quotient 70 = .ok (.lconst 1, 1) := by decide +kernel
theorem dX11_quotient_71 : decode cX11_quotient 71 = .ok (.lor, 1) := by decide +kernel
theorem dX11_quotient_72 : decode cX11_quotient 72 = .ok (.lstore 5, 2) := by decide +kernel
theorem dX11_quotient_74 : decode cX11_quotient 74 = .ok (.iinc 9 (-1), 3) := by decide +kernel
theorem dX11_quotient_77 : decode cX11_quotient 77 = .ok (.goto (-67), 3) := by decide +kernel
theorem dX11_quotient_80 : decode cX11_quotient 80 = .ok (.aload_n 0, 1) := by decide +kernel
theorem dX11_quotient_81 : decode cX11_quotient 81 = .ok (.lload 7, 2) := by decide +kernel
theorem dX11_quotient_83 : decode cX11_quotient 83 = .ok (.putfield 112, 3) := by decide +kernel
theorem dX11_quotient_86 : decode cX11_quotient 86 = .ok (.lload 5, 2) := by decide +kernel
theorem dX11_quotient_88 : decode cX11_quotient 88 = .ok (.lreturn, 1) := by decide +kernel
theorem dX11_inverseOf_0 : decode cX11_inverseOf 0 = .ok (.lload_n 0, 1) := by decide +kernel
theorem dX11_inverseOf_1 : decode cX11_inverseOf 1 = .ok (.lstore_n 2, 1) := by decide +kernel
theorem dX11_inverseOf_2 : decode cX11_inverseOf 2 = .ok (.iconst 0, 1) := by decide +kernel
theorem dX11_inverseOf_3 : decode cX11_inverseOf 3 = .ok (.istore 4, 2) := by decide +kernel
theorem dX11_inverseOf_5 : decode cX11_inverseOf 5 = .ok (.iload 4, 2) := by decide +kernel
theorem dX11_inverseOf_7 : decode cX11_inverseOf 7 = .ok (.bipush 6, 2) := by decide +kernel
theorem dX11_inverseOf_9 : decode cX11_inverseOf 9 = .ok (.if_icmp .ge 19, 3) := by decide +kernel
theorem dX11_inverseOf_12 : decode cX11_inverseOf 12 = .ok (.lload_n 2, 1) := by decide +kernel
theorem dX11_inverseOf_13 : decode cX11_inverseOf 13 = .ok (.ldc2_w 116, 3) := by decide +kernel
theorem dX11_inverseOf_16 : decode cX11_inverseOf 16 = .ok (.lload_n 0, 1) := by decide +kernel
theorem dX11_inverseOf_17 : decode cX11_inverseOf 17 = .ok (.lload_n 2, 1) := by decide +kernel
theorem dX11_inverseOf_18 : decode cX11_inverseOf 18 = .ok (.lmul, 1) := by decide +kernel
theorem dX11_inverseOf_19 : decode cX11_inverseOf 19 = .ok (.lsub, 1) := by decide +kernel
theorem dX11_inverseOf_20 : decode cX11_inverseOf 20 = .ok (.lmul, 1) := by decide +kernel
theorem dX11_inverseOf_21 : decode cX11_inverseOf 21 = .ok (.lstore_n 2, 1) := by decide +kernel
theorem dX11_inverseOf_22 : decode cX11_inverseOf 22 = .ok (.iinc 4 1, 3) := by decide +kernel
theorem dX11_inverseOf_25 : decode cX11_inverseOf 25 = .ok (.goto (-20), 3) := by decide +kernel
theorem dX11_inverseOf_28 : decode cX11_inverseOf 28 = .ok (.lload_n 2, 1) := by decide +kernel
theorem dX11_inverseOf_29 : decode cX11_inverseOf 29 = .ok (.lreturn, 1) := by decide +kernel
theorem dX11_isForm_0 : decode cX11_isForm 0 = .ok (.iload_n 1, 1) := by decide +kernel
theorem dX11_isForm_1 : decode cX11_isForm 1 = .ok (.ifCond .lt 15, 3) := by decide +kernel
theorem dX11_isForm_4 : decode cX11_isForm 4 = .ok (.iload_n 1, 1) := by decide +kernel
theorem dX11_isForm_5 : decode cX11_isForm 5 = .ok (.aload_n 0, 1) := by decide +kernel
theorem dX11_isForm_6 : decode cX11_isForm 6 = .ok (.getfield 118, 3) := by decide +kernel
theorem dX11_isForm_9 : decode cX11_isForm 9 = .ok (.if_icmp .ge 7, 3) := by decide +kernel
theorem dX11_isForm_12 : decode cX11_isForm 12 = .ok (.iconst 1, 1) := by decide +kernel
theorem dX11_isForm_13 : decode cX11_isForm 13 = .ok (.goto 4, 3) := by decide +kernel
theorem dX11_isForm_16 : decode cX11_isForm 16 = .ok (.iconst 0, 1) := by decide +kernel
theorem dX11_isForm_17 : decode cX11_isForm 17 = .ok (.ireturn, 1) := by decide +kernel
theorem dX11_takesOperand_0 : decode cX11_takesOperand 0 = .ok (.iload_n 0, 1) := by decide +kernel
theorem dX11_takesOperand_1 : decode cX11_takesOperand 1 = .ok (.iconst 5, 1) := by decide +kernel
theorem dX11_takesOperand_2 : decode cX11_takesOperand 2 = .ok (.if_icmp .eq 21, 3) := by decide +kernel
theorem dX11_takesOperand_5 : decode cX11_takesOperand 5 = .ok (.iload_n 0, 1) := by decide +kernel
theorem dX11_takesOperand_6 : decode cX11_takesOperand 6 = .ok (.bipush 6, 2) := by decide +kernel
theorem dX11_takesOperand_8 : decode cX11_takesOperand 8 = .ok (.if_icmp .eq 15, 3) := by decide +kernel
theorem dX11_takesOperand_11 : decode cX11_takesOperand 11 = .ok (.iload_n 0, 1) := by decide +kernel
theorem dX11_takesOperand_12 : decode cX11_takesOperand 12 = .ok (.bipush 8, 2) := by decide +kernel
theorem dX11_takesOperand_14 : decode cX11_takesOperand 14 = .ok (.if_icmp .eq 9, 3) := by decide +kernel
theorem dX11_takesOperand_17 : decode cX11_takesOperand 17 = .ok (.iload_n 0, 1) := by decide +kernel
theorem dX11_takesOperand_18 : decode cX11_takesOperand 18 = .ok (.bipush 12, 2) := by decide +kernel
theorem dX11_takesOperand_20 : decode cX11_takesOperand 20 = .ok (.if_icmp .ne 7, 3) := by decide +kernel
theorem dX11_takesOperand_23 : decode cX11_takesOperand 23 = .ok (.iconst 1, 1) := by decide +kernel
theorem dX11_takesOperand_24 : decode cX11_takesOperand 24 = .ok (.goto 4, 3) := by decide +kernel
theorem dX11_takesOperand_27 : decode cX11_takesOperand 27 = .ok (.iconst 0, 1) := by decide +kernel
theorem dX11_takesOperand_28 : decode cX11_takesOperand 28 = .ok (.ireturn, 1) := by decide +kernel
theorem dX11_takesCount_0 : decode cX11_takesCount 0 = .ok (.iload_n 0, 1) := by decide +kernel
theorem dX11_takesCount_1 : decode cX11_takesCount 1 = .ok (.ifCond .eq 14, 3) := by decide +kernel
theorem dX11_takesCount_4 : decode cX11_takesCount 4 = .ok (.iload_n 0, 1) := by decide +kernel
theorem dX11_takesCount_5 : decode cX11_takesCount 5 = .ok (.iconst 1, 1) := by decide +kernel
theorem dX11_takesCount_6 : decode cX11_takesCount 6 = .ok (.if_icmp .eq 9, 3) := by decide +kernel
theorem dX11_takesCount_9 : decode cX11_takesCount 9 = .ok (.iload_n 0, 1) := by decide +kernel
theorem dX11_takesCount_10 : decode cX11_takesCount 10 = .ok (.bipush 10, 2) := by decide +kernel
theorem dX11_takesCount_12 : decode cX11_takesCount 12 = .ok (.if_icmp .ne 7, 3) := by decide +kernel
theorem dX11_takesCount_15 : decode cX11_takesCount 15 = .ok (.iconst 1, 1) := by decide +kernel
theorem dX11_takesCount_16 : decode cX11_takesCount 16 = .ok (.goto 4, 3) := by decide +kernel
theorem dX11_takesCount_19 : decode cX11_takesCount 19 = .ok (.iconst 0, 1) := by decide +kernel
theorem dX11_takesCount_20 : decode cX11_takesCount 20 = .ok (.ireturn, 1) := by decide +kernel
theorem dX11_worked_0 : decode cX11_worked 0 = .ok (.iload_n 0, 1) := by decide +kernel
theorem dX11_worked_1 : decode cX11_worked 1 = .ok (.tableswitch 185 0 11 #[63, 68, 83, 91, 99, 108, 117, 126, 135, 139, 143, 171], 63) := by decide +kernel
theorem dX11_worked_64 : decode cX11_worked 64 = .ok (.lload_n 1, 1) := by decide +kernel
theorem dX11_worked_65 : decode cX11_worked 65 = .ok (.lload_n 3, 1) := by decide +kernel
theorem dX11_worked_66 : decode cX11_worked 66 = .ok (.l2i, 1) := by decide +kernel
theorem dX11_worked_67 : decode cX11_worked 67 = .ok (.lushr, 1) := by decide +kernel
theorem dX11_worked_68 : decode cX11_worked 68 = .ok (.lreturn, 1) := by decide +kernel
theorem dX11_worked_69 : decode cX11_worked 69 = .ok (.lload_n 1, 1) := by decide +kernel
theorem dX11_worked_70 : decode cX11_worked 70 = .ok (.iload 5, 2) := by decide +kernel
theorem dX11_worked_72 : decode cX11_worked 72 = .ok (.invokestatic 101, 3) := by decide +kernel
theorem dX11_worked_75 : decode cX11_worked 75 = .ok (.lload_n 3, 1) := by decide +kernel
theorem dX11_worked_76 : decode cX11_worked 76 = .ok (.l2i, 1) := by decide +kernel
theorem dX11_worked_77 : decode cX11_worked 77 = .ok (.lshr, 1) := by decide +kernel
theorem dX11_worked_78 : decode cX11_worked 78 = .ok (.iload 5, 2) := by decide +kernel
theorem dX11_worked_80 : decode cX11_worked 80 = .ok (.invokestatic 105, 3) := by decide +kernel
theorem dX11_worked_83 : decode cX11_worked 83 = .ok (.lreturn, 1) := by decide +kernel
theorem dX11_worked_84 : decode cX11_worked 84 = .ok (.lload_n 1, 1) := by decide +kernel
theorem dX11_worked_85 : decode cX11_worked 85 = .ok (.lload_n 3, 1) := by decide +kernel
theorem dX11_worked_86 : decode cX11_worked 86 = .ok (.iload 5, 2) := by decide +kernel
theorem dX11_worked_88 : decode cX11_worked 88 = .ok (.invokestatic 121, 3) := by decide +kernel
theorem dX11_worked_91 : decode cX11_worked 91 = .ok (.lreturn, 1) := by decide +kernel
theorem dX11_worked_92 : decode cX11_worked 92 = .ok (.lload_n 1, 1) := by decide +kernel
theorem dX11_worked_93 : decode cX11_worked 93 = .ok (.lload_n 3, 1) := by decide +kernel
theorem dX11_worked_94 : decode cX11_worked 94 = .ok (.iload 5, 2) := by decide +kernel
theorem dX11_worked_96 : decode cX11_worked 96 = .ok (.invokestatic 125, 3) := by decide +kernel
theorem dX11_worked_99 : decode cX11_worked 99 = .ok (.lreturn, 1) := by decide +kernel
theorem dX11_worked_100 : decode cX11_worked 100 = .ok (.lload_n 1, 1) := by decide +kernel
theorem dX11_worked_101 : decode cX11_worked 101 = .ok (.lload_n 3, 1) := by decide +kernel
theorem dX11_worked_102 : decode cX11_worked 102 = .ok (.lmul, 1) := by decide +kernel
theorem dX11_worked_103 : decode cX11_worked 103 = .ok (.iload 5, 2) := by decide +kernel
theorem dX11_worked_105 : decode cX11_worked 105 = .ok (.invokestatic 105, 3) := by decide +kernel
theorem dX11_worked_108 : decode cX11_worked 108 = .ok (.lreturn, 1) := by decide +kernel
theorem dX11_worked_109 : decode cX11_worked 109 = .ok (.lload_n 1, 1) := by decide +kernel
theorem dX11_worked_110 : decode cX11_worked 110 = .ok (.lload_n 3, 1) := by decide +kernel
theorem dX11_worked_111 : decode cX11_worked 111 = .ok (.ladd, 1) := by decide +kernel
theorem dX11_worked_112 : decode cX11_worked 112 = .ok (.iload 5, 2) := by decide +kernel
theorem dX11_worked_114 : decode cX11_worked 114 = .ok (.invokestatic 105, 3) := by decide +kernel
theorem dX11_worked_117 : decode cX11_worked 117 = .ok (.lreturn, 1) := by decide +kernel
theorem dX11_worked_118 : decode cX11_worked 118 = .ok (.lload_n 1, 1) := by decide +kernel
theorem dX11_worked_119 : decode cX11_worked 119 = .ok (.lload_n 3, 1) := by decide +kernel
theorem dX11_worked_120 : decode cX11_worked 120 = .ok (.lsub, 1) := by decide +kernel
theorem dX11_worked_121 : decode cX11_worked 121 = .ok (.iload 5, 2) := by decide +kernel
theorem dX11_worked_123 : decode cX11_worked 123 = .ok (.invokestatic 105, 3) := by decide +kernel
theorem dX11_worked_126 : decode cX11_worked 126 = .ok (.lreturn, 1) := by decide +kernel
theorem dX11_worked_127 : decode cX11_worked 127 = .ok (.lload_n 3, 1) := by decide +kernel
theorem dX11_worked_128 : decode cX11_worked 128 = .ok (.lload_n 1, 1) := by decide +kernel
theorem dX11_worked_129 : decode cX11_worked 129 = .ok (.lsub, 1) := by decide +kernel
theorem dX11_worked_130 : decode cX11_worked 130 = .ok (.iload 5, 2) := by decide +kernel
theorem dX11_worked_132 : decode cX11_worked 132 = .ok (.invokestatic 105, 3) := by decide +kernel
theorem dX11_worked_135 : decode cX11_worked 135 = .ok (.lreturn, 1) := by decide +kernel
theorem dX11_worked_136 : decode cX11_worked 136 = .ok (.lload_n 1, 1) := by decide +kernel
theorem dX11_worked_137 : decode cX11_worked 137 = .ok (.lload_n 3, 1) := by decide +kernel
theorem dX11_worked_138 : decode cX11_worked 138 = .ok (.lxor, 1) := by decide +kernel
theorem dX11_worked_139 : decode cX11_worked 139 = .ok (.lreturn, 1) := by decide +kernel
theorem dX11_worked_140 : decode cX11_worked 140 = .ok (.lload_n 1, 1) := by decide +kernel
theorem dX11_worked_141 : decode cX11_worked 141 = .ok (.lload_n 3, 1) := by decide +kernel
theorem dX11_worked_142 : decode cX11_worked 142 = .ok (.land, 1) := by decide +kernel
theorem dX11_worked_143 : decode cX11_worked 143 = .ok (.lreturn, 1) := by decide +kernel
theorem dX11_worked_144 : decode cX11_worked 144 = .ok (.lload_n 3, 1) := by decide +kernel
theorem dX11_worked_145 : decode cX11_worked 145 = .ok (.lconst 0, 1) := by decide +kernel
theorem dX11_worked_146 : decode cX11_worked 146 = .ok (.lcmp, 1) := by decide +kernel
theorem dX11_worked_147 : decode cX11_worked 147 = .ok (.ifCond .ne 7, 3) := by decide +kernel
theorem dX11_worked_150 : decode cX11_worked 150 = .ok (.lload_n 1, 1) := by decide +kernel
theorem dX11_worked_151 : decode cX11_worked 151 = .ok (.goto 20, 3) := by decide +kernel
theorem dX11_worked_154 : decode cX11_worked 154 = .ok (.lload_n 1, 1) := by decide +kernel
theorem dX11_worked_155 : decode cX11_worked 155 = .ok (.lload_n 3, 1) := by decide +kernel
theorem dX11_worked_156 : decode cX11_worked 156 = .ok (.l2i, 1) := by decide +kernel
theorem dX11_worked_157 : decode cX11_worked 157 = .ok (.lushr, 1) := by decide +kernel
theorem dX11_worked_158 : decode cX11_worked 158 = .ok (.lload_n 1, 1) := by decide +kernel
theorem dX11_worked_159 : decode cX11_worked 159 = .ok (.iload 5, 2) := by decide +kernel
theorem dX11_worked_161 : decode cX11_worked 161 = .ok (.lload_n 3, 1) := by decide +kernel
theorem dX11_worked_162 : decode cX11_worked 162 = .ok (.l2i, 1) := by decide +kernel
theorem dX11_worked_163 : decode cX11_worked 163 = .ok (.isub, 1) := by decide +kernel
theorem dX11_worked_164 : decode cX11_worked 164 = .ok (.lshl, 1) := by decide +kernel
theorem dX11_worked_165 : decode cX11_worked 165 = .ok (.lor, 1) := by decide +kernel
theorem dX11_worked_166 : decode cX11_worked 166 = .ok (.iload 5, 2) := by decide +kernel
theorem dX11_worked_168 : decode cX11_worked 168 = .ok (.invokestatic 105, 3) := by decide +kernel
theorem dX11_worked_171 : decode cX11_worked 171 = .ok (.lreturn, 1) := by decide +kernel
theorem dX11_worked_172 : decode cX11_worked 172 = .ok (.lload_n 3, 1) := by decide +kernel
theorem dX11_worked_173 : decode cX11_worked 173 = .ok (.lload_n 1, 1) := by decide +kernel
theorem dX11_worked_174 : decode cX11_worked 174 = .ok (.invokestatic 108, 3) := by decide +kernel
theorem dX11_worked_177 : decode cX11_worked 177 = .ok (.ifCond .eq 7, 3) := by decide +kernel
theorem dX11_worked_180 : decode cX11_worked 180 = .ok (.lconst 0, 1) := by decide +kernel
theorem dX11_worked_181 : decode cX11_worked 181 = .ok (.goto 4, 3) := by decide +kernel
theorem dX11_worked_184 : decode cX11_worked 184 = .ok (.lconst 1, 1) := by decide +kernel
theorem dX11_worked_185 : decode cX11_worked 185 = .ok (.lreturn, 1) := by decide +kernel
theorem dX11_worked_186 : decode cX11_worked 186 = .ok (.lload_n 1, 1) := by decide +kernel
theorem dX11_worked_187 : decode cX11_worked 187 = .ok (.iload 5, 2) := by decide +kernel
theorem dX11_worked_189 : decode cX11_worked 189 = .ok (.invokestatic 128, 3) := by decide +kernel
theorem dX11_worked_192 : decode cX11_worked 192 = .ok (.ifCond .eq 7, 3) := by decide +kernel
theorem dX11_worked_195 : decode cX11_worked 195 = .ok (.lload_n 3, 1) := by decide +kernel
theorem dX11_worked_196 : decode cX11_worked 196 = .ok (.goto 4, 3) := by decide +kernel
theorem dX11_worked_199 : decode cX11_worked 199 = .ok (.lconst 0, 1) := by decide +kernel
theorem dX11_worked_200 : decode cX11_worked 200 = .ok (.lreturn, 1) := by decide +kernel
theorem dX11_work_0 : decode cX11_work 0 = .ok (.aload_n 0, 1) := by decide +kernel
theorem dX11_work_1 : decode cX11_work 1 = .ok (.getfield 7, 3) := by decide +kernel
theorem dX11_work_4 : decode cX11_work 4 = .ok (.iload_n 1, 1) := by decide +kernel
theorem dX11_work_5 : decode cX11_work 5 = .ok (.iaload, 1) := by decide +kernel
theorem dX11_work_6 : decode cX11_work 6 = .ok (.istore 5, 2) := by decide +kernel
theorem dX11_work_8 : decode cX11_work 8 = .ok (.aload_n 0, 1) := by decide +kernel
theorem dX11_work_9 : decode cX11_work 9 = .ok (.getfield 29, 3) := by decide +kernel
theorem dX11_work_12 : decode cX11_work 12 = .ok (.iconst 0, 1) := by decide +kernel
theorem dX11_work_13 : decode cX11_work 13 = .ok (.lload_n 2, 1) := by decide +kernel
theorem dX11_work_14 : decode cX11_work 14 = .ok (.iload 5, 2) := by decide +kernel
theorem dX11_work_16 : decode cX11_work 16 = .ok (.invokestatic 105, 3) := by decide +kernel
theorem dX11_work_19 : decode cX11_work 19 = .ok (.lastore, 1) := by decide +kernel
theorem dX11_work_20 : decode cX11_work 20 = .ok (.iconst 0, 1) := by decide +kernel
theorem dX11_work_21 : decode cX11_work 21 = .ok (.istore 6, 2) := by decide +kernel
theorem dX11_work_23 : decode cX11_work 23 = .ok (.iload 6, 2) := by decide +kernel
theorem dX11_work_25 : decode cX11_work 25 = .ok (.iload 4, 2) := by decide +kernel
theorem dX11_work_27 : decode cX11_work 27 = .ok (.if_icmp .ge 91, 3) := by decide +kernel
theorem dX11_work_30 : decode cX11_work 30 = .ok (.bipush 12, 2) := by decide +kernel
theorem dX11_work_32 : decode cX11_work 32 = .ok (.iload_n 1, 1) := by decide +kernel
theorem dX11_work_33 : decode cX11_work 33 = .ok (.imul, 1) := by decide +kernel
theorem dX11_work_34 : decode cX11_work 34 = .ok (.iload 6, 2) := by decide +kernel
theorem dX11_work_36 : decode cX11_work 36 = .ok (.iadd, 1) := by decide +kernel
theorem dX11_work_37 : decode cX11_work 37 = .ok (.istore 7, 2) := by decide +kernel
theorem dX11_work_39 : decode cX11_work 39 = .ok (.aload_n 0, 1) := by decide +kernel
theorem dX11_work_40 : decode cX11_work 40 = .ok (.getfield 16, 3) := by decide +kernel
theorem dX11_work_43 : decode cX11_work 43 = .ok (.iload 7, 2) := by decide +kernel
theorem dX11_work_45 : decode cX11_work 45 = .ok (.iaload, 1) := by decide +kernel
theorem dX11_work_46 : decode cX11_work 46 = .ok (.invokestatic 132, 3) := by decide +kernel
theorem dX11_work_49 : decode cX11_work 49 = .ok (.ifCond .eq 19, 3) := by decide +kernel
theorem dX11_work_52 : decode cX11_work 52 = .ok (.aload_n 0, 1) := by decide +kernel
theorem dX11_work_53 : decode cX11_work 53 = .ok (.getfield 29, 3) := by decide +kernel
theorem dX11_work_56 : decode cX11_work 56 = .ok (.aload_n 0, 1) := by decide +kernel
theorem dX11_work_57 : decode cX11_work 57 = .ok (.getfield 22, 3) := by decide +kernel
theorem dX11_work_60 : decode cX11_work 60 = .ok (.iload 7, 2) := by decide +kernel
theorem dX11_work_62 : decode cX11_work 62 = .ok (.laload, 1) := by decide +kernel
theorem dX11_work_63 : decode cX11_work 63 = .ok (.l2i, 1) := by decide +kernel
theorem dX11_work_64 : decode cX11_work 64 = .ok (.laload, 1) := by decide +kernel
theorem dX11_work_65 : decode cX11_work 65 = .ok (.goto 10, 3) := by decide +kernel
theorem dX11_work_68 : decode cX11_work 68 = .ok (.aload_n 0, 1) := by decide +kernel
theorem dX11_work_69 : decode cX11_work 69 = .ok (.getfield 22, 3) := by decide +kernel
theorem dX11_work_72 : decode cX11_work 72 = .ok (.iload 7, 2) := by decide +kernel
theorem dX11_work_74 : decode cX11_work 74 = .ok (.laload, 1) := by decide +kernel
theorem dX11_work_75 : decode cX11_work 75 = .ok (.lstore 8, 2) := by decide +kernel
theorem dX11_work_77 : decode cX11_work 77 = .ok (.aload_n 0, 1) := by decide +kernel
theorem dX11_work_78 : decode cX11_work 78 = .ok (.getfield 29, 3) := by decide +kernel
theorem dX11_work_81 : decode cX11_work 81 = .ok (.iload 6, 2) := by decide +kernel
theorem dX11_work_83 : decode cX11_work 83 = .ok (.iconst 1, 1) := by decide +kernel
theorem dX11_work_84 : decode cX11_work 84 = .ok (.iadd, 1) := by decide +kernel
theorem dX11_work_85 : decode cX11_work 85 = .ok (.aload_n 0, 1) := by decide +kernel
theorem dX11_work_86 : decode cX11_work 86 = .ok (.getfield 16, 3) := by decide +kernel
theorem dX11_work_89 : decode cX11_work 89 = .ok (.iload 7, 2) := by decide +kernel
theorem dX11_work_91 : decode cX11_work 91 = .ok (.iaload, 1) := by decide +kernel
theorem dX11_work_92 : decode cX11_work 92 = .ok (.aload_n 0, 1) := by decide +kernel
theorem dX11_work_93 : decode cX11_work 93 = .ok (.getfield 29, 3) := by decide +kernel
theorem dX11_work_96 : decode cX11_work 96 = .ok (.aload_n 0, 1) := by decide +kernel
theorem dX11_work_97 : decode cX11_work 97 = .ok (.getfield 19, 3) := by decide +kernel
theorem dX11_work_100 : decode cX11_work 100 = .ok (.iload 7, 2) := by decide +kernel
theorem dX11_work_102 : decode cX11_work 102 = .ok (.iaload, 1) := by decide +kernel
theorem dX11_work_103 : decode cX11_work 103 = .ok (.laload, 1) := by decide +kernel
theorem dX11_work_104 : decode cX11_work 104 = .ok (.lload 8, 2) := by decide +kernel
theorem dX11_work_106 : decode cX11_work 106 = .ok (.iload 5, 2) := by decide +kernel
theorem dX11_work_108 : decode cX11_work 108 = .ok (.invokestatic 136, 3) := by decide +kernel
theorem dX11_work_111 : decode cX11_work 111 = .ok (.lastore, 1) := by decide +kernel
theorem dX11_work_112 : decode cX11_work 112 = .ok (.iinc 6 1, 3) := by decide +kernel
theorem dX11_work_115 : decode cX11_work 115 = .ok (.goto (-92), 3) := by decide +kernel
theorem dX11_work_118 : decode cX11_work 118 = .ok (.return_, 1) := by decide +kernel
theorem dX11_add_0 : decode cX11_add 0 = .ok (.aload_n 0, 1) := by decide +kernel
theorem dX11_add_1 : decode cX11_add 1 = .ok (.getfield 7, 3) := by decide +kernel
theorem dX11_add_4 : decode cX11_add 4 = .ok (.aload_n 0, 1) := by decide +kernel
theorem dX11_add_5 : decode cX11_add 5 = .ok (.getfield 118, 3) := by decide +kernel
theorem dX11_add_8 : decode cX11_add 8 = .ok (.iload_n 1, 1) := by decide +kernel
theorem dX11_add_9 : decode cX11_add 9 = .ok (.iastore, 1) := by decide +kernel
theorem dX11_add_10 : decode cX11_add 10 = .ok (.aload_n 0, 1) := by decide +kernel
theorem dX11_add_11 : decode cX11_add 11 = .ok (.getfield 13, 3) := by decide +kernel
theorem dX11_add_14 : decode cX11_add 14 = .ok (.aload_n 0, 1) := by decide +kernel
theorem dX11_add_15 : decode cX11_add 15 = .ok (.getfield 118, 3) := by decide +kernel
theorem dX11_add_18 : decode cX11_add 18 = .ok (.iconst 0, 1) := by decide +kernel
theorem dX11_add_19 : decode cX11_add 19 = .ok (.iastore, 1) := by decide +kernel
theorem dX11_add_20 : decode cX11_add 20 = .ok (.aload_n 0, 1) := by decide +kernel
theorem dX11_add_21 : decode cX11_add 21 = .ok (.dup, 1) := by decide +kernel
theorem dX11_add_22 : decode cX11_add 22 = .ok (.getfield 118, 3) := by decide +kernel
theorem dX11_add_25 : decode cX11_add 25 = .ok (.iconst 1, 1) := by decide +kernel
theorem dX11_add_26 : decode cX11_add 26 = .ok (.iadd, 1) := by decide +kernel
theorem dX11_add_27 : decode cX11_add 27 = .ok (.putfield 118, 3) := by decide +kernel
theorem dX11_add_30 : decode cX11_add 30 = .ok (.aload_n 0, 1) := by decide +kernel
theorem dX11_add_31 : decode cX11_add 31 = .ok (.getfield 118, 3) := by decide +kernel
theorem dX11_add_34 : decode cX11_add 34 = .ok (.iconst 1, 1) := by decide +kernel
theorem dX11_add_35 : decode cX11_add 35 = .ok (.isub, 1) := by decide +kernel
theorem dX11_add_36 : decode cX11_add 36 = .ok (.ireturn, 1) := by decide +kernel
theorem dX11_put_0 : decode cX11_put 0 = .ok (.bipush 12, 2) := by decide +kernel
theorem dX11_put_2 : decode cX11_put 2 = .ok (.iload_n 1, 1) := by decide +kernel
theorem dX11_put_3 : decode cX11_put 3 = .ok (.imul, 1) := by decide +kernel
theorem dX11_put_4 : decode cX11_put 4 = .ok (.aload_n 0, 1) := by decide +kernel
theorem dX11_put_5 : decode cX11_put 5 = .ok (.getfield 13, 3) := by decide +kernel
theorem dX11_put_8 : decode cX11_put 8 = .ok (.iload_n 1, 1) := by decide +kernel
theorem dX11_put_9 : decode cX11_put 9 = .ok (.iaload, 1) := by decide +kernel
theorem dX11_put_10 : decode cX11_put 10 = .ok (.iadd, 1) := by decide +kernel
theorem dX11_put_11 : decode cX11_put 11 = .ok (.istore 6, 2) := by decide +kernel
theorem dX11_put_13 : decode cX11_put 13 = .ok (.aload_n 0, 1) := by decide +kernel
theorem dX11_put_14 : decode cX11_put 14 = .ok (.getfield 16, 3) := by decide +kernel
theorem dX11_put_17 : decode cX11_put 17 = .ok (.iload 6, 2) := by decide +kernel
theorem dX11_put_19 : decode cX11_put 19 = .ok (.iload_n 2, 1) := by decide +kernel
theorem dX11_put_20 : decode cX11_put 20 = .ok (.iastore, 1) := by decide +kernel
theorem dX11_put_21 : decode cX11_put 21 = .ok (.aload_n 0, 1) := by decide +kernel
theorem dX11_put_22 : decode cX11_put 22 = .ok (.getfield 19, 3) := by decide +kernel
theorem dX11_put_25 : decode cX11_put 25 = .ok (.iload 6, 2) := by decide +kernel
theorem dX11_put_27 : decode cX11_put 27 = .ok (.iload_n 3, 1) := by decide +kernel
theorem dX11_put_28 : decode cX11_put 28 = .ok (.iastore, 1) := by decide +kernel
theorem dX11_put_29 : decode cX11_put 29 = .ok (.aload_n 0, 1) := by decide +kernel
theorem dX11_put_30 : decode cX11_put 30 = .ok (.getfield 22, 3) := by decide +kernel
theorem dX11_put_33 : decode cX11_put 33 = .ok (.iload 6, 2) := by decide +kernel
theorem dX11_put_35 : decode cX11_put 35 = .ok (.iload_n 2, 1) := by decide +kernel
theorem dX11_put_36 : decode cX11_put 36 = .ok (.invokestatic 132, 3) := by decide +kernel
theorem dX11_put_39 : decode cX11_put 39 = .ok (.ifCond .ne 10, 3) := by decide +kernel
theorem dX11_put_42 : decode cX11_put 42 = .ok (.iload_n 2, 1) := by decide +kernel
theorem dX11_put_43 : decode cX11_put 43 = .ok (.invokestatic 140, 3) := by decide +kernel
theorem dX11_put_46 : decode cX11_put 46 = .ok (.ifCond .eq 8, 3) := by decide +kernel
theorem dX11_put_49 : decode cX11_put 49 = .ok (.lload 4, 2) := by decide +kernel
theorem dX11_put_51 : decode cX11_put 51 = .ok (.goto 14, 3) := by decide +kernel
theorem dX11_put_54 : decode cX11_put 54 = .ok (.lload 4, 2) := by decide +kernel
theorem dX11_put_56 : decode cX11_put 56 = .ok (.aload_n 0, 1) := by decide +kernel
theorem dX11_put_57 : decode cX11_put 57 = .ok (.getfield 7, 3) := by decide +kernel
theorem dX11_put_60 : decode cX11_put 60 = .ok (.iload_n 1, 1) := by decide +kernel
theorem dX11_put_61 : decode cX11_put 61 = .ok (.iaload, 1) := by decide +kernel
theorem dX11_put_62 : decode cX11_put 62 = .ok (.invokestatic 105, 3) := by decide +kernel
theorem dX11_put_65 : decode cX11_put 65 = .ok (.lastore, 1) := by decide +kernel
theorem dX11_put_66 : decode cX11_put 66 = .ok (.aload_n 0, 1) := by decide +kernel
theorem dX11_put_67 : decode cX11_put 67 = .ok (.getfield 13, 3) := by decide +kernel
theorem dX11_put_70 : decode cX11_put 70 = .ok (.iload_n 1, 1) := by decide +kernel
theorem dX11_put_71 : decode cX11_put 71 = .ok (.dup2, 1) := by decide +kernel
theorem dX11_put_72 : decode cX11_put 72 = .ok (.iaload, 1) := by decide +kernel
theorem dX11_put_73 : decode cX11_put 73 = .ok (.iconst 1, 1) := by decide +kernel
theorem dX11_put_74 : decode cX11_put 74 = .ok (.iadd, 1) := by decide +kernel
theorem dX11_put_75 : decode cX11_put 75 = .ok (.iastore, 1) := by decide +kernel
theorem dX11_put_76 : decode cX11_put 76 = .ok (.aload_n 0, 1) := by decide +kernel
theorem dX11_put_77 : decode cX11_put 77 = .ok (.getfield 13, 3) := by decide +kernel
theorem dX11_put_80 : decode cX11_put 80 = .ok (.iload_n 1, 1) := by decide +kernel
theorem dX11_put_81 : decode cX11_put 81 = .ok (.iaload, 1) := by decide +kernel
theorem dX11_put_82 : decode cX11_put 82 = .ok (.ireturn, 1) := by decide +kernel
theorem dX11_moveAct_0 : decode cX11_moveAct 0 = .ok (.aload_n 0, 1) := by decide +kernel
theorem dX11_moveAct_1 : decode cX11_moveAct 1 = .ok (.getfield 32, 3) := by decide +kernel
theorem dX11_moveAct_4 : decode cX11_moveAct 4 = .ok (.iload_n 2, 1) := by decide +kernel
theorem dX11_moveAct_5 : decode cX11_moveAct 5 = .ok (.aload_n 0, 1) := by decide +kernel
theorem dX11_moveAct_6 : decode cX11_moveAct 6 = .ok (.getfield 32, 3) := by decide +kernel
theorem dX11_moveAct_9 : decode cX11_moveAct 9 = .ok (.iload_n 1, 1) := by decide +kernel
theorem dX11_moveAct_10 : decode cX11_moveAct 10 = .ok (.iaload, 1) := by decide +kernel
theorem dX11_moveAct_11 : decode cX11_moveAct 11 = .ok (.iastore, 1) := by decide +kernel
theorem dX11_moveAct_12 : decode cX11_moveAct 12 = .ok (.aload_n 0, 1) := by decide +kernel
theorem dX11_moveAct_13 : decode cX11_moveAct 13 = .ok (.getfield 35, 3) := by decide +kernel
theorem dX11_moveAct_16 : decode cX11_moveAct 16 = .ok (.iload_n 2, 1) := by decide +kernel
theorem dX11_moveAct_17 : decode cX11_moveAct 17 = .ok (.aload_n 0, 1) := by decide +kernel
theorem dX11_moveAct_18 : decode cX11_moveAct 18 = .ok (.getfield 35, 3) := by decide +kernel
theorem dX11_moveAct_21 : decode cX11_moveAct 21 = .ok (.iload_n 1, 1) := by decide +kernel
theorem dX11_moveAct_22 : decode cX11_moveAct 22 = .ok (.iaload, 1) := by decide +kernel
theorem dX11_moveAct_23 : decode cX11_moveAct 23 = .ok (.iastore, 1) := by decide +kernel
theorem dX11_moveAct_24 : decode cX11_moveAct 24 = .ok (.aload_n 0, 1) := by decide +kernel
theorem dX11_moveAct_25 : decode cX11_moveAct 25 = .ok (.getfield 38, 3) := by decide +kernel
theorem dX11_moveAct_28 : decode cX11_moveAct 28 = .ok (.iload_n 2, 1) := by decide +kernel
theorem dX11_moveAct_29 : decode cX11_moveAct 29 = .ok (.aload_n 0, 1) := by decide +kernel
theorem dX11_moveAct_30 : decode cX11_moveAct 30 = .ok (.getfield 38, 3) := by decide +kernel
theorem dX11_moveAct_33 : decode cX11_moveAct 33 = .ok (.iload_n 1, 1) := by decide +kernel
theorem dX11_moveAct_34 : decode cX11_moveAct 34 = .ok (.iaload, 1) := by decide +kernel
theorem dX11_moveAct_35 : decode cX11_moveAct 35 = .ok (.iastore, 1) := by decide +kernel
theorem dX11_moveAct_36 : decode cX11_moveAct 36 = .ok (.aload_n 0, 1) := by decide +kernel
theorem dX11_moveAct_37 : decode cX11_moveAct 37 = .ok (.getfield 41, 3) := by decide +kernel
theorem dX11_moveAct_40 : decode cX11_moveAct 40 = .ok (.iload_n 2, 1) := by decide +kernel
theorem dX11_moveAct_41 : decode cX11_moveAct 41 = .ok (.aload_n 0, 1) := by decide +kernel
theorem dX11_moveAct_42 : decode cX11_moveAct 42 = .ok (.getfield 41, 3) := by decide +kernel
theorem dX11_moveAct_45 : decode cX11_moveAct 45 = .ok (.iload_n 1, 1) := by decide +kernel
theorem dX11_moveAct_46 : decode cX11_moveAct 46 = .ok (.laload, 1) := by decide +kernel
theorem dX11_moveAct_47 : decode cX11_moveAct 47 = .ok (.lastore, 1) := by decide +kernel
theorem dX11_moveAct_48 : decode cX11_moveAct 48 = .ok (.aload_n 0, 1) := by decide +kernel
theorem dX11_moveAct_49 : decode cX11_moveAct 49 = .ok (.bipush 8, 2) := by decide +kernel
theorem dX11_moveAct_51 : decode cX11_moveAct 51 = .ok (.iload_n 1, 1) := by decide +kernel
theorem dX11_moveAct_52 : decode cX11_moveAct 52 = .ok (.iadd, 1) := by decide +kernel
theorem dX11_moveAct_53 : decode cX11_moveAct 53 = .ok (.bipush 8, 2) := by decide +kernel
theorem dX11_moveAct_55 : decode cX11_moveAct 55 = .ok (.iload_n 2, 1) := by decide +kernel
theorem dX11_moveAct_56 : decode cX11_moveAct 56 = .ok (.iadd, 1) := by decide +kernel
theorem dX11_moveAct_57 : decode cX11_moveAct 57 = .ok (.invokevirtual 143, 3) := by decide +kernel
theorem dX11_moveAct_60 : decode cX11_moveAct 60 = .ok (.return_, 1) := by decide +kernel
theorem dX11_copyHeld_0 : decode cX11_copyHeld 0 = .ok (.aload_n 0, 1) := by decide +kernel
theorem dX11_copyHeld_1 : decode cX11_copyHeld 1 = .ok (.getfield 44, 3) := by decide +kernel
theorem dX11_copyHeld_4 : decode cX11_copyHeld 4 = .ok (.iload_n 2, 1) := by decide +kernel
theorem dX11_copyHeld_5 : decode cX11_copyHeld 5 = .ok (.aload_n 0, 1) := by decide +kernel
theorem dX11_copyHeld_6 : decode cX11_copyHeld 6 = .ok (.getfield 44, 3) := by decide +kernel
theorem dX11_copyHeld_9 : decode cX11_copyHeld 9 = .ok (.iload_n 1, 1) := by decide +kernel
theorem dX11_copyHeld_10 : decode cX11_copyHeld 10 = .ok (.iaload, 1) := by decide +kernel
theorem dX11_copyHeld_11 : decode cX11_copyHeld 11 = .ok (.iastore, 1) := by decide +kernel
theorem dX11_copyHeld_12 : decode cX11_copyHeld 12 = .ok (.aload_n 0, 1) := by decide +kernel
theorem dX11_copyHeld_13 : decode cX11_copyHeld 13 = .ok (.getfield 47, 3) := by decide +kernel
theorem dX11_copyHeld_16 : decode cX11_copyHeld 16 = .ok (.iload_n 2, 1) := by decide +kernel
theorem dX11_copyHeld_17 : decode cX11_copyHeld 17 = .ok (.aload_n 0, 1) := by decide +kernel
theorem dX11_copyHeld_18 : decode cX11_copyHeld 18 = .ok (.getfield 47, 3) := by decide +kernel
theorem dX11_copyHeld_21 : decode cX11_copyHeld 21 = .ok (.iload_n 1, 1) := by decide +kernel
theorem dX11_copyHeld_22 : decode cX11_copyHeld 22 = .ok (.iaload, 1) := by decide +kernel
theorem dX11_copyHeld_23 : decode cX11_copyHeld 23 = .ok (.iastore, 1) := by decide +kernel
theorem dX11_copyHeld_24 : decode cX11_copyHeld 24 = .ok (.iconst 0, 1) := by decide +kernel
theorem dX11_copyHeld_25 : decode cX11_copyHeld 25 = .ok (.istore_n 3, 1) := by decide +kernel
theorem dX11_copyHeld_26 : decode cX11_copyHeld 26 = .ok (.iload_n 3, 1) := by decide +kernel
theorem dX11_copyHeld_27 : decode cX11_copyHeld 27 = .ok (.aload_n 0, 1) := by decide +kernel
theorem dX11_copyHeld_28 : decode cX11_copyHeld 28 = .ok (.getfield 47, 3) := by decide +kernel
theorem dX11_copyHeld_31 : decode cX11_copyHeld 31 = .ok (.iload_n 1, 1) := by decide +kernel
theorem dX11_copyHeld_32 : decode cX11_copyHeld 32 = .ok (.iaload, 1) := by decide +kernel
theorem dX11_copyHeld_33 : decode cX11_copyHeld 33 = .ok (.if_icmp .ge 31, 3) := by decide +kernel
theorem dX11_copyHeld_36 : decode cX11_copyHeld 36 = .ok (.aload_n 0, 1) := by decide +kernel
theorem dX11_copyHeld_37 : decode cX11_copyHeld 37 = .ok (.getfield 50, 3) := by decide +kernel
theorem dX11_copyHeld_40 : decode cX11_copyHeld 40 = .ok (.bipush 100, 2) := by decide +kernel
theorem dX11_copyHeld_42 : decode cX11_copyHeld 42 = .ok (.iload_n 2, 1) := by decide +kernel
theorem dX11_copyHeld_43 : decode cX11_copyHeld 43 = .ok (.imul, 1) := by decide +kernel
theorem dX11_copyHeld_44 : decode cX11_copyHeld 44 = .ok (.iload_n 3, 1) := by decide +kernel
theorem dX11_copyHeld_45 : decode cX11_copyHeld 45 = .ok (.iadd, 1) := by decide +kernel
theorem dX11_copyHeld_46 : decode cX11_copyHeld 46 = .ok (.aload_n 0, 1) := by decide +kernel
theorem dX11_copyHeld_47 : decode cX11_copyHeld 47 = .ok (.getfield 50, 3) := by decide +kernel
theorem dX11_copyHeld_50 : decode cX11_copyHeld 50 = .ok (.bipush 100, 2) := by decide +kernel
theorem dX11_copyHeld_52 : decode cX11_copyHeld 52 = .ok (.iload_n 1, 1) := by decide +kernel
theorem dX11_copyHeld_53 : decode cX11_copyHeld 53 = .ok (.imul, 1) := by decide +kernel
theorem dX11_copyHeld_54 : decode cX11_copyHeld 54 = .ok (.iload_n 3, 1) := by decide +kernel
theorem dX11_copyHeld_55 : decode cX11_copyHeld 55 = .ok (.iadd, 1) := by decide +kernel
theorem dX11_copyHeld_56 : decode cX11_copyHeld 56 = .ok (.laload, 1) := by decide +kernel
theorem dX11_copyHeld_57 : decode cX11_copyHeld 57 = .ok (.lastore, 1) := by decide +kernel
theorem dX11_copyHeld_58 : decode cX11_copyHeld 58 = .ok (.iinc 3 1, 3) := by decide +kernel
theorem dX11_copyHeld_61 : decode cX11_copyHeld 61 = .ok (.goto (-35), 3) := by decide +kernel
theorem dX11_copyHeld_64 : decode cX11_copyHeld 64 = .ok (.return_, 1) := by decide +kernel
theorem dX11_note_0 : decode cX11_note 0 = .ok (.aload_n 0, 1) := by decide +kernel
theorem dX11_note_1 : decode cX11_note 1 = .ok (.getfield 147, 3) := by decide +kernel
theorem dX11_note_4 : decode cX11_note 4 = .ok (.bipush 50, 2) := by decide +kernel
theorem dX11_note_6 : decode cX11_note 6 = .ok (.if_icmp .ne 41, 3) := by decide +kernel
theorem dX11_note_9 : decode cX11_note 9 = .ok (.iconst 0, 1) := by decide +kernel
theorem dX11_note_10 : decode cX11_note 10 = .ok (.istore 6, 2) := by decide +kernel
theorem dX11_note_12 : decode cX11_note 12 = .ok (.iload 6, 2) := by decide +kernel
theorem dX11_note_14 : decode cX11_note 14 = .ok (.iconst 1, 1) := by decide +kernel
theorem dX11_note_15 : decode cX11_note 15 = .ok (.iadd, 1) := by decide +kernel
theorem dX11_note_16 : decode cX11_note 16 = .ok (.bipush 50, 2) := by decide +kernel
theorem dX11_note_18 : decode cX11_note 18 = .ok (.if_icmp .ge 19, 3) := by decide +kernel
theorem dX11_note_21 : decode cX11_note 21 = .ok (.aload_n 0, 1) := by decide +kernel
theorem dX11_note_22 : decode cX11_note 22 = .ok (.iload 6, 2) := by decide +kernel
theorem dX11_note_24 : decode cX11_note 24 = .ok (.iconst 1, 1) := by decide +kernel
theorem dX11_note_25 : decode cX11_note 25 = .ok (.iadd, 1) := by decide +kernel
theorem dX11_note_26 : decode cX11_note 26 = .ok (.iload 6, 2) := by decide +kernel
theorem dX11_note_28 : decode cX11_note 28 = .ok (.invokevirtual 150, 3) := by decide +kernel
theorem dX11_note_31 : decode cX11_note 31 = .ok (.iinc 6 1, 3) := by decide +kernel
theorem dX11_note_34 : decode cX11_note 34 = .ok (.goto (-22), 3) := by decide +kernel
theorem dX11_note_37 : decode cX11_note 37 = .ok (.aload_n 0, 1) := by decide +kernel
theorem dX11_note_38 : decode cX11_note 38 = .ok (.dup, 1) := by decide +kernel
theorem dX11_note_39 : decode cX11_note 39 = .ok (.getfield 147, 3) := by decide +kernel
theorem dX11_note_42 : decode cX11_note 42 = .ok (.iconst 1, 1) := by decide +kernel
theorem dX11_note_43 : decode cX11_note 43 = .ok (.isub, 1) := by decide +kernel
theorem dX11_note_44 : decode cX11_note 44 = .ok (.putfield 147, 3) := by decide +kernel
theorem dX11_note_47 : decode cX11_note 47 = .ok (.aload_n 0, 1) := by decide +kernel
theorem dX11_note_48 : decode cX11_note 48 = .ok (.getfield 32, 3) := by decide +kernel
theorem dX11_note_51 : decode cX11_note 51 = .ok (.aload_n 0, 1) := by decide +kernel
theorem dX11_note_52 : decode cX11_note 52 = .ok (.getfield 147, 3) := by decide +kernel
theorem dX11_note_55 : decode cX11_note 55 = .ok (.iload_n 1, 1) := by decide +kernel
theorem dX11_note_56 : decode cX11_note 56 = .ok (.iastore, 1) := by decide +kernel
theorem dX11_note_57 : decode cX11_note 57 = .ok (.aload_n 0, 1) := by decide +kernel
theorem dX11_note_58 : decode cX11_note 58 = .ok (.getfield 35, 3) := by decide +kernel
theorem dX11_note_61 : decode cX11_note 61 = .ok (.aload_n 0, 1) := by decide +kernel
theorem dX11_note_62 : decode cX11_note 62 = .ok (.getfield 147, 3) := by decide +kernel
theorem dX11_note_65 : decode cX11_note 65 = .ok (.iload_n 2, 1) := by decide +kernel
theorem dX11_note_66 : decode cX11_note 66 = .ok (.iastore, 1) := by decide +kernel
theorem dX11_note_67 : decode cX11_note 67 = .ok (.aload_n 0, 1) := by decide +kernel
theorem dX11_note_68 : decode cX11_note 68 = .ok (.getfield 38, 3) := by decide +kernel
theorem dX11_note_71 : decode cX11_note 71 = .ok (.aload_n 0, 1) := by decide +kernel
theorem dX11_note_72 : decode cX11_note 72 = .ok (.getfield 147, 3) := by decide +kernel
theorem dX11_note_75 : decode cX11_note 75 = .ok (.iload_n 3, 1) := by decide +kernel
theorem dX11_note_76 : decode cX11_note 76 = .ok (.iastore, 1) := by decide +kernel
theorem dX11_note_77 : decode cX11_note 77 = .ok (.aload_n 0, 1) := by decide +kernel
theorem dX11_note_78 : decode cX11_note 78 = .ok (.getfield 41, 3) := by decide +kernel
theorem dX11_note_81 : decode cX11_note 81 = .ok (.aload_n 0, 1) := by decide +kernel
theorem dX11_note_82 : decode cX11_note 82 = .ok (.getfield 147, 3) := by decide +kernel
theorem dX11_note_85 : decode cX11_note 85 = .ok (.lload 4, 2) := by decide +kernel
theorem dX11_note_87 : decode cX11_note 87 = .ok (.lastore, 1) := by decide +kernel
theorem dX11_note_88 : decode cX11_note 88 = .ok (.aload_n 0, 1) := by decide +kernel
theorem dX11_note_89 : decode cX11_note 89 = .ok (.getfield 47, 3) := by decide +kernel
theorem dX11_note_92 : decode cX11_note 92 = .ok (.bipush 8, 2) := by decide +kernel
theorem dX11_note_94 : decode cX11_note 94 = .ok (.aload_n 0, 1) := by decide +kernel
theorem dX11_note_95 : decode cX11_note 95 = .ok (.getfield 147, 3) := by decide +kernel
theorem dX11_note_98 : decode cX11_note 98 = .ok (.iadd, 1) := by decide +kernel
theorem dX11_note_99 : decode cX11_note 99 = .ok (.iconst 0, 1) := by decide +kernel
theorem dX11_note_100 : decode cX11_note 100 = .ok (.iastore, 1) := by decide +kernel
theorem dX11_note_101 : decode cX11_note 101 = .ok (.aload_n 0, 1) := by decide +kernel
theorem dX11_note_102 : decode cX11_note 102 = .ok (.dup, 1) := by decide +kernel
theorem dX11_note_103 : decode cX11_note 103 = .ok (.getfield 147, 3) := by decide +kernel
theorem dX11_note_106 : decode cX11_note 106 = .ok (.iconst 1, 1) := by decide +kernel
theorem dX11_note_107 : decode cX11_note 107 = .ok (.iadd, 1) := by decide +kernel
theorem dX11_note_108 : decode cX11_note 108 = .ok (.putfield 147, 3) := by decide +kernel
theorem dX11_note_111 : decode cX11_note 111 = .ok (.return_, 1) := by decide +kernel
theorem dX11_form_0 : decode cX11_form 0 = .ok (.iload_n 1, 1) := by decide +kernel
theorem dX11_form_1 : decode cX11_form 1 = .ok (.invokestatic 153, 3) := by decide +kernel
theorem dX11_form_4 : decode cX11_form 4 = .ok (.ifCond .ne 5, 3) := by decide +kernel
theorem dX11_form_7 : decode cX11_form 7 = .ok (.iconst (-1), 1) := by decide +kernel
theorem dX11_form_8 : decode cX11_form 8 = .ok (.ireturn, 1) := by decide +kernel
theorem dX11_form_9 : decode cX11_form 9 = .ok (.aload_n 0, 1) := by decide +kernel
theorem dX11_form_10 : decode cX11_form 10 = .ok (.getfield 118, 3) := by decide +kernel
theorem dX11_form_13 : decode cX11_form 13 = .ok (.bipush 60, 2) := by decide +kernel
theorem dX11_form_15 : decode cX11_form 15 = .ok (.if_icmp .ne 6, 3) := by decide +kernel
theorem dX11_form_18 : decode cX11_form 18 = .ok (.bipush (-2), 2) := by decide +kernel
theorem dX11_form_20 : decode cX11_form 20 = .ok (.ireturn, 1) := by decide +kernel
theorem dX11_form_21 : decode cX11_form 21 = .ok (.aload_n 0, 1) := by decide +kernel
theorem dX11_form_22 : decode cX11_form 22 = .ok (.iload_n 1, 1) := by decide +kernel
theorem dX11_form_23 : decode cX11_form 23 = .ok (.invokevirtual 156, 3) := by decide +kernel
theorem dX11_form_26 : decode cX11_form 26 = .ok (.istore_n 2, 1) := by decide +kernel
theorem dX11_form_27 : decode cX11_form 27 = .ok (.aload_n 0, 1) := by decide +kernel
theorem dX11_form_28 : decode cX11_form 28 = .ok (.iconst 1, 1) := by decide +kernel
theorem dX11_form_29 : decode cX11_form 29 = .ok (.iload_n 2, 1) := by decide +kernel
theorem dX11_form_30 : decode cX11_form 30 = .ok (.iconst 0, 1) := by decide +kernel
theorem dX11_form_31 : decode cX11_form 31 = .ok (.lconst 0, 1) := by decide +kernel
theorem dX11_form_32 : decode cX11_form 32 = .ok (.invokevirtual 160, 3) := by decide +kernel
theorem dX11_form_35 : decode cX11_form 35 = .ok (.iload_n 2, 1) := by decide +kernel
theorem dX11_form_36 : decode cX11_form 36 = .ok (.ireturn, 1) := by decide +kernel
theorem dX11_step_0 : decode cX11_step 0 = .ok (.aload_n 0, 1) := by decide +kernel
theorem dX11_step_1 : decode cX11_step 1 = .ok (.iload_n 1, 1) := by decide +kernel
theorem dX11_step_2 : decode cX11_step 2 = .ok (.invokevirtual 164, 3) := by decide +kernel
theorem dX11_step_5 : decode cX11_step 5 = .ok (.ifCond .eq 27, 3) := by decide +kernel
theorem dX11_step_8 : decode cX11_step 8 = .ok (.iload_n 2, 1) := by decide +kernel
theorem dX11_step_9 : decode cX11_step 9 = .ok (.ifCond .lt 23, 3) := by decide +kernel
theorem dX11_step_12 : decode cX11_step 12 = .ok (.iload_n 2, 1) := by decide +kernel
theorem dX11_step_13 : decode cX11_step 13 = .ok (.bipush 12, 2) := by decide +kernel
theorem dX11_step_15 : decode cX11_step 15 = .ok (.if_icmp .gt 17, 3) := by decide +kernel
theorem dX11_step_18 : decode cX11_step 18 = .ok (.iload_n 3, 1) := by decide +kernel
theorem dX11_step_19 : decode cX11_step 19 = .ok (.ifCond .lt 13, 3) := by decide +kernel
theorem dX11_step_22 : decode cX11_step 22 = .ok (.iload_n 3, 1) := by decide +kernel
theorem dX11_step_23 : decode cX11_step 23 = .ok (.aload_n 0, 1) := by decide +kernel
theorem dX11_step_24 : decode cX11_step 24 = .ok (.getfield 13, 3) := by decide +kernel
theorem dX11_step_27 : decode cX11_step 27 = .ok (.iload_n 1, 1) := by decide +kernel
theorem dX11_step_28 : decode cX11_step 28 = .ok (.iaload, 1) := by decide +kernel
theorem dX11_step_29 : decode cX11_step 29 = .ok (.if_icmp .le 5, 3) := by decide +kernel
theorem dX11_step_32 : decode cX11_step 32 = .ok (.iconst (-1), 1) := by decide +kernel
theorem dX11_step_33 : decode cX11_step 33 = .ok (.ireturn, 1) := by decide +kernel
theorem dX11_step_34 : decode cX11_step 34 = .ok (.iload_n 2, 1) := by decide +kernel
theorem dX11_step_35 : decode cX11_step 35 = .ok (.invokestatic 132, 3) := by decide +kernel
theorem dX11_step_38 : decode cX11_step 38 = .ok (.ifCond .eq 23, 3) := by decide +kernel
theorem dX11_step_41 : decode cX11_step 41 = .ok (.lload 4, 2) := by decide +kernel
theorem dX11_step_43 : decode cX11_step 43 = .ok (.lconst 0, 1) := by decide +kernel
theorem dX11_step_44 : decode cX11_step 44 = .ok (.lcmp, 1) := by decide +kernel
theorem dX11_step_45 : decode cX11_step 45 = .ok (.ifCond .lt 43, 3) := by decide +kernel
theorem dX11_step_48 : decode cX11_step 48 = .ok (.lload 4, 2) := by decide +kernel
theorem dX11_step_50 : decode cX11_step 50 = .ok (.aload_n 0, 1) := by decide +kernel
theorem dX11_step_51 : decode cX11_step 51 = .ok (.getfield 13, 3) := by decide +kernel
theorem dX11_step_54 : decode cX11_step 54 = .ok (.iload_n 1, 1) := by decide +kernel
theorem dX11_step_55 : decode cX11_step 55 = .ok (.iaload, 1) := by decide +kernel
theorem dX11_step_56 : decode cX11_step 56 = .ok (.i2l, 1) := by decide +kernel
theorem dX11_step_57 : decode cX11_step 57 = .ok (.lcmp, 1) := by decide +kernel
theorem dX11_step_58 : decode cX11_step 58 = .ok (.ifCond .gt 30, 3) := by decide +kernel
theorem dX11_step_61 : decode cX11_step 61 = .ok (.iload_n 2, 1) := by decide +kernel
theorem dX11_step_62 : decode cX11_step 62 = .ok (.invokestatic 140, 3) := by decide +kernel
theorem dX11_step_65 : decode cX11_step 65 = .ok (.ifCond .eq 25, 3) := by decide +kernel
theorem dX11_step_68 : decode cX11_step 68 = .ok (.lload 4, 2) := by decide +kernel
theorem dX11_step_70 : decode cX11_step 70 = .ok (.lconst 0, 1) := by decide +kernel
theorem dX11_step_71 : decode cX11_step 71 = .ok (.lcmp, 1) := by decide +kernel
theorem dX11_step_72 : decode cX11_step 72 = .ok (.ifCond .lt 16, 3) := by decide +kernel
theorem dX11_step_75 : decode cX11_step 75 = .ok (.lload 4, 2) := by decide +kernel
theorem dX11_step_77 : decode cX11_step 77 = .ok (.aload_n 0, 1) := by decide +kernel
theorem dX11_step_78 : decode cX11_step 78 = .ok (.getfield 7, 3) := by decide +kernel
theorem dX11_step_81 : decode cX11_step 81 = .ok (.iload_n 1, 1) := by decide +kernel
theorem dX11_step_82 : decode cX11_step 82 = .ok (.iaload, 1) := by decide +kernel
theorem dX11_step_83 : decode cX11_step 83 = .ok (.i2l, 1) := by decide +kernel
theorem dX11_step_84 : decode cX11_step 84 = .ok (.lcmp, 1) := by decide +kernel
theorem dX11_step_85 : decode cX11_step 85 = .ok (.ifCond .lt 5, 3) := by decide +kernel
theorem dX11_step_88 : decode cX11_step 88 = .ok (.iconst (-1), 1) := by decide +kernel
theorem dX11_step_89 : decode cX11_step 89 = .ok (.ireturn, 1) := by decide +kernel
theorem dX11_step_90 : decode cX11_step 90 = .ok (.aload_n 0, 1) := by decide +kernel
theorem dX11_step_91 : decode cX11_step 91 = .ok (.getfield 13, 3) := by decide +kernel
theorem dX11_step_94 : decode cX11_step 94 = .ok (.iload_n 1, 1) := by decide +kernel
theorem dX11_step_95 : decode cX11_step 95 = .ok (.iaload, 1) := by decide +kernel
theorem dX11_step_96 : decode cX11_step 96 = .ok (.bipush 12, 2) := by decide +kernel
theorem dX11_step_98 : decode cX11_step 98 = .ok (.if_icmp .ne 6, 3) := by decide +kernel
theorem dX11_step_101 : decode cX11_step 101 = .ok (.bipush (-2), 2) := by decide +kernel
theorem dX11_step_103 : decode cX11_step 103 = .ok (.ireturn, 1) := by decide +kernel
theorem dX11_step_104 : decode cX11_step 104 = .ok (.aload_n 0, 1) := by decide +kernel
theorem dX11_step_105 : decode cX11_step 105 = .ok (.iload_n 1, 1) := by decide +kernel
theorem dX11_step_106 : decode cX11_step 106 = .ok (.iload_n 2, 1) := by decide +kernel
theorem dX11_step_107 : decode cX11_step 107 = .ok (.iload_n 3, 1) := by decide +kernel
theorem dX11_step_108 : decode cX11_step 108 = .ok (.lload 4, 2) := by decide +kernel
theorem dX11_step_110 : decode cX11_step 110 = .ok (.invokevirtual 167, 3) := by decide +kernel
theorem dX11_step_113 : decode cX11_step 113 = .ok (.istore 6, 2) := by decide +kernel
theorem dX11_step_115 : decode cX11_step 115 = .ok (.aload_n 0, 1) := by decide +kernel
theorem dX11_step_116 : decode cX11_step 116 = .ok (.iconst 2, 1) := by decide +kernel
theorem dX11_step_117 : decode cX11_step 117 = .ok (.iload_n 1, 1) := by decide +kernel
theorem dX11_step_118 : decode cX11_step 118 = .ok (.iconst 0, 1) := by decide +kernel
theorem dX11_step_119 : decode cX11_step 119 = .ok (.lconst 0, 1) := by decide +kernel
theorem dX11_step_120 : decode cX11_step 120 = .ok (.invokevirtual 160, 3) := by decide +kernel
theorem dX11_step_123 : decode cX11_step 123 = .ok (.iload 6, 2) := by decide +kernel
theorem dX11_step_125 : decode cX11_step 125 = .ok (.iconst 1, 1) := by decide +kernel
theorem dX11_step_126 : decode cX11_step 126 = .ok (.isub, 1) := by decide +kernel
theorem dX11_step_127 : decode cX11_step 127 = .ok (.ireturn, 1) := by decide +kernel
theorem dX11_drop_0 : decode cX11_drop 0 = .ok (.aload_n 0, 1) := by decide +kernel
theorem dX11_drop_1 : decode cX11_drop 1 = .ok (.getfield 118, 3) := by decide +kernel
theorem dX11_drop_4 : decode cX11_drop 4 = .ok (.ifCond .ne 5, 3) := by decide +kernel
theorem dX11_drop_7 : decode cX11_drop 7 = .ok (.iconst (-1), 1) := by decide +kernel
theorem dX11_drop_8 : decode cX11_drop 8 = .ok (.ireturn, 1) := by decide +kernel
theorem dX11_drop_9 : decode cX11_drop 9 = .ok (.aload_n 0, 1) := by decide +kernel
theorem dX11_drop_10 : decode cX11_drop 10 = .ok (.dup, 1) := by decide +kernel
theorem dX11_drop_11 : decode cX11_drop 11 = .ok (.getfield 118, 3) := by decide +kernel
theorem dX11_drop_14 : decode cX11_drop 14 = .ok (.iconst 1, 1) := by decide +kernel
theorem dX11_drop_15 : decode cX11_drop 15 = .ok (.isub, 1) := by decide +kernel
theorem dX11_drop_16 : decode cX11_drop 16 = .ok (.putfield 118, 3) := by decide +kernel
theorem dX11_drop_19 : decode cX11_drop 19 = .ok (.iconst 0, 1) := by decide +kernel
theorem dX11_drop_20 : decode cX11_drop 20 = .ok (.istore_n 1, 1) := by decide +kernel
theorem dX11_drop_21 : decode cX11_drop 21 = .ok (.iconst 0, 1) := by decide +kernel
theorem dX11_drop_22 : decode cX11_drop 22 = .ok (.istore_n 2, 1) := by decide +kernel
theorem dX11_drop_23 : decode cX11_drop 23 = .ok (.iload_n 2, 1) := by decide +kernel
theorem dX11_drop_24 : decode cX11_drop 24 = .ok (.aload_n 0, 1) := by decide +kernel
theorem dX11_drop_25 : decode cX11_drop 25 = .ok (.getfield 147, 3) := by decide +kernel
theorem dX11_drop_28 : decode cX11_drop 28 = .ok (.if_icmp .ge 44, 3) := by decide +kernel
theorem dX11_drop_31 : decode cX11_drop 31 = .ok (.aload_n 0, 1) := by decide +kernel
theorem dX11_drop_32 : decode cX11_drop 32 = .ok (.getfield 32, 3) := by decide +kernel
theorem dX11_drop_35 : decode cX11_drop 35 = .ok (.iload_n 2, 1) := by decide +kernel
theorem dX11_drop_36 : decode cX11_drop 36 = .ok (.iaload, 1) := by decide +kernel
theorem dX11_drop_37 : decode cX11_drop 37 = .ok (.iconst 3, 1) := by decide +kernel
theorem dX11_drop_38 : decode cX11_drop 38 = .ok (.if_icmp .ge 19, 3) := by decide +kernel
theorem dX11_drop_41 : decode cX11_drop 41 = .ok (.aload_n 0, 1) := by decide +kernel
theorem dX11_drop_42 : decode cX11_drop 42 = .ok (.getfield 35, 3) := by decide +kernel
theorem dX11_drop_45 : decode cX11_drop 45 = .ok (.iload_n 2, 1) := by decide +kernel
theorem dX11_drop_46 : decode cX11_drop 46 = .ok (.iaload, 1) := by decide +kernel
theorem dX11_drop_47 : decode cX11_drop 47 = .ok (.aload_n 0, 1) := by decide +kernel
theorem dX11_drop_48 : decode cX11_drop 48 = .ok (.getfield 118, 3) := by decide +kernel
theorem dX11_drop_51 : decode cX11_drop 51 = .ok (.if_icmp .ne 6, 3) := by decide +kernel
theorem dX11_drop_54 : decode cX11_drop 54 = .ok (.goto 12, 3) := by decide +kernel
theorem dX11_drop_57 : decode cX11_drop 57 = .ok (.aload_n 0, 1) := by decide +kernel
theorem dX11_drop_58 : decode cX11_drop 58 = .ok (.iload_n 2, 1) := by decide +kernel
theorem dX11_drop_59 : decode cX11_drop 59 = .ok (.iload_n 1, 1) := by decide +kernel
theorem dX11_drop_60 : decode cX11_drop 60 = .ok (.invokevirtual 150, 3) := by decide +kernel
theorem dX11_drop_63 : decode cX11_drop 63 = .ok (.iinc 1 1, 3) := by decide +kernel
theorem dX11_drop_66 : decode cX11_drop 66 = .ok (.iinc 2 1, 3) := by decide +kernel
theorem dX11_drop_69 : decode cX11_drop 69 = .ok (.goto (-46), 3) := by decide +kernel
theorem dX11_drop_72 : decode cX11_drop 72 = .ok (.aload_n 0, 1) := by decide +kernel
theorem dX11_drop_73 : decode cX11_drop 73 = .ok (.iload_n 1, 1) := by decide +kernel
theorem dX11_drop_74 : decode cX11_drop 74 = .ok (.putfield 147, 3) := by decide +kernel
theorem dX11_drop_77 : decode cX11_drop 77 = .ok (.aload_n 0, 1) := by decide +kernel
theorem dX11_drop_78 : decode cX11_drop 78 = .ok (.getfield 118, 3) := by decide +kernel
theorem dX11_drop_81 : decode cX11_drop 81 = .ok (.ireturn, 1) := by decide +kernel
theorem dX11_isAsking_0 : decode cX11_isAsking 0 = .ok (.iload_n 1, 1) := by decide +kernel
theorem dX11_isAsking_1 : decode cX11_isAsking 1 = .ok (.invokestatic 153, 3) := by decide +kernel
theorem dX11_isAsking_4 : decode cX11_isAsking 4 = .ok (.ifCond .eq 32, 3) := by decide +kernel
theorem dX11_isAsking_7 : decode cX11_isAsking 7 = .ok (.iload_n 2, 1) := by decide +kernel
theorem dX11_isAsking_8 : decode cX11_isAsking 8 = .ok (.ifCond .lt 28, 3) := by decide +kernel
theorem dX11_isAsking_11 : decode cX11_isAsking 11 = .ok (.iload_n 2, 1) := by decide +kernel
theorem dX11_isAsking_12 : decode cX11_isAsking 12 = .ok (.iconst 1, 1) := by decide +kernel
theorem dX11_isAsking_13 : decode cX11_isAsking 13 = .ok (.if_icmp .gt 23, 3) := by decide +kernel
theorem dX11_isAsking_16 : decode cX11_isAsking 16 = .ok (.iload_n 3, 1) := by decide +kernel
theorem dX11_isAsking_17 : decode cX11_isAsking 17 = .ok (.ifCond .lt 19, 3) := by decide +kernel
theorem dX11_isAsking_20 : decode cX11_isAsking 20 = .ok (.iload_n 3, 1) := by decide +kernel
theorem dX11_isAsking_21 : decode cX11_isAsking 21 = .ok (.iconst 5, 1) := by decide +kernel
theorem dX11_isAsking_22 : decode cX11_isAsking 22 = .ok (.if_icmp .gt 14, 3) := by decide +kernel
theorem dX11_isAsking_25 : decode cX11_isAsking 25 = .ok (.lload 4, 2) := by decide +kernel
theorem dX11_isAsking_27 : decode cX11_isAsking 27 = .ok (.iload_n 1, 1) := by decide +kernel
theorem dX11_isAsking_28 : decode cX11_isAsking 28 = .ok (.invokestatic 105, 3) := by decide +kernel
theorem dX11_isAsking_31 : decode cX11_isAsking 31 = .ok (.lconst 0, 1) := by decide +kernel
theorem dX11_isAsking_32 : decode cX11_isAsking 32 = .ok (.lcmp, 1) := by decide +kernel
theorem dX11_isAsking_33 : decode cX11_isAsking 33 = .ok (.ifCond .ne 5, 3) := by decide +kernel
theorem dX11_isAsking_36 : decode cX11_isAsking 36 = .ok (.iconst 0, 1) := by decide +kernel
theorem dX11_isAsking_37 : decode cX11_isAsking 37 = .ok (.ireturn, 1) := by decide +kernel
theorem dX11_isAsking_38 : decode cX11_isAsking 38 = .ok (.iload_n 2, 1) := by decide +kernel
theorem dX11_isAsking_39 : decode cX11_isAsking 39 = .ok (.ifCond .eq 26, 3) := by decide +kernel
theorem dX11_isAsking_42 : decode cX11_isAsking 42 = .ok (.iload_n 3, 1) := by decide +kernel
theorem dX11_isAsking_43 : decode cX11_isAsking 43 = .ok (.iconst 1, 1) := by decide +kernel
theorem dX11_isAsking_44 : decode cX11_isAsking 44 = .ok (.if_icmp .eq 8, 3) := by decide +kernel
theorem dX11_isAsking_47 : decode cX11_isAsking 47 = .ok (.iload_n 3, 1) := by decide +kernel
theorem dX11_isAsking_48 : decode cX11_isAsking 48 = .ok (.iconst 3, 1) := by decide +kernel
theorem dX11_isAsking_49 : decode cX11_isAsking 49 = .ok (.if_icmp .ne 16, 3) := by decide +kernel
theorem dX11_isAsking_52 : decode cX11_isAsking 52 = .ok (.lload 4, 2) := by decide +kernel
theorem dX11_isAsking_54 : decode cX11_isAsking 54 = .ok (.iload_n 1, 1) := by decide +kernel
theorem dX11_isAsking_55 : decode cX11_isAsking 55 = .ok (.invokestatic 105, 3) := by decide +kernel
theorem dX11_isAsking_58 : decode cX11_isAsking 58 = .ok (.iload_n 1, 1) := by decide +kernel
theorem dX11_isAsking_59 : decode cX11_isAsking 59 = .ok (.invokestatic 128, 3) := by decide +kernel
theorem dX11_isAsking_62 : decode cX11_isAsking 62 = .ok (.ifCond .ne 7, 3) := by decide +kernel
theorem dX11_isAsking_65 : decode cX11_isAsking 65 = .ok (.iconst 1, 1) := by decide +kernel
theorem dX11_isAsking_66 : decode cX11_isAsking 66 = .ok (.goto 4, 3) := by decide +kernel
theorem dX11_isAsking_69 : decode cX11_isAsking 69 = .ok (.iconst 0, 1) := by decide +kernel
theorem dX11_isAsking_70 : decode cX11_isAsking 70 = .ok (.ireturn, 1) := by decide +kernel
theorem dX11_take_0 : decode cX11_take 0 = .ok (.lload_n 3, 1) := by decide +kernel
theorem dX11_take_1 : decode cX11_take 1 = .ok (.iload_n 1, 1) := by decide +kernel
theorem dX11_take_2 : decode cX11_take 2 = .ok (.invokestatic 105, 3) := by decide +kernel
theorem dX11_take_5 : decode cX11_take 5 = .ok (.lstore 5, 2) := by decide +kernel
theorem dX11_take_7 : decode cX11_take 7 = .ok (.aload_n 0, 1) := by decide +kernel
theorem dX11_take_8 : decode cX11_take 8 = .ok (.iload_n 2, 1) := by decide +kernel
theorem dX11_take_9 : decode cX11_take 9 = .ok (.iconst 1, 1) := by decide +kernel
theorem dX11_take_10 : decode cX11_take 10 = .ok (.if_icmp .ne 22, 3) := by decide +kernel
theorem dX11_take_13 : decode cX11_take 13 = .ok (.lload 5, 2) := by decide +kernel
theorem dX11_take_15 : decode cX11_take 15 = .ok (.iload_n 1, 1) := by decide +kernel
theorem dX11_take_16 : decode cX11_take 16 = .ok (.invokestatic 128, 3) := by decide +kernel
theorem dX11_take_19 : decode cX11_take 19 = .ok (.ifCond .eq 13, 3) := by decide +kernel
theorem dX11_take_22 : decode cX11_take 22 = .ok (.lload 5, 2) := by decide +kernel
theorem dX11_take_24 : decode cX11_take 24 = .ok (.lneg, 1) := by decide +kernel
theorem dX11_take_25 : decode cX11_take 25 = .ok (.iload_n 1, 1) := by decide +kernel
theorem dX11_take_26 : decode cX11_take 26 = .ok (.invokestatic 105, 3) := by decide +kernel
theorem dX11_take_29 : decode cX11_take 29 = .ok (.goto 5, 3) := by decide +kernel
theorem dX11_take_32 : decode cX11_take 32 = .ok (.lload 5, 2) := by decide +kernel
theorem dX11_take_34 : decode cX11_take 34 = .ok (.putfield 171, 3) := by decide +kernel
theorem dX11_take_37 : decode cX11_take 37 = .ok (.aload_n 0, 1) := by decide +kernel
theorem dX11_take_38 : decode cX11_take 38 = .ok (.iconst 0, 1) := by decide +kernel
theorem dX11_take_39 : decode cX11_take 39 = .ok (.putfield 174, 3) := by decide +kernel
theorem dX11_take_42 : decode cX11_take 42 = .ok (.aload_n 0, 1) := by decide +kernel
theorem dX11_take_43 : decode cX11_take 43 = .ok (.getfield 171, 3) := by decide +kernel
theorem dX11_take_46 : decode cX11_take 46 = .ok (.aload_n 0, 1) := by decide +kernel
theorem dX11_take_47 : decode cX11_take 47 = .ok (.getfield 174, 3) := by decide +kernel
theorem dX11_take_50 : decode cX11_take 50 = .ok (.lushr, 1) := by decide +kernel
theorem dX11_take_51 : decode cX11_take 51 = .ok (.lconst 1, 1) := by decide +kernel
theorem dX11_take_52 : decode cX11_take 52 = .ok (.land, 1) := by decide +kernel
theorem dX11_take_53 : decode cX11_take 53 = .ok (.lconst 0, 1) := by decide +kernel
theorem dX11_take_54 : decode cX11_take 54 = .ok (.lcmp, 1) := by decide +kernel
theorem dX11_take_55 : decode cX11_take 55 = .ok (.ifCond .ne 16, 3) := by decide +kernel
theorem dX11_take_58 : decode cX11_take 58 = .ok (.aload_n 0, 1) := by decide +kernel
theorem dX11_take_59 : decode cX11_take 59 = .ok (.dup, 1) := by decide +kernel
theorem dX11_take_60 : decode cX11_take 60 = .ok (.getfield 174, 3) := by decide +kernel
theorem dX11_take_63 : decode cX11_take 63 = .ok (.iconst 1, 1) := by decide +kernel
theorem dX11_take_64 : decode cX11_take 64 = .ok (.iadd, 1) := by decide +kernel
theorem dX11_take_65 : decode cX11_take 65 = .ok (.putfield 174, 3) := by decide +kernel
theorem dX11_take_68 : decode cX11_take 68 = .ok (.goto (-26), 3) := by decide +kernel
theorem dX11_take_71 : decode cX11_take 71 = .ok (.aload_n 0, 1) := by decide +kernel
theorem dX11_take_72 : decode cX11_take 72 = .ok (.aload_n 0, 1) := by decide +kernel
theorem dX11_take_73 : decode cX11_take 73 = .ok (.getfield 171, 3) := by decide +kernel
theorem dX11_take_76 : decode cX11_take 76 = .ok (.aload_n 0, 1) := by decide +kernel
theorem dX11_take_77 : decode cX11_take 77 = .ok (.getfield 174, 3) := by decide +kernel
theorem dX11_take_80 : decode cX11_take 80 = .ok (.lushr, 1) := by decide +kernel
theorem dX11_take_81 : decode cX11_take 81 = .ok (.putfield 177, 3) := by decide +kernel
theorem dX11_take_84 : decode cX11_take 84 = .ok (.return_, 1) := by decide +kernel
theorem dX11_find_0 : decode cX11_find 0 = .ok (.iload_n 1, 1) := by decide +kernel
theorem dX11_find_1 : decode cX11_find 1 = .ok (.bipush 64, 2) := by decide +kernel
theorem dX11_find_3 : decode cX11_find 3 = .ok (.if_icmp .ne 22, 3) := by decide +kernel
theorem dX11_find_6 : decode cX11_find 6 = .ok (.aload_n 0, 1) := by decide +kernel
theorem dX11_find_7 : decode cX11_find 7 = .ok (.aload_n 0, 1) := by decide +kernel
theorem dX11_find_8 : decode cX11_find 8 = .ok (.getfield 171, 3) := by decide +kernel
theorem dX11_find_11 : decode cX11_find 11 = .ok (.lneg, 1) := by decide +kernel
theorem dX11_find_12 : decode cX11_find 12 = .ok (.aload_n 0, 1) := by decide +kernel
theorem dX11_find_13 : decode cX11_find 13 = .ok (.getfield 171, 3) := by decide +kernel
theorem dX11_find_16 : decode cX11_find 16 = .ok (.invokevirtual 180, 3) := by decide +kernel
theorem dX11_find_19 : decode cX11_find 19 = .ok (.lconst 1, 1) := by decide +kernel
theorem dX11_find_20 : decode cX11_find 20 = .ok (.ladd, 1) := by decide +kernel
theorem dX11_find_21 : decode cX11_find 21 = .ok (.lstore_n 3, 1) := by decide +kernel
theorem dX11_find_22 : decode cX11_find 22 = .ok (.goto 15, 3) := by decide +kernel
theorem dX11_find_25 : decode cX11_find 25 = .ok (.aload_n 0, 1) := by decide +kernel
theorem dX11_find_26 : decode cX11_find 26 = .ok (.lconst 1, 1) := by decide +kernel
theorem dX11_find_27 : decode cX11_find 27 = .ok (.iload_n 1, 1) := by decide +kernel
theorem dX11_find_28 : decode cX11_find 28 = .ok (.lshl, 1) := by decide +kernel
theorem dX11_find_29 : decode cX11_find 29 = .ok (.aload_n 0, 1) := by decide +kernel
theorem dX11_find_30 : decode cX11_find 30 = .ok (.getfield 171, 3) := by decide +kernel
theorem dX11_find_33 : decode cX11_find 33 = .ok (.invokevirtual 180, 3) := by decide +kernel
theorem dX11_find_36 : decode cX11_find 36 = .ok (.lstore_n 3, 1) := by decide +kernel
theorem dX11_find_37 : decode cX11_find 37 = .ok (.aload_n 0, 1) := by decide +kernel
theorem dX11_find_38 : decode cX11_find 38 = .ok (.getfield 112, 3) := by decide +kernel
theorem dX11_find_41 : decode cX11_find 41 = .ok (.lstore 5, 2) := by decide +kernel
theorem dX11_find_43 : decode cX11_find 43 = .ok (.iconst 0, 1) := by decide +kernel
theorem dX11_find_44 : decode cX11_find 44 = .ok (.istore 7, 2) := by decide +kernel
theorem dX11_find_46 : decode cX11_find 46 = .ok (.aload_n 0, 1) := by decide +kernel
theorem dX11_find_47 : decode cX11_find 47 = .ok (.iconst 0, 1) := by decide +kernel
theorem dX11_find_48 : decode cX11_find 48 = .ok (.putfield 183, 3) := by decide +kernel
theorem dX11_find_51 : decode cX11_find 51 = .ok (.aload_n 0, 1) := by decide +kernel
theorem dX11_find_52 : decode cX11_find 52 = .ok (.aload_n 0, 1) := by decide +kernel
theorem dX11_find_53 : decode cX11_find 53 = .ok (.getfield 171, 3) := by decide +kernel
theorem dX11_find_56 : decode cX11_find 56 = .ok (.lload 5, 2) := by decide +kernel
theorem dX11_find_58 : decode cX11_find 58 = .ok (.lsub, 1) := by decide +kernel
theorem dX11_find_59 : decode cX11_find 59 = .ok (.putfield 186, 3) := by decide +kernel
theorem dX11_find_62 : decode cX11_find 62 = .ok (.aload_n 0, 1) := by decide +kernel
theorem dX11_find_63 : decode cX11_find 63 = .ok (.getfield 183, 3) := by decide +kernel
theorem dX11_find_66 : decode cX11_find 66 = .ok (.iload_n 2, 1) := by decide +kernel
theorem dX11_find_67 : decode cX11_find 67 = .ok (.iadd, 1) := by decide +kernel
theorem dX11_find_68 : decode cX11_find 68 = .ok (.istore 8, 2) := by decide +kernel
theorem dX11_find_70 : decode cX11_find 70 = .ok (.iload 8, 2) := by decide +kernel
theorem dX11_find_72 : decode cX11_find 72 = .ok (.bipush 63, 2) := by decide +kernel
theorem dX11_find_74 : decode cX11_find 74 = .ok (.if_icmp .gt 115, 3) := by decide +kernel
theorem dX11_find_77 : decode cX11_find 77 = .ok (.lconst 1, 1) := by decide +kernel
theorem dX11_find_78 : decode cX11_find 78 = .ok (.iload 8, 2) := by decide +kernel
theorem dX11_find_80 : decode cX11_find 80 = .ok (.lshl, 1) := by decide +kernel
theorem dX11_find_81 : decode cX11_find 81 = .ok (.aload_n 0, 1) := by decide +kernel
theorem dX11_find_82 : decode cX11_find 82 = .ok (.getfield 186, 3) := by decide +kernel
theorem dX11_find_85 : decode cX11_find 85 = .ok (.invokestatic 108, 3) := by decide +kernel
theorem dX11_find_88 : decode cX11_find 88 = .ok (.ifCond .ne 6, 3) := by decide +kernel
theorem dX11_find_91 : decode cX11_find 91 = .ok (.goto 98, 3) := by decide +kernel
theorem dX11_find_94 : decode cX11_find 94 = .ok (.lload 5, 2) := by decide +kernel
theorem dX11_find_96 : decode cX11_find 96 = .ok (.aload_n 0, 1) := by decide +kernel
theorem dX11_find_97 : decode cX11_find 97 = .ok (.getfield 171, 3) := by decide +kernel
theorem dX11_find_100 : decode cX11_find 100 = .ok (.lload 5, 2) := by decide +kernel
theorem dX11_find_102 : decode cX11_find 102 = .ok (.lsub, 1) := by decide +kernel
theorem dX11_find_103 : decode cX11_find 103 = .ok (.invokestatic 108, 3) := by decide +kernel
theorem dX11_find_106 : decode cX11_find 106 = .ok (.ifCond .ne 7, 3) := by decide +kernel
theorem dX11_find_109 : decode cX11_find 109 = .ok (.iconst 1, 1) := by decide +kernel
theorem dX11_find_110 : decode cX11_find 110 = .ok (.goto 4, 3) := by decide +kernel
theorem dX11_find_113 : decode cX11_find 113 = .ok (.iconst 0, 1) := by decide +kernel
theorem dX11_find_114 : decode cX11_find 114 = .ok (.istore 9, 2) := by decide +kernel
theorem dX11_find_116 : decode cX11_find 116 = .ok (.lload_n 3, 1) := by decide +kernel
theorem dX11_find_117 : decode cX11_find 117 = .ok (.iload_n 1, 1) := by decide +kernel
theorem dX11_find_118 : decode cX11_find 118 = .ok (.iconst 1, 1) := by decide +kernel
theorem dX11_find_119 : decode cX11_find 119 = .ok (.isub, 1) := by decide +kernel
theorem dX11_find_120 : decode cX11_find 120 = .ok (.lushr, 1) := by decide +kernel
theorem dX11_find_121 : decode cX11_find 121 = .ok (.lconst 1, 1) := by decide +kernel
theorem dX11_find_122 : decode cX11_find 122 = .ok (.land, 1) := by decide +kernel
theorem dX11_find_123 : decode cX11_find 123 = .ok (.l2i, 1) := by decide +kernel
theorem dX11_find_124 : decode cX11_find 124 = .ok (.iconst 2, 1) := by decide +kernel
theorem dX11_find_125 : decode cX11_find 125 = .ok (.iload 7, 2) := by decide +kernel
theorem dX11_find_127 : decode cX11_find 127 = .ok (.imul, 1) := by decide +kernel
theorem dX11_find_128 : decode cX11_find 128 = .ok (.iadd, 1) := by decide +kernel
theorem dX11_find_129 : decode cX11_find 129 = .ok (.istore 7, 2) := by decide +kernel
theorem dX11_find_131 : decode cX11_find 131 = .ok (.lload_n 3, 1) := by decide +kernel
theorem dX11_find_132 : decode cX11_find 132 = .ok (.iconst 1, 1) := by decide +kernel
theorem dX11_find_133 : decode cX11_find 133 = .ok (.lshl, 1) := by decide +kernel
theorem dX11_find_134 : decode cX11_find 134 = .ok (.iload_n 1, 1) := by decide +kernel
theorem dX11_find_135 : decode cX11_find 135 = .ok (.invokestatic 105, 3) := by decide +kernel
theorem dX11_find_138 : decode cX11_find 138 = .ok (.iload 9, 2) := by decide +kernel
theorem dX11_find_140 : decode cX11_find 140 = .ok (.ifCond .eq 7, 3) := by decide +kernel
theorem dX11_find_143 : decode cX11_find 143 = .ok (.lconst 1, 1) := by decide +kernel
theorem dX11_find_144 : decode cX11_find 144 = .ok (.goto 4, 3) := by decide +kernel
theorem dX11_find_147 : decode cX11_find 147 = .ok (.lconst 0, 1) := by decide +kernel
theorem dX11_find_148 : decode cX11_find 148 = .ok (.lor, 1) := by decide +kernel
theorem dX11_find_149 : decode cX11_find 149 = .ok (.lstore_n 3, 1) := by decide +kernel
theorem dX11_find_150 : decode cX11_find 150 = .ok (.iload 9, 2) := by decide +kernel
theorem dX11_find_152 : decode cX11_find 152 = .ok (.ifCond .eq 16, 3) := by decide +kernel
theorem dX11_find_155 : decode cX11_find 155 = .ok (.lload 5, 2) := by decide +kernel
theorem dX11_find_157 : decode cX11_find 157 = .ok (.aload_n 0, 1) := by decide +kernel
theorem dX11_find_158 : decode cX11_find 158 = .ok (.getfield 171, 3) := by decide +kernel
theorem dX11_find_161 : decode cX11_find 161 = .ok (.lload 5, 2) := by decide +kernel
theorem dX11_find_163 : decode cX11_find 163 = .ok (.lsub, 1) := by decide +kernel
theorem dX11_find_164 : decode cX11_find 164 = .ok (.lsub, 1) := by decide +kernel
theorem dX11_find_165 : decode cX11_find 165 = .ok (.goto 9, 3) := by decide +kernel
theorem dX11_find_168 : decode cX11_find 168 = .ok (.ldc2_w 116, 3) := by decide +kernel
theorem dX11_find_171 : decode cX11_find 171 = .ok (.lload 5, 2) := by decide +kernel
theorem dX11_find_173 : decode cX11_find 173 = .ok (.lmul, 1) := by decide +kernel
theorem dX11_find_174 : decode cX11_find 174 = .ok (.lstore 5, 2) := by decide +kernel
theorem dX11_find_176 : decode cX11_find 176 = .ok (.aload_n 0, 1) := by decide +kernel
theorem dX11_find_177 : decode cX11_find 177 = .ok (.dup, 1) := by decide +kernel
theorem dX11_find_178 : decode cX11_find 178 = .ok (.getfield 183, 3) := by decide +kernel
theorem dX11_find_181 : decode cX11_find 181 = .ok (.iconst 1, 1) := by decide +kernel
theorem dX11_find_182 : decode cX11_find 182 = .ok (.iadd, 1) := by decide +kernel
theorem dX11_find_183 : decode cX11_find 183 = .ok (.putfield 183, 3) := by decide +kernel
theorem dX11_find_186 : decode cX11_find 186 = .ok (.goto (-135), 3) := by decide +kernel
theorem dX11_find_189 : decode cX11_find 189 = .ok (.aload_n 0, 1) := by decide +kernel
theorem dX11_find_190 : decode cX11_find 190 = .ok (.lload_n 3, 1) := by decide +kernel
theorem dX11_find_191 : decode cX11_find 191 = .ok (.lconst 1, 1) := by decide +kernel
theorem dX11_find_192 : decode cX11_find 192 = .ok (.ladd, 1) := by decide +kernel
theorem dX11_find_193 : decode cX11_find 193 = .ok (.iload_n 1, 1) := by decide +kernel
theorem dX11_find_194 : decode cX11_find 194 = .ok (.invokestatic 105, 3) := by decide +kernel
theorem dX11_find_197 : decode cX11_find 197 = .ok (.putfield 189, 3) := by decide +kernel
theorem dX11_find_200 : decode cX11_find 200 = .ok (.aload_n 0, 1) := by decide +kernel
theorem dX11_find_201 : decode cX11_find 201 = .ok (.iload 7, 2) := by decide +kernel
theorem dX11_find_203 : decode cX11_find 203 = .ok (.aload_n 0, 1) := by decide +kernel
theorem dX11_find_204 : decode cX11_find 204 = .ok (.getfield 189, 3) := by decide +kernel
theorem dX11_find_207 : decode cX11_find 207 = .ok (.lconst 0, 1) := by decide +kernel
theorem dX11_find_208 : decode cX11_find 208 = .ok (.lcmp, 1) := by decide +kernel
theorem dX11_find_209 : decode cX11_find 209 = .ok (.ifCond .ne 7, 3) := by decide +kernel
theorem dX11_find_212 : decode cX11_find 212 = .ok (.iconst 1, 1) := by decide +kernel
theorem dX11_find_213 : decode cX11_find 213 = .ok (.goto 4, 3) := by decide +kernel
theorem dX11_find_216 : decode cX11_find 216 = .ok (.iconst 0, 1) := by decide +kernel
theorem dX11_find_217 : decode cX11_find 217 = .ok (.iadd, 1) := by decide +kernel
theorem dX11_find_218 : decode cX11_find 218 = .ok (.putfield 192, 3) := by decide +kernel
theorem dX11_find_221 : decode cX11_find 221 = .ok (.return_, 1) := by decide +kernel
theorem dX11_plainQuotient_0 : decode cX11_plainQuotient 0 = .ok (.aload_n 0, 1) := by decide +kernel
theorem dX11_plainQuotient_1 : decode cX11_plainQuotient 1 = .ok (.getfield 7, 3) := by decide +kernel
theorem dX11_plainQuotient_4 : decode cX11_plainQuotient 4 = .ok (.iload_n 1, 1) := by decide +kernel
theorem dX11_plainQuotient_5 : decode cX11_plainQuotient 5 = .ok (.iaload, 1) := by decide +kernel
theorem dX11_plainQuotient_6 : decode cX11_plainQuotient 6 = .ok (.istore_n 3, 1) := by decide +kernel
theorem dX11_plainQuotient_7 : decode cX11_plainQuotient 7 = .ok (.aload_n 0, 1) := by decide +kernel
theorem dX11_plainQuotient_8 : decode cX11_plainQuotient 8 = .ok (.getfield 177, 3) := by decide +kernel
theorem dX11_plainQuotient_11 : decode cX11_plainQuotient 11 = .ok (.lconst 1, 1) := by decide +kernel
theorem dX11_plainQuotient_12 : decode cX11_plainQuotient 12 = .ok (.lcmp, 1) := by decide +kernel
theorem dX11_plainQuotient_13 : decode cX11_plainQuotient 13 = .ok (.ifCond .ne 16, 3) := by decide +kernel
theorem dX11_plainQuotient_16 : decode cX11_plainQuotient 16 = .ok (.aload_n 0, 1) := by decide +kernel
theorem dX11_plainQuotient_17 : decode cX11_plainQuotient 17 = .ok (.iload_n 1, 1) := by decide +kernel
theorem dX11_plainQuotient_18 : decode cX11_plainQuotient 18 = .ok (.iconst 0, 1) := by decide +kernel
theorem dX11_plainQuotient_19 : decode cX11_plainQuotient 19 = .ok (.iload_n 2, 1) := by decide +kernel
theorem dX11_plainQuotient_20 : decode cX11_plainQuotient 20 = .ok (.aload_n 0, 1) := by decide +kernel
theorem dX11_plainQuotient_21 : decode cX11_plainQuotient 21 = .ok (.getfield 174, 3) := by decide +kernel
theorem dX11_plainQuotient_24 : decode cX11_plainQuotient 24 = .ok (.i2l, 1) := by decide +kernel
theorem dX11_plainQuotient_25 : decode cX11_plainQuotient 25 = .ok (.invokevirtual 167, 3) := by decide +kernel
theorem dX11_plainQuotient_28 : decode cX11_plainQuotient 28 = .ok (.ireturn, 1) := by decide +kernel
theorem dX11_plainQuotient_29 : decode cX11_plainQuotient 29 = .ok (.aload_n 0, 1) := by decide +kernel
theorem dX11_plainQuotient_30 : decode cX11_plainQuotient 30 = .ok (.iload_n 3, 1) := by decide +kernel
theorem dX11_plainQuotient_31 : decode cX11_plainQuotient 31 = .ok (.iconst 0, 1) := by decide +kernel
theorem dX11_plainQuotient_32 : decode cX11_plainQuotient 32 = .ok (.invokevirtual 195, 3) := by decide +kernel
theorem dX11_plainQuotient_35 : decode cX11_plainQuotient 35 = .ok (.aload_n 0, 1) := by decide +kernel
theorem dX11_plainQuotient_36 : decode cX11_plainQuotient 36 = .ok (.iload_n 1, 1) := by decide +kernel
theorem dX11_plainQuotient_37 : decode cX11_plainQuotient 37 = .ok (.iconst 2, 1) := by decide +kernel
theorem dX11_plainQuotient_38 : decode cX11_plainQuotient 38 = .ok (.iload_n 2, 1) := by decide +kernel
theorem dX11_plainQuotient_39 : decode cX11_plainQuotient 39 = .ok (.aload_n 0, 1) := by decide +kernel
theorem dX11_plainQuotient_40 : decode cX11_plainQuotient 40 = .ok (.getfield 189, 3) := by decide +kernel
theorem dX11_plainQuotient_43 : decode cX11_plainQuotient 43 = .ok (.invokevirtual 167, 3) := by decide +kernel
theorem dX11_plainQuotient_46 : decode cX11_plainQuotient 46 = .ok (.istore 4, 2) := by decide +kernel
theorem dX11_plainQuotient_48 : decode cX11_plainQuotient 48 = .ok (.aload_n 0, 1) := by decide +kernel
theorem dX11_plainQuotient_49 : decode cX11_plainQuotient 49 = .ok (.getfield 192, 3) := by decide +kernel
end
section
theorem dX11_plainQuotient_52 : decode cX11_plainQuotient 52 = .ok (.ifCond .ne 29, 3) := by decide +kernel
theorem dX11_plainQuotient_55 : decode cX11_plainQuotient 55 = .ok (.aload_n 0, 1) := by decide +kernel
theorem dX11_plainQuotient_56 : decode cX11_plainQuotient 56 = .ok (.getfield 183, 3) := by decide +kernel
theorem dX11_plainQuotient_59 : decode cX11_plainQuotient 59 = .ok (.ifCond .le 19, 3) := by decide +kernel
theorem dX11_plainQuotient_62 : decode cX11_plainQuotient 62 = .ok (.aload_n 0, 1) := by decide +kernel
theorem dX11_plainQuotient_63 : decode cX11_plainQuotient 63 = .ok (.iload_n 1, 1) := by decide +kernel
theorem dX11_plainQuotient_64 : decode cX11_plainQuotient 64 = .ok (.iconst 0, 1) := by decide +kernel
theorem dX11_plainQuotient_65 : decode cX11_plainQuotient 65 = .ok (.iload 4, 2) := by decide +kernel
theorem dX11_plainQuotient_67 : decode cX11_plainQuotient 67 = .ok (.aload_n 0, 1) := by decide +kernel
theorem dX11_plainQuotient_68 : decode cX11_plainQuotient 68 = .ok (.getfield 183, 3) := by decide +kernel
theorem dX11_plainQuotient_71 : decode cX11_plainQuotient 71 = .ok (.i2l, 1) := by decide +kernel
theorem dX11_plainQuotient_72 : decode cX11_plainQuotient 72 = .ok (.invokevirtual 167, 3) := by decide +kernel
theorem dX11_plainQuotient_75 : decode cX11_plainQuotient 75 = .ok (.goto 5, 3) := by decide +kernel
theorem dX11_plainQuotient_78 : decode cX11_plainQuotient 78 = .ok (.iload 4, 2) := by decide +kernel
theorem dX11_plainQuotient_80 : decode cX11_plainQuotient 80 = .ok (.ireturn, 1) := by decide +kernel
theorem dX11_plainQuotient_81 : decode cX11_plainQuotient 81 = .ok (.aload_n 0, 1) := by decide +kernel
theorem dX11_plainQuotient_82 : decode cX11_plainQuotient 82 = .ok (.iload_n 1, 1) := by decide +kernel
theorem dX11_plainQuotient_83 : decode cX11_plainQuotient 83 = .ok (.bipush 6, 2) := by decide +kernel
theorem dX11_plainQuotient_85 : decode cX11_plainQuotient 85 = .ok (.iload_n 2, 1) := by decide +kernel
theorem dX11_plainQuotient_86 : decode cX11_plainQuotient 86 = .ok (.iload 4, 2) := by decide +kernel
theorem dX11_plainQuotient_88 : decode cX11_plainQuotient 88 = .ok (.i2l, 1) := by decide +kernel
theorem dX11_plainQuotient_89 : decode cX11_plainQuotient 89 = .ok (.invokevirtual 167, 3) := by decide +kernel
theorem dX11_plainQuotient_92 : decode cX11_plainQuotient 92 = .ok (.istore 5, 2) := by decide +kernel
theorem dX11_plainQuotient_94 : decode cX11_plainQuotient 94 = .ok (.aload_n 0, 1) := by decide +kernel
theorem dX11_plainQuotient_95 : decode cX11_plainQuotient 95 = .ok (.iload_n 1, 1) := by decide +kernel
theorem dX11_plainQuotient_96 : decode cX11_plainQuotient 96 = .ok (.iconst 0, 1) := by decide +kernel
theorem dX11_plainQuotient_97 : decode cX11_plainQuotient 97 = .ok (.iload 5, 2) := by decide +kernel
theorem dX11_plainQuotient_99 : decode cX11_plainQuotient 99 = .ok (.lconst 1, 1) := by decide +kernel
theorem dX11_plainQuotient_100 : decode cX11_plainQuotient 100 = .ok (.invokevirtual 167, 3) := by decide +kernel
theorem dX11_plainQuotient_103 : decode cX11_plainQuotient 103 = .ok (.istore 6, 2) := by decide +kernel
theorem dX11_plainQuotient_105 : decode cX11_plainQuotient 105 = .ok (.aload_n 0, 1) := by decide +kernel
theorem dX11_plainQuotient_106 : decode cX11_plainQuotient 106 = .ok (.iload_n 1, 1) := by decide +kernel
theorem dX11_plainQuotient_107 : decode cX11_plainQuotient 107 = .ok (.iconst 5, 1) := by decide +kernel
theorem dX11_plainQuotient_108 : decode cX11_plainQuotient 108 = .ok (.iload 6, 2) := by decide +kernel
theorem dX11_plainQuotient_110 : decode cX11_plainQuotient 110 = .ok (.iload 4, 2) := by decide +kernel
theorem dX11_plainQuotient_112 : decode cX11_plainQuotient 112 = .ok (.i2l, 1) := by decide +kernel
theorem dX11_plainQuotient_113 : decode cX11_plainQuotient 113 = .ok (.invokevirtual 167, 3) := by decide +kernel
theorem dX11_plainQuotient_116 : decode cX11_plainQuotient 116 = .ok (.istore 7, 2) := by decide +kernel
theorem dX11_plainQuotient_118 : decode cX11_plainQuotient 118 = .ok (.aload_n 0, 1) := by decide +kernel
theorem dX11_plainQuotient_119 : decode cX11_plainQuotient 119 = .ok (.getfield 183, 3) := by decide +kernel
theorem dX11_plainQuotient_122 : decode cX11_plainQuotient 122 = .ok (.iconst 1, 1) := by decide +kernel
theorem dX11_plainQuotient_123 : decode cX11_plainQuotient 123 = .ok (.if_icmp .le 21, 3) := by decide +kernel
theorem dX11_plainQuotient_126 : decode cX11_plainQuotient 126 = .ok (.aload_n 0, 1) := by decide +kernel
theorem dX11_plainQuotient_127 : decode cX11_plainQuotient 127 = .ok (.iload_n 1, 1) := by decide +kernel
theorem dX11_plainQuotient_128 : decode cX11_plainQuotient 128 = .ok (.iconst 0, 1) := by decide +kernel
theorem dX11_plainQuotient_129 : decode cX11_plainQuotient 129 = .ok (.iload 7, 2) := by decide +kernel
theorem dX11_plainQuotient_131 : decode cX11_plainQuotient 131 = .ok (.aload_n 0, 1) := by decide +kernel
theorem dX11_plainQuotient_132 : decode cX11_plainQuotient 132 = .ok (.getfield 183, 3) := by decide +kernel
theorem dX11_plainQuotient_135 : decode cX11_plainQuotient 135 = .ok (.iconst 1, 1) := by decide +kernel
theorem dX11_plainQuotient_136 : decode cX11_plainQuotient 136 = .ok (.isub, 1) := by decide +kernel
theorem dX11_plainQuotient_137 : decode cX11_plainQuotient 137 = .ok (.i2l, 1) := by decide +kernel
theorem dX11_plainQuotient_138 : decode cX11_plainQuotient 138 = .ok (.invokevirtual 167, 3) := by decide +kernel
theorem dX11_plainQuotient_141 : decode cX11_plainQuotient 141 = .ok (.goto 5, 3) := by decide +kernel
theorem dX11_plainQuotient_144 : decode cX11_plainQuotient 144 = .ok (.iload 7, 2) := by decide +kernel
theorem dX11_plainQuotient_146 : decode cX11_plainQuotient 146 = .ok (.ireturn, 1) := by decide +kernel
theorem dX11_plainWhole_0 : decode cX11_plainWhole 0 = .ok (.aload_n 0, 1) := by decide +kernel
theorem dX11_plainWhole_1 : decode cX11_plainWhole 1 = .ok (.getfield 7, 3) := by decide +kernel
theorem dX11_plainWhole_4 : decode cX11_plainWhole 4 = .ok (.iload_n 1, 1) := by decide +kernel
theorem dX11_plainWhole_5 : decode cX11_plainWhole 5 = .ok (.iaload, 1) := by decide +kernel
theorem dX11_plainWhole_6 : decode cX11_plainWhole 6 = .ok (.istore_n 3, 1) := by decide +kernel
theorem dX11_plainWhole_7 : decode cX11_plainWhole 7 = .ok (.aload_n 0, 1) := by decide +kernel
theorem dX11_plainWhole_8 : decode cX11_plainWhole 8 = .ok (.iload_n 1, 1) := by decide +kernel
theorem dX11_plainWhole_9 : decode cX11_plainWhole 9 = .ok (.iconst 4, 1) := by decide +kernel
theorem dX11_plainWhole_10 : decode cX11_plainWhole 10 = .ok (.iload_n 2, 1) := by decide +kernel
theorem dX11_plainWhole_11 : decode cX11_plainWhole 11 = .ok (.aload_n 0, 1) := by decide +kernel
theorem dX11_plainWhole_12 : decode cX11_plainWhole 12 = .ok (.getfield 177, 3) := by decide +kernel
theorem dX11_plainWhole_15 : decode cX11_plainWhole 15 = .ok (.invokestatic 198, 3) := by decide +kernel
theorem dX11_plainWhole_18 : decode cX11_plainWhole 18 = .ok (.invokevirtual 167, 3) := by decide +kernel
theorem dX11_plainWhole_21 : decode cX11_plainWhole 21 = .ok (.istore 4, 2) := by decide +kernel
theorem dX11_plainWhole_23 : decode cX11_plainWhole 23 = .ok (.aload_n 0, 1) := by decide +kernel
theorem dX11_plainWhole_24 : decode cX11_plainWhole 24 = .ok (.getfield 174, 3) := by decide +kernel
theorem dX11_plainWhole_27 : decode cX11_plainWhole 27 = .ok (.ifCond .le 19, 3) := by decide +kernel
theorem dX11_plainWhole_30 : decode cX11_plainWhole 30 = .ok (.aload_n 0, 1) := by decide +kernel
theorem dX11_plainWhole_31 : decode cX11_plainWhole 31 = .ok (.iload_n 1, 1) := by decide +kernel
theorem dX11_plainWhole_32 : decode cX11_plainWhole 32 = .ok (.bipush 10, 2) := by decide +kernel
theorem dX11_plainWhole_34 : decode cX11_plainWhole 34 = .ok (.iload 4, 2) := by decide +kernel
theorem dX11_plainWhole_36 : decode cX11_plainWhole 36 = .ok (.aload_n 0, 1) := by decide +kernel
theorem dX11_plainWhole_37 : decode cX11_plainWhole 37 = .ok (.getfield 174, 3) := by decide +kernel
theorem dX11_plainWhole_40 : decode cX11_plainWhole 40 = .ok (.i2l, 1) := by decide +kernel
theorem dX11_plainWhole_41 : decode cX11_plainWhole 41 = .ok (.invokevirtual 167, 3) := by decide +kernel
theorem dX11_plainWhole_44 : decode cX11_plainWhole 44 = .ok (.istore 4, 2) := by decide +kernel
theorem dX11_plainWhole_46 : decode cX11_plainWhole 46 = .ok (.aload_n 0, 1) := by decide +kernel
theorem dX11_plainWhole_47 : decode cX11_plainWhole 47 = .ok (.iload_n 1, 1) := by decide +kernel
theorem dX11_plainWhole_48 : decode cX11_plainWhole 48 = .ok (.bipush 11, 2) := by decide +kernel
theorem dX11_plainWhole_50 : decode cX11_plainWhole 50 = .ok (.iload 4, 2) := by decide +kernel
theorem dX11_plainWhole_52 : decode cX11_plainWhole 52 = .ok (.aload_n 0, 1) := by decide +kernel
theorem dX11_plainWhole_53 : decode cX11_plainWhole 53 = .ok (.ldc2_w 202, 3) := by decide +kernel
theorem dX11_plainWhole_56 : decode cX11_plainWhole 56 = .ok (.iload_n 3, 1) := by decide +kernel
theorem dX11_plainWhole_57 : decode cX11_plainWhole 57 = .ok (.invokestatic 105, 3) := by decide +kernel
theorem dX11_plainWhole_60 : decode cX11_plainWhole 60 = .ok (.aload_n 0, 1) := by decide +kernel
theorem dX11_plainWhole_61 : decode cX11_plainWhole 61 = .ok (.getfield 171, 3) := by decide +kernel
theorem dX11_plainWhole_64 : decode cX11_plainWhole 64 = .ok (.invokevirtual 180, 3) := by decide +kernel
theorem dX11_plainWhole_67 : decode cX11_plainWhole 67 = .ok (.invokevirtual 167, 3) := by decide +kernel
theorem dX11_plainWhole_70 : decode cX11_plainWhole 70 = .ok (.ireturn, 1) := by decide +kernel
theorem dX11_restOf_0 : decode cX11_restOf 0 = .ok (.aload_n 0, 1) := by decide +kernel
theorem dX11_restOf_1 : decode cX11_restOf 1 = .ok (.iload_n 1, 1) := by decide +kernel
theorem dX11_restOf_2 : decode cX11_restOf 2 = .ok (.iconst 4, 1) := by decide +kernel
theorem dX11_restOf_3 : decode cX11_restOf 3 = .ok (.iload_n 2, 1) := by decide +kernel
theorem dX11_restOf_4 : decode cX11_restOf 4 = .ok (.lload_n 3, 1) := by decide +kernel
theorem dX11_restOf_5 : decode cX11_restOf 5 = .ok (.invokevirtual 167, 3) := by decide +kernel
theorem dX11_restOf_8 : decode cX11_restOf 8 = .ok (.istore 5, 2) := by decide +kernel
theorem dX11_restOf_10 : decode cX11_restOf 10 = .ok (.aload_n 0, 1) := by decide +kernel
theorem dX11_restOf_11 : decode cX11_restOf 11 = .ok (.iload_n 1, 1) := by decide +kernel
theorem dX11_restOf_12 : decode cX11_restOf 12 = .ok (.bipush 6, 2) := by decide +kernel
theorem dX11_restOf_14 : decode cX11_restOf 14 = .ok (.iconst 0, 1) := by decide +kernel
theorem dX11_restOf_15 : decode cX11_restOf 15 = .ok (.iload 5, 2) := by decide +kernel
theorem dX11_restOf_17 : decode cX11_restOf 17 = .ok (.i2l, 1) := by decide +kernel
theorem dX11_restOf_18 : decode cX11_restOf 18 = .ok (.invokevirtual 167, 3) := by decide +kernel
theorem dX11_restOf_21 : decode cX11_restOf 21 = .ok (.ireturn, 1) := by decide +kernel
theorem dX11_writePlain_0 : decode cX11_writePlain 0 = .ok (.iload_n 2, 1) := by decide +kernel
theorem dX11_writePlain_1 : decode cX11_writePlain 1 = .ok (.tableswitch 91 0 4 #[35, 35, 42, 42, 84], 35) := by decide +kernel
theorem dX11_writePlain_36 : decode cX11_writePlain 36 = .ok (.aload_n 0, 1) := by decide +kernel
theorem dX11_writePlain_37 : decode cX11_writePlain 37 = .ok (.iload_n 1, 1) := by decide +kernel
theorem dX11_writePlain_38 : decode cX11_writePlain 38 = .ok (.iconst 0, 1) := by decide +kernel
theorem dX11_writePlain_39 : decode cX11_writePlain 39 = .ok (.invokevirtual 204, 3) := by decide +kernel
theorem dX11_writePlain_42 : decode cX11_writePlain 42 = .ok (.ireturn, 1) := by decide +kernel
theorem dX11_writePlain_43 : decode cX11_writePlain 43 = .ok (.aload_n 0, 1) := by decide +kernel
theorem dX11_writePlain_44 : decode cX11_writePlain 44 = .ok (.getfield 177, 3) := by decide +kernel
theorem dX11_writePlain_47 : decode cX11_writePlain 47 = .ok (.lconst 1, 1) := by decide +kernel
theorem dX11_writePlain_48 : decode cX11_writePlain 48 = .ok (.lcmp, 1) := by decide +kernel
theorem dX11_writePlain_49 : decode cX11_writePlain 49 = .ok (.ifCond .ne 20, 3) := by decide +kernel
theorem dX11_writePlain_52 : decode cX11_writePlain 52 = .ok (.aload_n 0, 1) := by decide +kernel
theorem dX11_writePlain_53 : decode cX11_writePlain 53 = .ok (.iload_n 1, 1) := by decide +kernel
theorem dX11_writePlain_54 : decode cX11_writePlain 54 = .ok (.bipush 9, 2) := by decide +kernel
theorem dX11_writePlain_56 : decode cX11_writePlain 56 = .ok (.iconst 0, 1) := by decide +kernel
theorem dX11_writePlain_57 : decode cX11_writePlain 57 = .ok (.aload_n 0, 1) := by decide +kernel
theorem dX11_writePlain_58 : decode cX11_writePlain 58 = .ok (.getfield 171, 3) := by decide +kernel
theorem dX11_writePlain_61 : decode cX11_writePlain 61 = .ok (.lconst 1, 1) := by decide +kernel
theorem dX11_writePlain_62 : decode cX11_writePlain 62 = .ok (.lsub, 1) := by decide +kernel
theorem dX11_writePlain_63 : decode cX11_writePlain 63 = .ok (.invokevirtual 167, 3) := by decide +kernel
theorem dX11_writePlain_66 : decode cX11_writePlain 66 = .ok (.goto 18, 3) := by decide +kernel
theorem dX11_writePlain_69 : decode cX11_writePlain 69 = .ok (.aload_n 0, 1) := by decide +kernel
theorem dX11_writePlain_70 : decode cX11_writePlain 70 = .ok (.iload_n 1, 1) := by decide +kernel
theorem dX11_writePlain_71 : decode cX11_writePlain 71 = .ok (.aload_n 0, 1) := by decide +kernel
theorem dX11_writePlain_72 : decode cX11_writePlain 72 = .ok (.iload_n 1, 1) := by decide +kernel
theorem dX11_writePlain_73 : decode cX11_writePlain 73 = .ok (.iconst 0, 1) := by decide +kernel
theorem dX11_writePlain_74 : decode cX11_writePlain 74 = .ok (.invokevirtual 204, 3) := by decide +kernel
theorem dX11_writePlain_77 : decode cX11_writePlain 77 = .ok (.aload_n 0, 1) := by decide +kernel
theorem dX11_writePlain_78 : decode cX11_writePlain 78 = .ok (.getfield 171, 3) := by decide +kernel
theorem dX11_writePlain_81 : decode cX11_writePlain 81 = .ok (.invokevirtual 208, 3) := by decide +kernel
theorem dX11_writePlain_84 : decode cX11_writePlain 84 = .ok (.ireturn, 1) := by decide +kernel
theorem dX11_writePlain_85 : decode cX11_writePlain 85 = .ok (.aload_n 0, 1) := by decide +kernel
theorem dX11_writePlain_86 : decode cX11_writePlain 86 = .ok (.iload_n 1, 1) := by decide +kernel
theorem dX11_writePlain_87 : decode cX11_writePlain 87 = .ok (.iconst 0, 1) := by decide +kernel
theorem dX11_writePlain_88 : decode cX11_writePlain 88 = .ok (.invokevirtual 212, 3) := by decide +kernel
theorem dX11_writePlain_91 : decode cX11_writePlain 91 = .ok (.ireturn, 1) := by decide +kernel
theorem dX11_writePlain_92 : decode cX11_writePlain 92 = .ok (.aload_n 0, 1) := by decide +kernel
theorem dX11_writePlain_93 : decode cX11_writePlain 93 = .ok (.getfield 174, 3) := by decide +kernel
theorem dX11_writePlain_96 : decode cX11_writePlain 96 = .ok (.ifCond .gt 12, 3) := by decide +kernel
theorem dX11_writePlain_99 : decode cX11_writePlain 99 = .ok (.aload_n 0, 1) := by decide +kernel
theorem dX11_writePlain_100 : decode cX11_writePlain 100 = .ok (.getfield 177, 3) := by decide +kernel
theorem dX11_writePlain_103 : decode cX11_writePlain 103 = .ok (.lconst 1, 1) := by decide +kernel
theorem dX11_writePlain_104 : decode cX11_writePlain 104 = .ok (.lcmp, 1) := by decide +kernel
theorem dX11_writePlain_105 : decode cX11_writePlain 105 = .ok (.ifCond .ne 18, 3) := by decide +kernel
theorem dX11_writePlain_108 : decode cX11_writePlain 108 = .ok (.aload_n 0, 1) := by decide +kernel
theorem dX11_writePlain_109 : decode cX11_writePlain 109 = .ok (.iload_n 1, 1) := by decide +kernel
theorem dX11_writePlain_110 : decode cX11_writePlain 110 = .ok (.iconst 0, 1) := by decide +kernel
theorem dX11_writePlain_111 : decode cX11_writePlain 111 = .ok (.iconst 0, 1) := by decide +kernel
theorem dX11_writePlain_112 : decode cX11_writePlain 112 = .ok (.aload_n 0, 1) := by decide +kernel
theorem dX11_writePlain_113 : decode cX11_writePlain 113 = .ok (.getfield 174, 3) := by decide +kernel
theorem dX11_writePlain_116 : decode cX11_writePlain 116 = .ok (.i2l, 1) := by decide +kernel
theorem dX11_writePlain_117 : decode cX11_writePlain 117 = .ok (.invokevirtual 167, 3) := by decide +kernel
theorem dX11_writePlain_120 : decode cX11_writePlain 120 = .ok (.goto 4, 3) := by decide +kernel
theorem dX11_writePlain_123 : decode cX11_writePlain 123 = .ok (.iconst 0, 1) := by decide +kernel
theorem dX11_writePlain_124 : decode cX11_writePlain 124 = .ok (.istore_n 3, 1) := by decide +kernel
theorem dX11_writePlain_125 : decode cX11_writePlain 125 = .ok (.aload_n 0, 1) := by decide +kernel
theorem dX11_writePlain_126 : decode cX11_writePlain 126 = .ok (.getfield 177, 3) := by decide +kernel
theorem dX11_writePlain_129 : decode cX11_writePlain 129 = .ok (.lconst 1, 1) := by decide +kernel
theorem dX11_writePlain_130 : decode cX11_writePlain 130 = .ok (.lcmp, 1) := by decide +kernel
theorem dX11_writePlain_131 : decode cX11_writePlain 131 = .ok (.ifCond .ne 7, 3) := by decide +kernel
theorem dX11_writePlain_134 : decode cX11_writePlain 134 = .ok (.iload_n 3, 1) := by decide +kernel
theorem dX11_writePlain_135 : decode cX11_writePlain 135 = .ok (.goto 17, 3) := by decide +kernel
theorem dX11_writePlain_138 : decode cX11_writePlain 138 = .ok (.aload_n 0, 1) := by decide +kernel
theorem dX11_writePlain_139 : decode cX11_writePlain 139 = .ok (.iload_n 1, 1) := by decide +kernel
theorem dX11_writePlain_140 : decode cX11_writePlain 140 = .ok (.iconst 4, 1) := by decide +kernel
theorem dX11_writePlain_141 : decode cX11_writePlain 141 = .ok (.iload_n 3, 1) := by decide +kernel
theorem dX11_writePlain_142 : decode cX11_writePlain 142 = .ok (.aload_n 0, 1) := by decide +kernel
theorem dX11_writePlain_143 : decode cX11_writePlain 143 = .ok (.getfield 177, 3) := by decide +kernel
theorem dX11_writePlain_146 : decode cX11_writePlain 146 = .ok (.invokestatic 198, 3) := by decide +kernel
theorem dX11_writePlain_149 : decode cX11_writePlain 149 = .ok (.invokevirtual 167, 3) := by decide +kernel
theorem dX11_writePlain_152 : decode cX11_writePlain 152 = .ok (.ireturn, 1) := by decide +kernel
theorem dX11_signedQuotient_0 : decode cX11_signedQuotient 0 = .ok (.aload_n 0, 1) := by decide +kernel
theorem dX11_signedQuotient_1 : decode cX11_signedQuotient 1 = .ok (.getfield 7, 3) := by decide +kernel
theorem dX11_signedQuotient_4 : decode cX11_signedQuotient 4 = .ok (.iload_n 1, 1) := by decide +kernel
theorem dX11_signedQuotient_5 : decode cX11_signedQuotient 5 = .ok (.iaload, 1) := by decide +kernel
theorem dX11_signedQuotient_6 : decode cX11_signedQuotient 6 = .ok (.istore_n 3, 1) := by decide +kernel
theorem dX11_signedQuotient_7 : decode cX11_signedQuotient 7 = .ok (.aload_n 0, 1) := by decide +kernel
theorem dX11_signedQuotient_8 : decode cX11_signedQuotient 8 = .ok (.getfield 171, 3) := by decide +kernel
theorem dX11_signedQuotient_11 : decode cX11_signedQuotient 11 = .ok (.lconst 1, 1) := by decide +kernel
theorem dX11_signedQuotient_12 : decode cX11_signedQuotient 12 = .ok (.lcmp, 1) := by decide +kernel
theorem dX11_signedQuotient_13 : decode cX11_signedQuotient 13 = .ok (.ifCond .ne 28, 3) := by decide +kernel
theorem dX11_signedQuotient_16 : decode cX11_signedQuotient 16 = .ok (.iload_n 2, 1) := by decide +kernel
theorem dX11_signedQuotient_17 : decode cX11_signedQuotient 17 = .ok (.ifCond .eq 15, 3) := by decide +kernel
theorem dX11_signedQuotient_20 : decode cX11_signedQuotient 20 = .ok (.aload_n 0, 1) := by decide +kernel
theorem dX11_signedQuotient_21 : decode cX11_signedQuotient 21 = .ok (.iload_n 1, 1) := by decide +kernel
theorem dX11_signedQuotient_22 : decode cX11_signedQuotient 22 = .ok (.bipush 7, 2) := by decide +kernel
theorem dX11_signedQuotient_24 : decode cX11_signedQuotient 24 = .ok (.iconst 0, 1) := by decide +kernel
theorem dX11_signedQuotient_25 : decode cX11_signedQuotient 25 = .ok (.lconst 0, 1) := by decide +kernel
theorem dX11_signedQuotient_26 : decode cX11_signedQuotient 26 = .ok (.invokevirtual 167, 3) := by decide +kernel
theorem dX11_signedQuotient_29 : decode cX11_signedQuotient 29 = .ok (.goto 11, 3) := by decide +kernel
theorem dX11_signedQuotient_32 : decode cX11_signedQuotient 32 = .ok (.aload_n 0, 1) := by decide +kernel
theorem dX11_signedQuotient_33 : decode cX11_signedQuotient 33 = .ok (.iload_n 1, 1) := by decide +kernel
theorem dX11_signedQuotient_34 : decode cX11_signedQuotient 34 = .ok (.iconst 0, 1) := by decide +kernel
theorem dX11_signedQuotient_35 : decode cX11_signedQuotient 35 = .ok (.iconst 0, 1) := by decide +kernel
theorem dX11_signedQuotient_36 : decode cX11_signedQuotient 36 = .ok (.lconst 0, 1) := by decide +kernel
theorem dX11_signedQuotient_37 : decode cX11_signedQuotient 37 = .ok (.invokevirtual 167, 3) := by decide +kernel
theorem dX11_signedQuotient_40 : decode cX11_signedQuotient 40 = .ok (.ireturn, 1) := by decide +kernel
theorem dX11_signedQuotient_41 : decode cX11_signedQuotient 41 = .ok (.aload_n 0, 1) := by decide +kernel
theorem dX11_signedQuotient_42 : decode cX11_signedQuotient 42 = .ok (.getfield 177, 3) := by decide +kernel
theorem dX11_signedQuotient_45 : decode cX11_signedQuotient 45 = .ok (.lconst 1, 1) := by decide +kernel
theorem dX11_signedQuotient_46 : decode cX11_signedQuotient 46 = .ok (.lcmp, 1) := by decide +kernel
theorem dX11_signedQuotient_47 : decode cX11_signedQuotient 47 = .ok (.ifCond .ne 63, 3) := by decide +kernel
theorem dX11_signedQuotient_50 : decode cX11_signedQuotient 50 = .ok (.aload_n 0, 1) := by decide +kernel
theorem dX11_signedQuotient_51 : decode cX11_signedQuotient 51 = .ok (.iload_n 1, 1) := by decide +kernel
theorem dX11_signedQuotient_52 : decode cX11_signedQuotient 52 = .ok (.iconst 1, 1) := by decide +kernel
theorem dX11_signedQuotient_53 : decode cX11_signedQuotient 53 = .ok (.iconst 0, 1) := by decide +kernel
theorem dX11_signedQuotient_54 : decode cX11_signedQuotient 54 = .ok (.iload_n 3, 1) := by decide +kernel
theorem dX11_signedQuotient_55 : decode cX11_signedQuotient 55 = .ok (.iconst 1, 1) := by decide +kernel
theorem dX11_signedQuotient_56 : decode cX11_signedQuotient 56 = .ok (.isub, 1) := by decide +kernel
theorem dX11_signedQuotient_57 : decode cX11_signedQuotient 57 = .ok (.i2l, 1) := by decide +kernel
theorem dX11_signedQuotient_58 : decode cX11_signedQuotient 58 = .ok (.invokevirtual 167, 3) := by decide +kernel
theorem dX11_signedQuotient_61 : decode cX11_signedQuotient 61 = .ok (.istore 5, 2) := by decide +kernel
theorem dX11_signedQuotient_63 : decode cX11_signedQuotient 63 = .ok (.aload_n 0, 1) := by decide +kernel
theorem dX11_signedQuotient_64 : decode cX11_signedQuotient 64 = .ok (.iload_n 1, 1) := by decide +kernel
theorem dX11_signedQuotient_65 : decode cX11_signedQuotient 65 = .ok (.iconst 0, 1) := by decide +kernel
theorem dX11_signedQuotient_66 : decode cX11_signedQuotient 66 = .ok (.iload 5, 2) := by decide +kernel
theorem dX11_signedQuotient_68 : decode cX11_signedQuotient 68 = .ok (.iload_n 3, 1) := by decide +kernel
theorem dX11_signedQuotient_69 : decode cX11_signedQuotient 69 = .ok (.aload_n 0, 1) := by decide +kernel
theorem dX11_signedQuotient_70 : decode cX11_signedQuotient 70 = .ok (.getfield 174, 3) := by decide +kernel
theorem dX11_signedQuotient_73 : decode cX11_signedQuotient 73 = .ok (.isub, 1) := by decide +kernel
theorem dX11_signedQuotient_74 : decode cX11_signedQuotient 74 = .ok (.i2l, 1) := by decide +kernel
theorem dX11_signedQuotient_75 : decode cX11_signedQuotient 75 = .ok (.invokevirtual 167, 3) := by decide +kernel
theorem dX11_signedQuotient_78 : decode cX11_signedQuotient 78 = .ok (.istore 6, 2) := by decide +kernel
theorem dX11_signedQuotient_80 : decode cX11_signedQuotient 80 = .ok (.aload_n 0, 1) := by decide +kernel
theorem dX11_signedQuotient_81 : decode cX11_signedQuotient 81 = .ok (.iload_n 1, 1) := by decide +kernel
theorem dX11_signedQuotient_82 : decode cX11_signedQuotient 82 = .ok (.iconst 5, 1) := by decide +kernel
theorem dX11_signedQuotient_83 : decode cX11_signedQuotient 83 = .ok (.iconst 0, 1) := by decide +kernel
theorem dX11_signedQuotient_84 : decode cX11_signedQuotient 84 = .ok (.iload 6, 2) := by decide +kernel
theorem dX11_signedQuotient_86 : decode cX11_signedQuotient 86 = .ok (.i2l, 1) := by decide +kernel
theorem dX11_signedQuotient_87 : decode cX11_signedQuotient 87 = .ok (.invokevirtual 167, 3) := by decide +kernel
theorem dX11_signedQuotient_90 : decode cX11_signedQuotient 90 = .ok (.istore 7, 2) := by decide +kernel
theorem dX11_signedQuotient_92 : decode cX11_signedQuotient 92 = .ok (.aload_n 0, 1) := by decide +kernel
theorem dX11_signedQuotient_93 : decode cX11_signedQuotient 93 = .ok (.iload_n 1, 1) := by decide +kernel
theorem dX11_signedQuotient_94 : decode cX11_signedQuotient 94 = .ok (.iconst 1, 1) := by decide +kernel
theorem dX11_signedQuotient_95 : decode cX11_signedQuotient 95 = .ok (.iload 7, 2) := by decide +kernel
theorem dX11_signedQuotient_97 : decode cX11_signedQuotient 97 = .ok (.aload_n 0, 1) := by decide +kernel
theorem dX11_signedQuotient_98 : decode cX11_signedQuotient 98 = .ok (.getfield 174, 3) := by decide +kernel
theorem dX11_signedQuotient_101 : decode cX11_signedQuotient 101 = .ok (.i2l, 1) := by decide +kernel
theorem dX11_signedQuotient_102 : decode cX11_signedQuotient 102 = .ok (.invokevirtual 167, 3) := by decide +kernel
theorem dX11_signedQuotient_105 : decode cX11_signedQuotient 105 = .ok (.istore 4, 2) := by decide +kernel
theorem dX11_signedQuotient_107 : decode cX11_signedQuotient 107 = .ok (.goto 100, 3) := by decide +kernel
theorem dX11_signedQuotient_110 : decode cX11_signedQuotient 110 = .ok (.aload_n 0, 1) := by decide +kernel
theorem dX11_signedQuotient_111 : decode cX11_signedQuotient 111 = .ok (.iload_n 3, 1) := by decide +kernel
theorem dX11_signedQuotient_112 : decode cX11_signedQuotient 112 = .ok (.iconst 1, 1) := by decide +kernel
theorem dX11_signedQuotient_113 : decode cX11_signedQuotient 113 = .ok (.invokevirtual 195, 3) := by decide +kernel
theorem dX11_signedQuotient_116 : decode cX11_signedQuotient 116 = .ok (.aload_n 0, 1) := by decide +kernel
theorem dX11_signedQuotient_117 : decode cX11_signedQuotient 117 = .ok (.iload_n 1, 1) := by decide +kernel
theorem dX11_signedQuotient_118 : decode cX11_signedQuotient 118 = .ok (.iconst 3, 1) := by decide +kernel
theorem dX11_signedQuotient_119 : decode cX11_signedQuotient 119 = .ok (.iconst 0, 1) := by decide +kernel
theorem dX11_signedQuotient_120 : decode cX11_signedQuotient 120 = .ok (.aload_n 0, 1) := by decide +kernel
theorem dX11_signedQuotient_121 : decode cX11_signedQuotient 121 = .ok (.getfield 189, 3) := by decide +kernel
theorem dX11_signedQuotient_124 : decode cX11_signedQuotient 124 = .ok (.invokevirtual 167, 3) := by decide +kernel
theorem dX11_signedQuotient_127 : decode cX11_signedQuotient 127 = .ok (.istore 4, 2) := by decide +kernel
theorem dX11_signedQuotient_129 : decode cX11_signedQuotient 129 = .ok (.aload_n 0, 1) := by decide +kernel
theorem dX11_signedQuotient_130 : decode cX11_signedQuotient 130 = .ok (.getfield 192, 3) := by decide +kernel
theorem dX11_signedQuotient_133 : decode cX11_signedQuotient 133 = .ok (.ifCond .gt 14, 3) := by decide +kernel
theorem dX11_signedQuotient_136 : decode cX11_signedQuotient 136 = .ok (.aload_n 0, 1) := by decide +kernel
theorem dX11_signedQuotient_137 : decode cX11_signedQuotient 137 = .ok (.getfield 189, 3) := by decide +kernel
theorem dX11_signedQuotient_140 : decode cX11_signedQuotient 140 = .ok (.iload_n 3, 1) := by decide +kernel
theorem dX11_signedQuotient_141 : decode cX11_signedQuotient 141 = .ok (.invokestatic 128, 3) := by decide +kernel
theorem dX11_signedQuotient_144 : decode cX11_signedQuotient 144 = .ok (.ifCond .eq 14, 3) := by decide +kernel
theorem dX11_signedQuotient_147 : decode cX11_signedQuotient 147 = .ok (.aload_n 0, 1) := by decide +kernel
theorem dX11_signedQuotient_148 : decode cX11_signedQuotient 148 = .ok (.iload_n 1, 1) := by decide +kernel
theorem dX11_signedQuotient_149 : decode cX11_signedQuotient 149 = .ok (.iconst 5, 1) := by decide +kernel
theorem dX11_signedQuotient_150 : decode cX11_signedQuotient 150 = .ok (.iload 4, 2) := by decide +kernel
theorem dX11_signedQuotient_152 : decode cX11_signedQuotient 152 = .ok (.lconst 0, 1) := by decide +kernel
theorem dX11_signedQuotient_153 : decode cX11_signedQuotient 153 = .ok (.invokevirtual 167, 3) := by decide +kernel
theorem dX11_signedQuotient_156 : decode cX11_signedQuotient 156 = .ok (.istore 4, 2) := by decide +kernel
theorem dX11_signedQuotient_158 : decode cX11_signedQuotient 158 = .ok (.aload_n 0, 1) := by decide +kernel
theorem dX11_signedQuotient_159 : decode cX11_signedQuotient 159 = .ok (.getfield 183, 3) := by decide +kernel
theorem dX11_signedQuotient_162 : decode cX11_signedQuotient 162 = .ok (.ifCond .le 18, 3) := by decide +kernel
theorem dX11_signedQuotient_165 : decode cX11_signedQuotient 165 = .ok (.aload_n 0, 1) := by decide +kernel
theorem dX11_signedQuotient_166 : decode cX11_signedQuotient 166 = .ok (.iload_n 1, 1) := by decide +kernel
theorem dX11_signedQuotient_167 : decode cX11_signedQuotient 167 = .ok (.iconst 1, 1) := by decide +kernel
theorem dX11_signedQuotient_168 : decode cX11_signedQuotient 168 = .ok (.iload 4, 2) := by decide +kernel
theorem dX11_signedQuotient_170 : decode cX11_signedQuotient 170 = .ok (.aload_n 0, 1) := by decide +kernel
theorem dX11_signedQuotient_171 : decode cX11_signedQuotient 171 = .ok (.getfield 183, 3) := by decide +kernel
theorem dX11_signedQuotient_174 : decode cX11_signedQuotient 174 = .ok (.i2l, 1) := by decide +kernel
theorem dX11_signedQuotient_175 : decode cX11_signedQuotient 175 = .ok (.invokevirtual 167, 3) := by decide +kernel
theorem dX11_signedQuotient_178 : decode cX11_signedQuotient 178 = .ok (.istore 4, 2) := by decide +kernel
theorem dX11_signedQuotient_180 : decode cX11_signedQuotient 180 = .ok (.aload_n 0, 1) := by decide +kernel
theorem dX11_signedQuotient_181 : decode cX11_signedQuotient 181 = .ok (.iload_n 1, 1) := by decide +kernel
theorem dX11_signedQuotient_182 : decode cX11_signedQuotient 182 = .ok (.iconst 1, 1) := by decide +kernel
theorem dX11_signedQuotient_183 : decode cX11_signedQuotient 183 = .ok (.iconst 0, 1) := by decide +kernel
theorem dX11_signedQuotient_184 : decode cX11_signedQuotient 184 = .ok (.iload_n 3, 1) := by decide +kernel
theorem dX11_signedQuotient_185 : decode cX11_signedQuotient 185 = .ok (.iconst 1, 1) := by decide +kernel
theorem dX11_signedQuotient_186 : decode cX11_signedQuotient 186 = .ok (.isub, 1) := by decide +kernel
theorem dX11_signedQuotient_187 : decode cX11_signedQuotient 187 = .ok (.i2l, 1) := by decide +kernel
theorem dX11_signedQuotient_188 : decode cX11_signedQuotient 188 = .ok (.invokevirtual 167, 3) := by decide +kernel
theorem dX11_signedQuotient_191 : decode cX11_signedQuotient 191 = .ok (.istore 5, 2) := by decide +kernel
theorem dX11_signedQuotient_193 : decode cX11_signedQuotient 193 = .ok (.aload_n 0, 1) := by decide +kernel
theorem dX11_signedQuotient_194 : decode cX11_signedQuotient 194 = .ok (.iload_n 1, 1) := by decide +kernel
theorem dX11_signedQuotient_195 : decode cX11_signedQuotient 195 = .ok (.bipush 6, 2) := by decide +kernel
theorem dX11_signedQuotient_197 : decode cX11_signedQuotient 197 = .ok (.iload 4, 2) := by decide +kernel
theorem dX11_signedQuotient_199 : decode cX11_signedQuotient 199 = .ok (.iload 5, 2) := by decide +kernel
theorem dX11_signedQuotient_201 : decode cX11_signedQuotient 201 = .ok (.i2l, 1) := by decide +kernel
theorem dX11_signedQuotient_202 : decode cX11_signedQuotient 202 = .ok (.invokevirtual 167, 3) := by decide +kernel
theorem dX11_signedQuotient_205 : decode cX11_signedQuotient 205 = .ok (.istore 4, 2) := by decide +kernel
theorem dX11_signedQuotient_207 : decode cX11_signedQuotient 207 = .ok (.iload_n 2, 1) := by decide +kernel
theorem dX11_signedQuotient_208 : decode cX11_signedQuotient 208 = .ok (.ifCond .eq 16, 3) := by decide +kernel
theorem dX11_signedQuotient_211 : decode cX11_signedQuotient 211 = .ok (.aload_n 0, 1) := by decide +kernel
theorem dX11_signedQuotient_212 : decode cX11_signedQuotient 212 = .ok (.iload_n 1, 1) := by decide +kernel
theorem dX11_signedQuotient_213 : decode cX11_signedQuotient 213 = .ok (.bipush 7, 2) := by decide +kernel
theorem dX11_signedQuotient_215 : decode cX11_signedQuotient 215 = .ok (.iload 4, 2) := by decide +kernel
theorem dX11_signedQuotient_217 : decode cX11_signedQuotient 217 = .ok (.lconst 0, 1) := by decide +kernel
theorem dX11_signedQuotient_218 : decode cX11_signedQuotient 218 = .ok (.invokevirtual 167, 3) := by decide +kernel
theorem dX11_signedQuotient_221 : decode cX11_signedQuotient 221 = .ok (.goto 5, 3) := by decide +kernel
theorem dX11_signedQuotient_224 : decode cX11_signedQuotient 224 = .ok (.iload 4, 2) := by decide +kernel
theorem dX11_signedQuotient_226 : decode cX11_signedQuotient 226 = .ok (.ireturn, 1) := by decide +kernel
theorem dX11_signedDown_0 : decode cX11_signedDown 0 = .ok (.aload_n 0, 1) := by decide +kernel
theorem dX11_signedDown_1 : decode cX11_signedDown 1 = .ok (.iload_n 1, 1) := by decide +kernel
theorem dX11_signedDown_2 : decode cX11_signedDown 2 = .ok (.iconst 1, 1) := by decide +kernel
theorem dX11_signedDown_3 : decode cX11_signedDown 3 = .ok (.iconst 0, 1) := by decide +kernel
theorem dX11_signedDown_4 : decode cX11_signedDown 4 = .ok (.aload_n 0, 1) := by decide +kernel
theorem dX11_signedDown_5 : decode cX11_signedDown 5 = .ok (.getfield 7, 3) := by decide +kernel
theorem dX11_signedDown_8 : decode cX11_signedDown 8 = .ok (.iload_n 1, 1) := by decide +kernel
theorem dX11_signedDown_9 : decode cX11_signedDown 9 = .ok (.iaload, 1) := by decide +kernel
theorem dX11_signedDown_10 : decode cX11_signedDown 10 = .ok (.iconst 1, 1) := by decide +kernel
theorem dX11_signedDown_11 : decode cX11_signedDown 11 = .ok (.isub, 1) := by decide +kernel
theorem dX11_signedDown_12 : decode cX11_signedDown 12 = .ok (.i2l, 1) := by decide +kernel
theorem dX11_signedDown_13 : decode cX11_signedDown 13 = .ok (.invokevirtual 167, 3) := by decide +kernel
theorem dX11_signedDown_16 : decode cX11_signedDown 16 = .ok (.istore_n 2, 1) := by decide +kernel
theorem dX11_signedDown_17 : decode cX11_signedDown 17 = .ok (.aload_n 0, 1) := by decide +kernel
theorem dX11_signedDown_18 : decode cX11_signedDown 18 = .ok (.iload_n 1, 1) := by decide +kernel
theorem dX11_signedDown_19 : decode cX11_signedDown 19 = .ok (.bipush 8, 2) := by decide +kernel
theorem dX11_signedDown_21 : decode cX11_signedDown 21 = .ok (.iconst 0, 1) := by decide +kernel
theorem dX11_signedDown_22 : decode cX11_signedDown 22 = .ok (.iload_n 2, 1) := by decide +kernel
theorem dX11_signedDown_23 : decode cX11_signedDown 23 = .ok (.i2l, 1) := by decide +kernel
theorem dX11_signedDown_24 : decode cX11_signedDown 24 = .ok (.invokevirtual 167, 3) := by decide +kernel
theorem dX11_signedDown_27 : decode cX11_signedDown 27 = .ok (.istore_n 3, 1) := by decide +kernel
theorem dX11_signedDown_28 : decode cX11_signedDown 28 = .ok (.aload_n 0, 1) := by decide +kernel
theorem dX11_signedDown_29 : decode cX11_signedDown 29 = .ok (.iload_n 1, 1) := by decide +kernel
theorem dX11_signedDown_30 : decode cX11_signedDown 30 = .ok (.iload_n 3, 1) := by decide +kernel
theorem dX11_signedDown_31 : decode cX11_signedDown 31 = .ok (.invokevirtual 204, 3) := by decide +kernel
theorem dX11_signedDown_34 : decode cX11_signedDown 34 = .ok (.istore 4, 2) := by decide +kernel
theorem dX11_signedDown_36 : decode cX11_signedDown 36 = .ok (.aload_n 0, 1) := by decide +kernel
theorem dX11_signedDown_37 : decode cX11_signedDown 37 = .ok (.iload_n 1, 1) := by decide +kernel
theorem dX11_signedDown_38 : decode cX11_signedDown 38 = .ok (.bipush 8, 2) := by decide +kernel
theorem dX11_signedDown_40 : decode cX11_signedDown 40 = .ok (.iload 4, 2) := by decide +kernel
theorem dX11_signedDown_42 : decode cX11_signedDown 42 = .ok (.iload_n 2, 1) := by decide +kernel
theorem dX11_signedDown_43 : decode cX11_signedDown 43 = .ok (.i2l, 1) := by decide +kernel
theorem dX11_signedDown_44 : decode cX11_signedDown 44 = .ok (.invokevirtual 167, 3) := by decide +kernel
theorem dX11_signedDown_47 : decode cX11_signedDown 47 = .ok (.ireturn, 1) := by decide +kernel
theorem dX11_writeSigned_0 : decode cX11_writeSigned 0 = .ok (.aload_n 0, 1) := by decide +kernel
theorem dX11_writeSigned_1 : decode cX11_writeSigned 1 = .ok (.getfield 7, 3) := by decide +kernel
theorem dX11_writeSigned_4 : decode cX11_writeSigned 4 = .ok (.iload_n 1, 1) := by decide +kernel
theorem dX11_writeSigned_5 : decode cX11_writeSigned 5 = .ok (.iaload, 1) := by decide +kernel
theorem dX11_writeSigned_6 : decode cX11_writeSigned 6 = .ok (.istore 5, 2) := by decide +kernel
theorem dX11_writeSigned_8 : decode cX11_writeSigned 8 = .ok (.lload_n 3, 1) := by decide +kernel
theorem dX11_writeSigned_9 : decode cX11_writeSigned 9 = .ok (.iload 5, 2) := by decide +kernel
theorem dX11_writeSigned_11 : decode cX11_writeSigned 11 = .ok (.invokestatic 105, 3) := by decide +kernel
theorem dX11_writeSigned_14 : decode cX11_writeSigned 14 = .ok (.iload 5, 2) := by decide +kernel
theorem dX11_writeSigned_16 : decode cX11_writeSigned 16 = .ok (.invokestatic 128, 3) := by decide +kernel
theorem dX11_writeSigned_19 : decode cX11_writeSigned 19 = .ok (.istore 6, 2) := by decide +kernel
theorem dX11_writeSigned_21 : decode cX11_writeSigned 21 = .ok (.iload_n 2, 1) := by decide +kernel
theorem dX11_writeSigned_22 : decode cX11_writeSigned 22 = .ok (.tableswitch 123 0 4 #[34, 42, 48, 62, 74], 34) := by decide +kernel
theorem dX11_writeSigned_56 : decode cX11_writeSigned 56 = .ok (.aload_n 0, 1) := by decide +kernel
theorem dX11_writeSigned_57 : decode cX11_writeSigned 57 = .ok (.iload_n 1, 1) := by decide +kernel
theorem dX11_writeSigned_58 : decode cX11_writeSigned 58 = .ok (.iload 6, 2) := by decide +kernel
theorem dX11_writeSigned_60 : decode cX11_writeSigned 60 = .ok (.invokevirtual 215, 3) := by decide +kernel
theorem dX11_writeSigned_63 : decode cX11_writeSigned 63 = .ok (.ireturn, 1) := by decide +kernel
theorem dX11_writeSigned_64 : decode cX11_writeSigned 64 = .ok (.aload_n 0, 1) := by decide +kernel
theorem dX11_writeSigned_65 : decode cX11_writeSigned 65 = .ok (.iload_n 1, 1) := by decide +kernel
theorem dX11_writeSigned_66 : decode cX11_writeSigned 66 = .ok (.invokevirtual 219, 3) := by decide +kernel
theorem dX11_writeSigned_69 : decode cX11_writeSigned 69 = .ok (.ireturn, 1) := by decide +kernel
theorem dX11_writeSigned_70 : decode cX11_writeSigned 70 = .ok (.aload_n 0, 1) := by decide +kernel
theorem dX11_writeSigned_71 : decode cX11_writeSigned 71 = .ok (.iload_n 1, 1) := by decide +kernel
theorem dX11_writeSigned_72 : decode cX11_writeSigned 72 = .ok (.aload_n 0, 1) := by decide +kernel
theorem dX11_writeSigned_73 : decode cX11_writeSigned 73 = .ok (.iload_n 1, 1) := by decide +kernel
theorem dX11_writeSigned_74 : decode cX11_writeSigned 74 = .ok (.iload 6, 2) := by decide +kernel
theorem dX11_writeSigned_76 : decode cX11_writeSigned 76 = .ok (.invokevirtual 215, 3) := by decide +kernel
theorem dX11_writeSigned_79 : decode cX11_writeSigned 79 = .ok (.lload_n 3, 1) := by decide +kernel
theorem dX11_writeSigned_80 : decode cX11_writeSigned 80 = .ok (.invokevirtual 208, 3) := by decide +kernel
theorem dX11_writeSigned_83 : decode cX11_writeSigned 83 = .ok (.ireturn, 1) := by decide +kernel
theorem dX11_writeSigned_84 : decode cX11_writeSigned 84 = .ok (.aload_n 0, 1) := by decide +kernel
theorem dX11_writeSigned_85 : decode cX11_writeSigned 85 = .ok (.iload_n 1, 1) := by decide +kernel
theorem dX11_writeSigned_86 : decode cX11_writeSigned 86 = .ok (.aload_n 0, 1) := by decide +kernel
theorem dX11_writeSigned_87 : decode cX11_writeSigned 87 = .ok (.iload_n 1, 1) := by decide +kernel
theorem dX11_writeSigned_88 : decode cX11_writeSigned 88 = .ok (.invokevirtual 219, 3) := by decide +kernel
theorem dX11_writeSigned_91 : decode cX11_writeSigned 91 = .ok (.lload_n 3, 1) := by decide +kernel
theorem dX11_writeSigned_92 : decode cX11_writeSigned 92 = .ok (.invokevirtual 208, 3) := by decide +kernel
theorem dX11_writeSigned_95 : decode cX11_writeSigned 95 = .ok (.ireturn, 1) := by decide +kernel
theorem dX11_writeSigned_96 : decode cX11_writeSigned 96 = .ok (.aload_n 0, 1) := by decide +kernel
theorem dX11_writeSigned_97 : decode cX11_writeSigned 97 = .ok (.iload_n 1, 1) := by decide +kernel
theorem dX11_writeSigned_98 : decode cX11_writeSigned 98 = .ok (.iconst 1, 1) := by decide +kernel
theorem dX11_writeSigned_99 : decode cX11_writeSigned 99 = .ok (.iconst 0, 1) := by decide +kernel
theorem dX11_writeSigned_100 : decode cX11_writeSigned 100 = .ok (.iload 5, 2) := by decide +kernel
theorem dX11_writeSigned_102 : decode cX11_writeSigned 102 = .ok (.iconst 1, 1) := by decide +kernel
theorem dX11_writeSigned_103 : decode cX11_writeSigned 103 = .ok (.isub, 1) := by decide +kernel
theorem dX11_writeSigned_104 : decode cX11_writeSigned 104 = .ok (.i2l, 1) := by decide +kernel
theorem dX11_writeSigned_105 : decode cX11_writeSigned 105 = .ok (.invokevirtual 167, 3) := by decide +kernel
theorem dX11_writeSigned_108 : decode cX11_writeSigned 108 = .ok (.istore 7, 2) := by decide +kernel
theorem dX11_writeSigned_110 : decode cX11_writeSigned 110 = .ok (.aload_n 0, 1) := by decide +kernel
theorem dX11_writeSigned_111 : decode cX11_writeSigned 111 = .ok (.iload_n 1, 1) := by decide +kernel
theorem dX11_writeSigned_112 : decode cX11_writeSigned 112 = .ok (.bipush 8, 2) := by decide +kernel
theorem dX11_writeSigned_114 : decode cX11_writeSigned 114 = .ok (.iconst 0, 1) := by decide +kernel
theorem dX11_writeSigned_115 : decode cX11_writeSigned 115 = .ok (.iload 7, 2) := by decide +kernel
theorem dX11_writeSigned_117 : decode cX11_writeSigned 117 = .ok (.i2l, 1) := by decide +kernel
theorem dX11_writeSigned_118 : decode cX11_writeSigned 118 = .ok (.invokevirtual 167, 3) := by decide +kernel
theorem dX11_writeSigned_121 : decode cX11_writeSigned 121 = .ok (.istore 8, 2) := by decide +kernel
theorem dX11_writeSigned_123 : decode cX11_writeSigned 123 = .ok (.aload_n 0, 1) := by decide +kernel
theorem dX11_writeSigned_124 : decode cX11_writeSigned 124 = .ok (.iload_n 1, 1) := by decide +kernel
theorem dX11_writeSigned_125 : decode cX11_writeSigned 125 = .ok (.bipush 6, 2) := by decide +kernel
theorem dX11_writeSigned_127 : decode cX11_writeSigned 127 = .ok (.iload 8, 2) := by decide +kernel
theorem dX11_writeSigned_129 : decode cX11_writeSigned 129 = .ok (.iload 7, 2) := by decide +kernel
theorem dX11_writeSigned_131 : decode cX11_writeSigned 131 = .ok (.i2l, 1) := by decide +kernel
theorem dX11_writeSigned_132 : decode cX11_writeSigned 132 = .ok (.invokevirtual 167, 3) := by decide +kernel
theorem dX11_writeSigned_135 : decode cX11_writeSigned 135 = .ok (.istore 9, 2) := by decide +kernel
theorem dX11_writeSigned_137 : decode cX11_writeSigned 137 = .ok (.aload_n 0, 1) := by decide +kernel
theorem dX11_writeSigned_138 : decode cX11_writeSigned 138 = .ok (.iload_n 1, 1) := by decide +kernel
theorem dX11_writeSigned_139 : decode cX11_writeSigned 139 = .ok (.iload 9, 2) := by decide +kernel
theorem dX11_writeSigned_141 : decode cX11_writeSigned 141 = .ok (.invokevirtual 212, 3) := by decide +kernel
theorem dX11_writeSigned_144 : decode cX11_writeSigned 144 = .ok (.ireturn, 1) := by decide +kernel
theorem dX11_writeSigned_145 : decode cX11_writeSigned 145 = .ok (.lload_n 3, 1) := by decide +kernel
theorem dX11_writeSigned_146 : decode cX11_writeSigned 146 = .ok (.iload 5, 2) := by decide +kernel
theorem dX11_writeSigned_148 : decode cX11_writeSigned 148 = .ok (.invokestatic 105, 3) := by decide +kernel
theorem dX11_writeSigned_151 : decode cX11_writeSigned 151 = .ok (.iload 5, 2) := by decide +kernel
theorem dX11_writeSigned_153 : decode cX11_writeSigned 153 = .ok (.invokestatic 101, 3) := by decide +kernel
theorem dX11_writeSigned_156 : decode cX11_writeSigned 156 = .ok (.aload_n 0, 1) := by decide +kernel
theorem dX11_writeSigned_157 : decode cX11_writeSigned 157 = .ok (.getfield 174, 3) := by decide +kernel
theorem dX11_writeSigned_160 : decode cX11_writeSigned 160 = .ok (.lshr, 1) := by decide +kernel
theorem dX11_writeSigned_161 : decode cX11_writeSigned 161 = .ok (.lstore 7, 2) := by decide +kernel
theorem dX11_writeSigned_163 : decode cX11_writeSigned 163 = .ok (.aload_n 0, 1) := by decide +kernel
theorem dX11_writeSigned_164 : decode cX11_writeSigned 164 = .ok (.getfield 174, 3) := by decide +kernel
theorem dX11_writeSigned_167 : decode cX11_writeSigned 167 = .ok (.ifCond .gt 10, 3) := by decide +kernel
theorem dX11_writeSigned_170 : decode cX11_writeSigned 170 = .ok (.lload 7, 2) := by decide +kernel
theorem dX11_writeSigned_172 : decode cX11_writeSigned 172 = .ok (.lconst 1, 1) := by decide +kernel
theorem dX11_writeSigned_173 : decode cX11_writeSigned 173 = .ok (.lcmp, 1) := by decide +kernel
theorem dX11_writeSigned_174 : decode cX11_writeSigned 174 = .ok (.ifCond .ne 18, 3) := by decide +kernel
theorem dX11_writeSigned_177 : decode cX11_writeSigned 177 = .ok (.aload_n 0, 1) := by decide +kernel
theorem dX11_writeSigned_178 : decode cX11_writeSigned 178 = .ok (.iload_n 1, 1) := by decide +kernel
theorem dX11_writeSigned_179 : decode cX11_writeSigned 179 = .ok (.iconst 1, 1) := by decide +kernel
theorem dX11_writeSigned_180 : decode cX11_writeSigned 180 = .ok (.iconst 0, 1) := by decide +kernel
theorem dX11_writeSigned_181 : decode cX11_writeSigned 181 = .ok (.aload_n 0, 1) := by decide +kernel
theorem dX11_writeSigned_182 : decode cX11_writeSigned 182 = .ok (.getfield 174, 3) := by decide +kernel
theorem dX11_writeSigned_185 : decode cX11_writeSigned 185 = .ok (.i2l, 1) := by decide +kernel
theorem dX11_writeSigned_186 : decode cX11_writeSigned 186 = .ok (.invokevirtual 167, 3) := by decide +kernel
theorem dX11_writeSigned_189 : decode cX11_writeSigned 189 = .ok (.goto 4, 3) := by decide +kernel
theorem dX11_writeSigned_192 : decode cX11_writeSigned 192 = .ok (.iconst 0, 1) := by decide +kernel
theorem dX11_writeSigned_193 : decode cX11_writeSigned 193 = .ok (.istore 9, 2) := by decide +kernel
theorem dX11_writeSigned_195 : decode cX11_writeSigned 195 = .ok (.lload 7, 2) := by decide +kernel
theorem dX11_writeSigned_197 : decode cX11_writeSigned 197 = .ok (.lconst 1, 1) := by decide +kernel
theorem dX11_writeSigned_198 : decode cX11_writeSigned 198 = .ok (.lcmp, 1) := by decide +kernel
theorem dX11_writeSigned_199 : decode cX11_writeSigned 199 = .ok (.ifCond .ne 8, 3) := by decide +kernel
theorem dX11_writeSigned_202 : decode cX11_writeSigned 202 = .ok (.iload 9, 2) := by decide +kernel
theorem dX11_writeSigned_204 : decode cX11_writeSigned 204 = .ok (.goto 16, 3) := by decide +kernel
theorem dX11_writeSigned_207 : decode cX11_writeSigned 207 = .ok (.aload_n 0, 1) := by decide +kernel
theorem dX11_writeSigned_208 : decode cX11_writeSigned 208 = .ok (.iload_n 1, 1) := by decide +kernel
theorem dX11_writeSigned_209 : decode cX11_writeSigned 209 = .ok (.iconst 4, 1) := by decide +kernel
theorem dX11_writeSigned_210 : decode cX11_writeSigned 210 = .ok (.iload 9, 2) := by decide +kernel
theorem dX11_writeSigned_212 : decode cX11_writeSigned 212 = .ok (.lload 7, 2) := by decide +kernel
theorem dX11_writeSigned_214 : decode cX11_writeSigned 214 = .ok (.invokestatic 198, 3) := by decide +kernel
theorem dX11_writeSigned_217 : decode cX11_writeSigned 217 = .ok (.invokevirtual 167, 3) := by decide +kernel
theorem dX11_writeSigned_220 : decode cX11_writeSigned 220 = .ok (.ireturn, 1) := by decide +kernel
theorem dX11_make_0 : decode cX11_make 0 = .ok (.aload_n 0, 1) := by decide +kernel
theorem dX11_make_1 : decode cX11_make 1 = .ok (.iload_n 1, 1) := by decide +kernel
theorem dX11_make_2 : decode cX11_make 2 = .ok (.iload_n 2, 1) := by decide +kernel
theorem dX11_make_3 : decode cX11_make 3 = .ok (.iload_n 3, 1) := by decide +kernel
theorem dX11_make_4 : decode cX11_make 4 = .ok (.lload 4, 2) := by decide +kernel
theorem dX11_make_6 : decode cX11_make 6 = .ok (.invokevirtual 222, 3) := by decide +kernel
theorem dX11_make_9 : decode cX11_make 9 = .ok (.ifCond .ne 5, 3) := by decide +kernel
theorem dX11_make_12 : decode cX11_make 12 = .ok (.iconst (-1), 1) := by decide +kernel
theorem dX11_make_13 : decode cX11_make 13 = .ok (.ireturn, 1) := by decide +kernel
theorem dX11_make_14 : decode cX11_make 14 = .ok (.aload_n 0, 1) := by decide +kernel
theorem dX11_make_15 : decode cX11_make 15 = .ok (.getfield 118, 3) := by decide +kernel
theorem dX11_make_18 : decode cX11_make 18 = .ok (.bipush 60, 2) := by decide +kernel
theorem dX11_make_20 : decode cX11_make 20 = .ok (.if_icmp .ne 6, 3) := by decide +kernel
theorem dX11_make_23 : decode cX11_make 23 = .ok (.bipush (-2), 2) := by decide +kernel
theorem dX11_make_25 : decode cX11_make 25 = .ok (.ireturn, 1) := by decide +kernel
theorem dX11_make_26 : decode cX11_make 26 = .ok (.aload_n 0, 1) := by decide +kernel
theorem dX11_make_27 : decode cX11_make 27 = .ok (.iload_n 1, 1) := by decide +kernel
theorem dX11_make_28 : decode cX11_make 28 = .ok (.invokevirtual 156, 3) := by decide +kernel
theorem dX11_make_31 : decode cX11_make 31 = .ok (.istore 6, 2) := by decide +kernel
theorem dX11_make_33 : decode cX11_make 33 = .ok (.aload_n 0, 1) := by decide +kernel
theorem dX11_make_34 : decode cX11_make 34 = .ok (.iload_n 1, 1) := by decide +kernel
theorem dX11_make_35 : decode cX11_make 35 = .ok (.iload_n 2, 1) := by decide +kernel
theorem dX11_make_36 : decode cX11_make 36 = .ok (.lload 4, 2) := by decide +kernel
theorem dX11_make_38 : decode cX11_make 38 = .ok (.invokevirtual 226, 3) := by decide +kernel
theorem dX11_make_41 : decode cX11_make 41 = .ok (.iload_n 2, 1) := by decide +kernel
theorem dX11_make_42 : decode cX11_make 42 = .ok (.ifCond .ne 13, 3) := by decide +kernel
theorem dX11_make_45 : decode cX11_make 45 = .ok (.aload_n 0, 1) := by decide +kernel
theorem dX11_make_46 : decode cX11_make 46 = .ok (.iload 6, 2) := by decide +kernel
theorem dX11_make_48 : decode cX11_make 48 = .ok (.iload_n 3, 1) := by decide +kernel
theorem dX11_make_49 : decode cX11_make 49 = .ok (.invokevirtual 230, 3) := by decide +kernel
theorem dX11_make_52 : decode cX11_make 52 = .ok (.goto 12, 3) := by decide +kernel
theorem dX11_make_55 : decode cX11_make 55 = .ok (.aload_n 0, 1) := by decide +kernel
theorem dX11_make_56 : decode cX11_make 56 = .ok (.iload 6, 2) := by decide +kernel
theorem dX11_make_58 : decode cX11_make 58 = .ok (.iload_n 3, 1) := by decide +kernel
theorem dX11_make_59 : decode cX11_make 59 = .ok (.lload 4, 2) := by decide +kernel
theorem dX11_make_61 : decode cX11_make 61 = .ok (.invokevirtual 233, 3) := by decide +kernel
theorem dX11_make_64 : decode cX11_make 64 = .ok (.istore 7, 2) := by decide +kernel
theorem dX11_make_66 : decode cX11_make 66 = .ok (.aload_n 0, 1) := by decide +kernel
theorem dX11_make_67 : decode cX11_make 67 = .ok (.iconst 1, 1) := by decide +kernel
theorem dX11_make_68 : decode cX11_make 68 = .ok (.iload 6, 2) := by decide +kernel
theorem dX11_make_70 : decode cX11_make 70 = .ok (.iconst 0, 1) := by decide +kernel
theorem dX11_make_71 : decode cX11_make 71 = .ok (.lconst 0, 1) := by decide +kernel
theorem dX11_make_72 : decode cX11_make 72 = .ok (.invokevirtual 160, 3) := by decide +kernel
theorem dX11_make_75 : decode cX11_make 75 = .ok (.iload 6, 2) := by decide +kernel
theorem dX11_make_77 : decode cX11_make 77 = .ok (.ireturn, 1) := by decide +kernel
theorem dX11_steps_0 : decode cX11_steps 0 = .ok (.aload_n 0, 1) := by decide +kernel
theorem dX11_steps_1 : decode cX11_steps 1 = .ok (.iload_n 1, 1) := by decide +kernel
theorem dX11_steps_2 : decode cX11_steps 2 = .ok (.invokevirtual 164, 3) := by decide +kernel
theorem dX11_steps_5 : decode cX11_steps 5 = .ok (.ifCond .eq 12, 3) := by decide +kernel
theorem dX11_steps_8 : decode cX11_steps 8 = .ok (.aload_n 0, 1) := by decide +kernel
theorem dX11_steps_9 : decode cX11_steps 9 = .ok (.getfield 13, 3) := by decide +kernel
theorem dX11_steps_12 : decode cX11_steps 12 = .ok (.iload_n 1, 1) := by decide +kernel
theorem dX11_steps_13 : decode cX11_steps 13 = .ok (.iaload, 1) := by decide +kernel
theorem dX11_steps_14 : decode cX11_steps 14 = .ok (.goto 4, 3) := by decide +kernel
theorem dX11_steps_17 : decode cX11_steps 17 = .ok (.iconst (-1), 1) := by decide +kernel
theorem dX11_steps_18 : decode cX11_steps 18 = .ok (.ireturn, 1) := by decide +kernel
theorem dX11_told_0 : decode cX11_told 0 = .ok (.aload_n 0, 1) := by decide +kernel
theorem dX11_told_1 : decode cX11_told 1 = .ok (.iload_n 1, 1) := by decide +kernel
theorem dX11_told_2 : decode cX11_told 2 = .ok (.invokevirtual 164, 3) := by decide +kernel
theorem dX11_told_5 : decode cX11_told 5 = .ok (.ifCond .eq 26, 3) := by decide +kernel
theorem dX11_told_8 : decode cX11_told 8 = .ok (.iload_n 2, 1) := by decide +kernel
theorem dX11_told_9 : decode cX11_told 9 = .ok (.ifCond .lt 22, 3) := by decide +kernel
theorem dX11_told_12 : decode cX11_told 12 = .ok (.iload_n 2, 1) := by decide +kernel
theorem dX11_told_13 : decode cX11_told 13 = .ok (.aload_n 0, 1) := by decide +kernel
theorem dX11_told_14 : decode cX11_told 14 = .ok (.getfield 13, 3) := by decide +kernel
theorem dX11_told_17 : decode cX11_told 17 = .ok (.iload_n 1, 1) := by decide +kernel
theorem dX11_told_18 : decode cX11_told 18 = .ok (.iaload, 1) := by decide +kernel
theorem dX11_told_19 : decode cX11_told 19 = .ok (.if_icmp .ge 12, 3) := by decide +kernel
theorem dX11_told_22 : decode cX11_told 22 = .ok (.iload_n 3, 1) := by decide +kernel
theorem dX11_told_23 : decode cX11_told 23 = .ok (.ifCond .lt 8, 3) := by decide +kernel
theorem dX11_told_26 : decode cX11_told 26 = .ok (.iload_n 3, 1) := by decide +kernel
theorem dX11_told_27 : decode cX11_told 27 = .ok (.iconst 2, 1) := by decide +kernel
theorem dX11_told_28 : decode cX11_told 28 = .ok (.if_icmp .le 7, 3) := by decide +kernel
theorem dX11_told_31 : decode cX11_told 31 = .ok (.ldc2_w 202, 3) := by decide +kernel
theorem dX11_told_34 : decode cX11_told 34 = .ok (.lreturn, 1) := by decide +kernel
theorem dX11_told_35 : decode cX11_told 35 = .ok (.bipush 12, 2) := by decide +kernel
theorem dX11_told_37 : decode cX11_told 37 = .ok (.iload_n 1, 1) := by decide +kernel
theorem dX11_told_38 : decode cX11_told 38 = .ok (.imul, 1) := by decide +kernel
theorem dX11_told_39 : decode cX11_told 39 = .ok (.iload_n 2, 1) := by decide +kernel
theorem dX11_told_40 : decode cX11_told 40 = .ok (.iadd, 1) := by decide +kernel
theorem dX11_told_41 : decode cX11_told 41 = .ok (.istore 4, 2) := by decide +kernel
theorem dX11_told_43 : decode cX11_told 43 = .ok (.iload_n 3, 1) := by decide +kernel
theorem dX11_told_44 : decode cX11_told 44 = .ok (.ifCond .ne 14, 3) := by decide +kernel
theorem dX11_told_47 : decode cX11_told 47 = .ok (.aload_n 0, 1) := by decide +kernel
theorem dX11_told_48 : decode cX11_told 48 = .ok (.getfield 16, 3) := by decide +kernel
theorem dX11_told_51 : decode cX11_told 51 = .ok (.iload 4, 2) := by decide +kernel
theorem dX11_told_53 : decode cX11_told 53 = .ok (.iaload, 1) := by decide +kernel
theorem dX11_told_54 : decode cX11_told 54 = .ok (.i2l, 1) := by decide +kernel
theorem dX11_told_55 : decode cX11_told 55 = .ok (.goto 26, 3) := by decide +kernel
theorem dX11_told_58 : decode cX11_told 58 = .ok (.iload_n 3, 1) := by decide +kernel
theorem dX11_told_59 : decode cX11_told 59 = .ok (.iconst 1, 1) := by decide +kernel
theorem dX11_told_60 : decode cX11_told 60 = .ok (.if_icmp .ne 14, 3) := by decide +kernel
theorem dX11_told_63 : decode cX11_told 63 = .ok (.aload_n 0, 1) := by decide +kernel
theorem dX11_told_64 : decode cX11_told 64 = .ok (.getfield 19, 3) := by decide +kernel
theorem dX11_told_67 : decode cX11_told 67 = .ok (.iload 4, 2) := by decide +kernel
theorem dX11_told_69 : decode cX11_told 69 = .ok (.iaload, 1) := by decide +kernel
theorem dX11_told_70 : decode cX11_told 70 = .ok (.i2l, 1) := by decide +kernel
theorem dX11_told_71 : decode cX11_told 71 = .ok (.goto 10, 3) := by decide +kernel
theorem dX11_told_74 : decode cX11_told 74 = .ok (.aload_n 0, 1) := by decide +kernel
theorem dX11_told_75 : decode cX11_told 75 = .ok (.getfield 22, 3) := by decide +kernel
theorem dX11_told_78 : decode cX11_told 78 = .ok (.iload 4, 2) := by decide +kernel
theorem dX11_told_80 : decode cX11_told 80 = .ok (.laload, 1) := by decide +kernel
theorem dX11_told_81 : decode cX11_told 81 = .ok (.lreturn, 1) := by decide +kernel
theorem dX11_width_0 : decode cX11_width 0 = .ok (.aload_n 0, 1) := by decide +kernel
theorem dX11_width_1 : decode cX11_width 1 = .ok (.iload_n 1, 1) := by decide +kernel
theorem dX11_width_2 : decode cX11_width 2 = .ok (.invokevirtual 164, 3) := by decide +kernel
theorem dX11_width_5 : decode cX11_width 5 = .ok (.ifCond .eq 12, 3) := by decide +kernel
theorem dX11_width_8 : decode cX11_width 8 = .ok (.aload_n 0, 1) := by decide +kernel
theorem dX11_width_9 : decode cX11_width 9 = .ok (.getfield 7, 3) := by decide +kernel
theorem dX11_width_12 : decode cX11_width 12 = .ok (.iload_n 1, 1) := by decide +kernel
theorem dX11_width_13 : decode cX11_width 13 = .ok (.iaload, 1) := by decide +kernel
theorem dX11_width_14 : decode cX11_width 14 = .ok (.goto 4, 3) := by decide +kernel
theorem dX11_width_17 : decode cX11_width 17 = .ok (.iconst (-1), 1) := by decide +kernel
theorem dX11_width_18 : decode cX11_width 18 = .ok (.ireturn, 1) := by decide +kernel
theorem dX11_cost_0 : decode cX11_cost 0 = .ok (.aload_n 0, 1) := by decide +kernel
theorem dX11_cost_1 : decode cX11_cost 1 = .ok (.iload_n 1, 1) := by decide +kernel
theorem dX11_cost_2 : decode cX11_cost 2 = .ok (.invokevirtual 164, 3) := by decide +kernel
theorem dX11_cost_5 : decode cX11_cost 5 = .ok (.ifCond .ne 5, 3) := by decide +kernel
theorem dX11_cost_8 : decode cX11_cost 8 = .ok (.iconst (-1), 1) := by decide +kernel
theorem dX11_cost_9 : decode cX11_cost 9 = .ok (.ireturn, 1) := by decide +kernel
theorem dX11_cost_10 : decode cX11_cost 10 = .ok (.iconst 0, 1) := by decide +kernel
theorem dX11_cost_11 : decode cX11_cost 11 = .ok (.istore_n 2, 1) := by decide +kernel
theorem dX11_cost_12 : decode cX11_cost 12 = .ok (.iconst 0, 1) := by decide +kernel
theorem dX11_cost_13 : decode cX11_cost 13 = .ok (.istore_n 3, 1) := by decide +kernel
theorem dX11_cost_14 : decode cX11_cost 14 = .ok (.iload_n 3, 1) := by decide +kernel
theorem dX11_cost_15 : decode cX11_cost 15 = .ok (.aload_n 0, 1) := by decide +kernel
theorem dX11_cost_16 : decode cX11_cost 16 = .ok (.getfield 13, 3) := by decide +kernel
theorem dX11_cost_19 : decode cX11_cost 19 = .ok (.iload_n 1, 1) := by decide +kernel
theorem dX11_cost_20 : decode cX11_cost 20 = .ok (.iaload, 1) := by decide +kernel
theorem dX11_cost_21 : decode cX11_cost 21 = .ok (.if_icmp .ge 28, 3) := by decide +kernel
theorem dX11_cost_24 : decode cX11_cost 24 = .ok (.iload_n 2, 1) := by decide +kernel
theorem dX11_cost_25 : decode cX11_cost 25 = .ok (.aload_n 0, 1) := by decide +kernel
theorem dX11_cost_26 : decode cX11_cost 26 = .ok (.getfield 26, 3) := by decide +kernel
theorem dX11_cost_29 : decode cX11_cost 29 = .ok (.aload_n 0, 1) := by decide +kernel
theorem dX11_cost_30 : decode cX11_cost 30 = .ok (.getfield 16, 3) := by decide +kernel
theorem dX11_cost_33 : decode cX11_cost 33 = .ok (.bipush 12, 2) := by decide +kernel
theorem dX11_cost_35 : decode cX11_cost 35 = .ok (.iload_n 1, 1) := by decide +kernel
theorem dX11_cost_36 : decode cX11_cost 36 = .ok (.imul, 1) := by decide +kernel
theorem dX11_cost_37 : decode cX11_cost 37 = .ok (.iload_n 3, 1) := by decide +kernel
theorem dX11_cost_38 : decode cX11_cost 38 = .ok (.iadd, 1) := by decide +kernel
theorem dX11_cost_39 : decode cX11_cost 39 = .ok (.iaload, 1) := by decide +kernel
theorem dX11_cost_40 : decode cX11_cost 40 = .ok (.iaload, 1) := by decide +kernel
theorem dX11_cost_41 : decode cX11_cost 41 = .ok (.iadd, 1) := by decide +kernel
theorem dX11_cost_42 : decode cX11_cost 42 = .ok (.istore_n 2, 1) := by decide +kernel
theorem dX11_cost_43 : decode cX11_cost 43 = .ok (.iinc 3 1, 3) := by decide +kernel
theorem dX11_cost_46 : decode cX11_cost 46 = .ok (.goto (-32), 3) := by decide +kernel
theorem dX11_cost_49 : decode cX11_cost 49 = .ok (.iload_n 2, 1) := by decide +kernel
theorem dX11_cost_50 : decode cX11_cost 50 = .ok (.ireturn, 1) := by decide +kernel
theorem dX11_price_0 : decode cX11_price 0 = .ok (.iload_n 1, 1) := by decide +kernel
theorem dX11_price_1 : decode cX11_price 1 = .ok (.ifCond .lt 20, 3) := by decide +kernel
theorem dX11_price_4 : decode cX11_price 4 = .ok (.iload_n 1, 1) := by decide +kernel
theorem dX11_price_5 : decode cX11_price 5 = .ok (.bipush 12, 2) := by decide +kernel
theorem dX11_price_7 : decode cX11_price 7 = .ok (.if_icmp .gt 14, 3) := by decide +kernel
theorem dX11_price_10 : decode cX11_price 10 = .ok (.iload_n 2, 1) := by decide +kernel
theorem dX11_price_11 : decode cX11_price 11 = .ok (.iconst 1, 1) := by decide +kernel
theorem dX11_price_12 : decode cX11_price 12 = .ok (.if_icmp .lt 9, 3) := by decide +kernel
theorem dX11_price_15 : decode cX11_price 15 = .ok (.iload_n 2, 1) := by decide +kernel
theorem dX11_price_16 : decode cX11_price 16 = .ok (.bipush 50, 2) := by decide +kernel
theorem dX11_price_18 : decode cX11_price 18 = .ok (.if_icmp .le 5, 3) := by decide +kernel
theorem dX11_price_21 : decode cX11_price 21 = .ok (.iconst (-1), 1) := by decide +kernel
theorem dX11_price_22 : decode cX11_price 22 = .ok (.ireturn, 1) := by decide +kernel
theorem dX11_price_23 : decode cX11_price 23 = .ok (.aload_n 0, 1) := by decide +kernel
theorem dX11_price_24 : decode cX11_price 24 = .ok (.getfield 26, 3) := by decide +kernel
theorem dX11_price_27 : decode cX11_price 27 = .ok (.iload_n 1, 1) := by decide +kernel
theorem dX11_price_28 : decode cX11_price 28 = .ok (.iaload, 1) := by decide +kernel
theorem dX11_price_29 : decode cX11_price 29 = .ok (.istore_n 3, 1) := by decide +kernel
theorem dX11_price_30 : decode cX11_price 30 = .ok (.aload_n 0, 1) := by decide +kernel
theorem dX11_price_31 : decode cX11_price 31 = .ok (.getfield 26, 3) := by decide +kernel
theorem dX11_price_34 : decode cX11_price 34 = .ok (.iload_n 1, 1) := by decide +kernel
theorem dX11_price_35 : decode cX11_price 35 = .ok (.iload_n 2, 1) := by decide +kernel
theorem dX11_price_36 : decode cX11_price 36 = .ok (.iastore, 1) := by decide +kernel
theorem dX11_price_37 : decode cX11_price 37 = .ok (.aload_n 0, 1) := by decide +kernel
theorem dX11_price_38 : decode cX11_price 38 = .ok (.iconst 3, 1) := by decide +kernel
theorem dX11_price_39 : decode cX11_price 39 = .ok (.iload_n 1, 1) := by decide +kernel
theorem dX11_price_40 : decode cX11_price 40 = .ok (.iconst 0, 1) := by decide +kernel
theorem dX11_price_41 : decode cX11_price 41 = .ok (.iload_n 3, 1) := by decide +kernel
theorem dX11_price_42 : decode cX11_price 42 = .ok (.i2l, 1) := by decide +kernel
theorem dX11_price_43 : decode cX11_price 43 = .ok (.invokevirtual 160, 3) := by decide +kernel
theorem dX11_price_46 : decode cX11_price 46 = .ok (.iload_n 3, 1) := by decide +kernel
theorem dX11_price_47 : decode cX11_price 47 = .ok (.ireturn, 1) := by decide +kernel
theorem dX11_run_0 : decode cX11_run 0 = .ok (.aload_n 0, 1) := by decide +kernel
theorem dX11_run_1 : decode cX11_run 1 = .ok (.iload_n 1, 1) := by decide +kernel
theorem dX11_run_2 : decode cX11_run 2 = .ok (.invokevirtual 164, 3) := by decide +kernel
theorem dX11_run_5 : decode cX11_run 5 = .ok (.ifCond .ne 5, 3) := by decide +kernel
theorem dX11_run_8 : decode cX11_run 8 = .ok (.lconst 0, 1) := by decide +kernel
theorem dX11_run_9 : decode cX11_run 9 = .ok (.lreturn, 1) := by decide +kernel
theorem dX11_run_10 : decode cX11_run 10 = .ok (.aload_n 0, 1) := by decide +kernel
theorem dX11_run_11 : decode cX11_run 11 = .ok (.iload_n 1, 1) := by decide +kernel
theorem dX11_run_12 : decode cX11_run 12 = .ok (.lload_n 2, 1) := by decide +kernel
theorem dX11_run_13 : decode cX11_run 13 = .ok (.aload_n 0, 1) := by decide +kernel
theorem dX11_run_14 : decode cX11_run 14 = .ok (.getfield 13, 3) := by decide +kernel
theorem dX11_run_17 : decode cX11_run 17 = .ok (.iload_n 1, 1) := by decide +kernel
theorem dX11_run_18 : decode cX11_run 18 = .ok (.iaload, 1) := by decide +kernel
theorem dX11_run_19 : decode cX11_run 19 = .ok (.invokevirtual 236, 3) := by decide +kernel
theorem dX11_run_22 : decode cX11_run 22 = .ok (.aload_n 0, 1) := by decide +kernel
theorem dX11_run_23 : decode cX11_run 23 = .ok (.getfield 29, 3) := by decide +kernel
theorem dX11_run_26 : decode cX11_run 26 = .ok (.aload_n 0, 1) := by decide +kernel
theorem dX11_run_27 : decode cX11_run 27 = .ok (.getfield 13, 3) := by decide +kernel
theorem dX11_run_30 : decode cX11_run 30 = .ok (.iload_n 1, 1) := by decide +kernel
theorem dX11_run_31 : decode cX11_run 31 = .ok (.iaload, 1) := by decide +kernel
theorem dX11_run_32 : decode cX11_run 32 = .ok (.laload, 1) := by decide +kernel
theorem dX11_run_33 : decode cX11_run 33 = .ok (.lreturn, 1) := by decide +kernel
theorem dX11_end_0 : decode cX11_end 0 = .ok (.aload_n 0, 1) := by decide +kernel
theorem dX11_end_1 : decode cX11_end 1 = .ok (.iload_n 1, 1) := by decide +kernel
theorem dX11_end_2 : decode cX11_end 2 = .ok (.invokevirtual 164, 3) := by decide +kernel
theorem dX11_end_5 : decode cX11_end 5 = .ok (.ifCond .eq 19, 3) := by decide +kernel
theorem dX11_end_8 : decode cX11_end 8 = .ok (.iload 4, 2) := by decide +kernel
theorem dX11_end_10 : decode cX11_end 10 = .ok (.ifCond .lt 14, 3) := by decide +kernel
theorem dX11_end_13 : decode cX11_end 13 = .ok (.iload 4, 2) := by decide +kernel
theorem dX11_end_15 : decode cX11_end 15 = .ok (.aload_n 0, 1) := by decide +kernel
theorem dX11_end_16 : decode cX11_end 16 = .ok (.getfield 13, 3) := by decide +kernel
theorem dX11_end_19 : decode cX11_end 19 = .ok (.iload_n 1, 1) := by decide +kernel
theorem dX11_end_20 : decode cX11_end 20 = .ok (.iaload, 1) := by decide +kernel
theorem dX11_end_21 : decode cX11_end 21 = .ok (.if_icmp .lt 5, 3) := by decide +kernel
theorem dX11_end_24 : decode cX11_end 24 = .ok (.lconst 0, 1) := by decide +kernel
theorem dX11_end_25 : decode cX11_end 25 = .ok (.lreturn, 1) := by decide +kernel
theorem dX11_end_26 : decode cX11_end 26 = .ok (.aload_n 0, 1) := by decide +kernel
theorem dX11_end_27 : decode cX11_end 27 = .ok (.iload_n 1, 1) := by decide +kernel
theorem dX11_end_28 : decode cX11_end 28 = .ok (.lload_n 2, 1) := by decide +kernel
theorem dX11_end_29 : decode cX11_end 29 = .ok (.iload 4, 2) := by decide +kernel
theorem dX11_end_31 : decode cX11_end 31 = .ok (.iconst 1, 1) := by decide +kernel
theorem dX11_end_32 : decode cX11_end 32 = .ok (.iadd, 1) := by decide +kernel
theorem dX11_end_33 : decode cX11_end 33 = .ok (.invokevirtual 236, 3) := by decide +kernel
theorem dX11_end_36 : decode cX11_end 36 = .ok (.aload_n 0, 1) := by decide +kernel
theorem dX11_end_37 : decode cX11_end 37 = .ok (.getfield 29, 3) := by decide +kernel
theorem dX11_end_40 : decode cX11_end 40 = .ok (.iload 4, 2) := by decide +kernel
theorem dX11_end_42 : decode cX11_end 42 = .ok (.iconst 1, 1) := by decide +kernel
theorem dX11_end_43 : decode cX11_end 43 = .ok (.iadd, 1) := by decide +kernel
theorem dX11_end_44 : decode cX11_end 44 = .ok (.laload, 1) := by decide +kernel
theorem dX11_end_45 : decode cX11_end 45 = .ok (.lreturn, 1) := by decide +kernel
theorem dX11_signedDivided_0 : decode cX11_signedDivided 0 = .ok (.lload_n 3, 1) := by decide +kernel
theorem dX11_signedDivided_1 : decode cX11_signedDivided 1 = .ok (.ldc2_w 202, 3) := by decide +kernel
theorem dX11_signedDivided_4 : decode cX11_signedDivided 4 = .ok (.lcmp, 1) := by decide +kernel
theorem dX11_signedDivided_5 : decode cX11_signedDivided 5 = .ok (.ifCond .ne 8, 3) := by decide +kernel
theorem dX11_signedDivided_8 : decode cX11_signedDivided 8 = .ok (.lload_n 1, 1) := by decide +kernel
theorem dX11_signedDivided_9 : decode cX11_signedDivided 9 = .ok (.lneg, 1) := by decide +kernel
theorem dX11_signedDivided_10 : decode cX11_signedDivided 10 = .ok (.goto 6, 3) := by decide +kernel
theorem dX11_signedDivided_13 : decode cX11_signedDivided 13 = .ok (.lload_n 1, 1) := by decide +kernel
theorem dX11_signedDivided_14 : decode cX11_signedDivided 14 = .ok (.lload_n 3, 1) := by decide +kernel
theorem dX11_signedDivided_15 : decode cX11_signedDivided 15 = .ok (.ldiv, 1) := by decide +kernel
theorem dX11_signedDivided_16 : decode cX11_signedDivided 16 = .ok (.lreturn, 1) := by decide +kernel
theorem dX11_asked_0 : decode cX11_asked 0 = .ok (.iload_n 2, 1) := by decide +kernel
theorem dX11_asked_1 : decode cX11_asked 1 = .ok (.ifCond .ne 22, 3) := by decide +kernel
theorem dX11_asked_4 : decode cX11_asked 4 = .ok (.aload_n 0, 1) := by decide +kernel
theorem dX11_asked_5 : decode cX11_asked 5 = .ok (.lload 6, 2) := by decide +kernel
theorem dX11_asked_7 : decode cX11_asked 7 = .ok (.lload 4, 2) := by decide +kernel
theorem dX11_asked_9 : decode cX11_asked 9 = .ok (.invokevirtual 180, 3) := by decide +kernel
theorem dX11_asked_12 : decode cX11_asked 12 = .ok (.lstore 8, 2) := by decide +kernel
theorem dX11_asked_14 : decode cX11_asked 14 = .ok (.aload_n 0, 1) := by decide +kernel
theorem dX11_asked_15 : decode cX11_asked 15 = .ok (.getfield 112, 3) := by decide +kernel
theorem dX11_asked_18 : decode cX11_asked 18 = .ok (.lstore 10, 2) := by decide +kernel
theorem dX11_asked_20 : decode cX11_asked 20 = .ok (.goto 69, 3) := by decide +kernel
theorem dX11_asked_23 : decode cX11_asked 23 = .ok (.lload 6, 2) := by decide +kernel
theorem dX11_asked_25 : decode cX11_asked 25 = .ok (.iload_n 1, 1) := by decide +kernel
theorem dX11_asked_26 : decode cX11_asked 26 = .ok (.invokestatic 101, 3) := by decide +kernel
theorem dX11_asked_29 : decode cX11_asked 29 = .ok (.lstore 12, 2) := by decide +kernel
theorem dX11_asked_31 : decode cX11_asked 31 = .ok (.lload 4, 2) := by decide +kernel
theorem dX11_asked_33 : decode cX11_asked 33 = .ok (.iload_n 1, 1) := by decide +kernel
theorem dX11_asked_34 : decode cX11_asked 34 = .ok (.invokestatic 101, 3) := by decide +kernel
theorem dX11_asked_37 : decode cX11_asked 37 = .ok (.lstore 14, 2) := by decide +kernel
theorem dX11_asked_39 : decode cX11_asked 39 = .ok (.aload_n 0, 1) := by decide +kernel
theorem dX11_asked_40 : decode cX11_asked 40 = .ok (.lload 12, 2) := by decide +kernel
theorem dX11_asked_42 : decode cX11_asked 42 = .ok (.lload 14, 2) := by decide +kernel
theorem dX11_asked_44 : decode cX11_asked 44 = .ok (.invokevirtual 240, 3) := by decide +kernel
theorem dX11_asked_47 : decode cX11_asked 47 = .ok (.lstore 8, 2) := by decide +kernel
theorem dX11_asked_49 : decode cX11_asked 49 = .ok (.lload 12, 2) := by decide +kernel
theorem dX11_asked_51 : decode cX11_asked 51 = .ok (.lload 8, 2) := by decide +kernel
theorem dX11_asked_53 : decode cX11_asked 53 = .ok (.lload 14, 2) := by decide +kernel
theorem dX11_asked_55 : decode cX11_asked 55 = .ok (.lmul, 1) := by decide +kernel
theorem dX11_asked_56 : decode cX11_asked 56 = .ok (.lsub, 1) := by decide +kernel
theorem dX11_asked_57 : decode cX11_asked 57 = .ok (.lstore 10, 2) := by decide +kernel
theorem dX11_asked_59 : decode cX11_asked 59 = .ok (.iload_n 3, 1) := by decide +kernel
theorem dX11_asked_60 : decode cX11_asked 60 = .ok (.iconst 1, 1) := by decide +kernel
theorem dX11_asked_61 : decode cX11_asked 61 = .ok (.if_icmp .eq 8, 3) := by decide +kernel
theorem dX11_asked_64 : decode cX11_asked 64 = .ok (.iload_n 3, 1) := by decide +kernel
theorem dX11_asked_65 : decode cX11_asked 65 = .ok (.iconst 3, 1) := by decide +kernel
theorem dX11_asked_66 : decode cX11_asked 66 = .ok (.if_icmp .ne 23, 3) := by decide +kernel
theorem dX11_asked_69 : decode cX11_asked 69 = .ok (.lload 10, 2) := by decide +kernel
theorem dX11_asked_71 : decode cX11_asked 71 = .ok (.lconst 0, 1) := by decide +kernel
theorem dX11_asked_72 : decode cX11_asked 72 = .ok (.lcmp, 1) := by decide +kernel
theorem dX11_asked_73 : decode cX11_asked 73 = .ok (.ifCond .ge 16, 3) := by decide +kernel
theorem dX11_asked_76 : decode cX11_asked 76 = .ok (.lload 8, 2) := by decide +kernel
theorem dX11_asked_78 : decode cX11_asked 78 = .ok (.lconst 1, 1) := by decide +kernel
theorem dX11_asked_79 : decode cX11_asked 79 = .ok (.lsub, 1) := by decide +kernel
theorem dX11_asked_80 : decode cX11_asked 80 = .ok (.lstore 8, 2) := by decide +kernel
theorem dX11_asked_82 : decode cX11_asked 82 = .ok (.lload 10, 2) := by decide +kernel
theorem dX11_asked_84 : decode cX11_asked 84 = .ok (.lload 14, 2) := by decide +kernel
theorem dX11_asked_86 : decode cX11_asked 86 = .ok (.ladd, 1) := by decide +kernel
theorem dX11_asked_87 : decode cX11_asked 87 = .ok (.lstore 10, 2) := by decide +kernel
theorem dX11_asked_89 : decode cX11_asked 89 = .ok (.aload_n 0, 1) := by decide +kernel
theorem dX11_asked_90 : decode cX11_asked 90 = .ok (.lload 10, 2) := by decide +kernel
theorem dX11_asked_92 : decode cX11_asked 92 = .ok (.iload_n 1, 1) := by decide +kernel
theorem dX11_asked_93 : decode cX11_asked 93 = .ok (.invokestatic 105, 3) := by decide +kernel
theorem dX11_asked_96 : decode cX11_asked 96 = .ok (.lconst 0, 1) := by decide +kernel
theorem dX11_asked_97 : decode cX11_asked 97 = .ok (.lcmp, 1) := by decide +kernel
theorem dX11_asked_98 : decode cX11_asked 98 = .ok (.ifCond .eq 7, 3) := by decide +kernel
theorem dX11_asked_101 : decode cX11_asked 101 = .ok (.iconst 1, 1) := by decide +kernel
theorem dX11_asked_102 : decode cX11_asked 102 = .ok (.goto 4, 3) := by decide +kernel
theorem dX11_asked_105 : decode cX11_asked 105 = .ok (.iconst 0, 1) := by decide +kernel
theorem dX11_asked_106 : decode cX11_asked 106 = .ok (.putfield 243, 3) := by decide +kernel
theorem dX11_asked_109 : decode cX11_asked 109 = .ok (.iload_n 3, 1) := by decide +kernel
theorem dX11_asked_110 : decode cX11_asked 110 = .ok (.iconst 2, 1) := by decide +kernel
theorem dX11_asked_111 : decode cX11_asked 111 = .ok (.if_icmp .eq 8, 3) := by decide +kernel
theorem dX11_asked_114 : decode cX11_asked 114 = .ok (.iload_n 3, 1) := by decide +kernel
theorem dX11_asked_115 : decode cX11_asked 115 = .ok (.iconst 3, 1) := by decide +kernel
theorem dX11_asked_116 : decode cX11_asked 116 = .ok (.if_icmp .ne 8, 3) := by decide +kernel
theorem dX11_asked_119 : decode cX11_asked 119 = .ok (.lload 10, 2) := by decide +kernel
theorem dX11_asked_121 : decode cX11_asked 121 = .ok (.goto 25, 3) := by decide +kernel
theorem dX11_asked_124 : decode cX11_asked 124 = .ok (.iload_n 3, 1) := by decide +kernel
theorem dX11_asked_125 : decode cX11_asked 125 = .ok (.iconst 4, 1) := by decide +kernel
theorem dX11_asked_126 : decode cX11_asked 126 = .ok (.if_icmp .ne 18, 3) := by decide +kernel
theorem dX11_asked_129 : decode cX11_asked 129 = .ok (.aload_n 0, 1) := by decide +kernel
theorem dX11_asked_130 : decode cX11_asked 130 = .ok (.getfield 243, 3) := by decide +kernel
theorem dX11_asked_133 : decode cX11_asked 133 = .ok (.ifCond .eq 7, 3) := by decide +kernel
theorem dX11_asked_136 : decode cX11_asked 136 = .ok (.lconst 0, 1) := by decide +kernel
theorem dX11_asked_137 : decode cX11_asked 137 = .ok (.goto 9, 3) := by decide +kernel
theorem dX11_asked_140 : decode cX11_asked 140 = .ok (.lconst 1, 1) := by decide +kernel
theorem dX11_asked_141 : decode cX11_asked 141 = .ok (.goto 5, 3) := by decide +kernel
theorem dX11_asked_144 : decode cX11_asked 144 = .ok (.lload 8, 2) := by decide +kernel
theorem dX11_asked_146 : decode cX11_asked 146 = .ok (.lstore 12, 2) := by decide +kernel
theorem dX11_asked_148 : decode cX11_asked 148 = .ok (.lload 12, 2) := by decide +kernel
theorem dX11_asked_150 : decode cX11_asked 150 = .ok (.iload_n 1, 1) := by decide +kernel
theorem dX11_asked_151 : decode cX11_asked 151 = .ok (.invokestatic 105, 3) := by decide +kernel
theorem dX11_asked_154 : decode cX11_asked 154 = .ok (.lreturn, 1) := by decide +kernel
theorem dX11_fails_0 : decode cX11_fails 0 = .ok (.aload_n 0, 1) := by decide +kernel
theorem dX11_fails_1 : decode cX11_fails 1 = .ok (.iload_n 1, 1) := by decide +kernel
theorem dX11_fails_2 : decode cX11_fails 2 = .ok (.invokevirtual 164, 3) := by decide +kernel
theorem dX11_fails_5 : decode cX11_fails 5 = .ok (.ifCond .eq 31, 3) := by decide +kernel
theorem dX11_fails_8 : decode cX11_fails 8 = .ok (.aload_n 0, 1) := by decide +kernel
theorem dX11_fails_9 : decode cX11_fails 9 = .ok (.getfield 7, 3) := by decide +kernel
theorem dX11_fails_12 : decode cX11_fails 12 = .ok (.iload_n 1, 1) := by decide +kernel
theorem dX11_fails_13 : decode cX11_fails 13 = .ok (.iaload, 1) := by decide +kernel
theorem dX11_fails_14 : decode cX11_fails 14 = .ok (.bipush 16, 2) := by decide +kernel
theorem dX11_fails_16 : decode cX11_fails 16 = .ok (.if_icmp .gt 20, 3) := by decide +kernel
theorem dX11_fails_19 : decode cX11_fails 19 = .ok (.aload_n 0, 1) := by decide +kernel
theorem dX11_fails_20 : decode cX11_fails 20 = .ok (.aload_n 0, 1) := by decide +kernel
theorem dX11_fails_21 : decode cX11_fails 21 = .ok (.getfield 7, 3) := by decide +kernel
theorem dX11_fails_24 : decode cX11_fails 24 = .ok (.iload_n 1, 1) := by decide +kernel
theorem dX11_fails_25 : decode cX11_fails 25 = .ok (.iaload, 1) := by decide +kernel
theorem dX11_fails_26 : decode cX11_fails 26 = .ok (.iload_n 2, 1) := by decide +kernel
theorem dX11_fails_27 : decode cX11_fails 27 = .ok (.iload_n 3, 1) := by decide +kernel
theorem dX11_fails_28 : decode cX11_fails 28 = .ok (.lload 4, 2) := by decide +kernel
theorem dX11_fails_30 : decode cX11_fails 30 = .ok (.invokevirtual 222, 3) := by decide +kernel
theorem dX11_fails_33 : decode cX11_fails 33 = .ok (.ifCond .ne 5, 3) := by decide +kernel
theorem dX11_fails_36 : decode cX11_fails 36 = .ok (.iconst (-1), 1) := by decide +kernel
theorem dX11_fails_37 : decode cX11_fails 37 = .ok (.ireturn, 1) := by decide +kernel
theorem dX11_fails_38 : decode cX11_fails 38 = .ok (.aload_n 0, 1) := by decide +kernel
theorem dX11_fails_39 : decode cX11_fails 39 = .ok (.getfield 7, 3) := by decide +kernel
theorem dX11_fails_42 : decode cX11_fails 42 = .ok (.iload_n 1, 1) := by decide +kernel
theorem dX11_fails_43 : decode cX11_fails 43 = .ok (.iaload, 1) := by decide +kernel
theorem dX11_fails_44 : decode cX11_fails 44 = .ok (.istore 6, 2) := by decide +kernel
theorem dX11_fails_46 : decode cX11_fails 46 = .ok (.iconst 0, 1) := by decide +kernel
theorem dX11_fails_47 : decode cX11_fails 47 = .ok (.istore 7, 2) := by decide +kernel
theorem dX11_fails_49 : decode cX11_fails 49 = .ok (.iload 7, 2) := by decide +kernel
theorem dX11_fails_51 : decode cX11_fails 51 = .ok (.iconst 1, 1) := by decide +kernel
theorem dX11_fails_52 : decode cX11_fails 52 = .ok (.iload 6, 2) := by decide +kernel
theorem dX11_fails_54 : decode cX11_fails 54 = .ok (.ishl, 1) := by decide +kernel
theorem dX11_fails_55 : decode cX11_fails 55 = .ok (.if_icmp .ge 78, 3) := by decide +kernel
theorem dX11_fails_58 : decode cX11_fails 58 = .ok (.aload_n 0, 1) := by decide +kernel
theorem dX11_fails_59 : decode cX11_fails 59 = .ok (.iload 6, 2) := by decide +kernel
theorem dX11_fails_61 : decode cX11_fails 61 = .ok (.iload_n 2, 1) := by decide +kernel
theorem dX11_fails_62 : decode cX11_fails 62 = .ok (.iload_n 3, 1) := by decide +kernel
theorem dX11_fails_63 : decode cX11_fails 63 = .ok (.lload 4, 2) := by decide +kernel
theorem dX11_fails_65 : decode cX11_fails 65 = .ok (.iload 6, 2) := by decide +kernel
theorem dX11_fails_67 : decode cX11_fails 67 = .ok (.invokestatic 105, 3) := by decide +kernel
theorem dX11_fails_70 : decode cX11_fails 70 = .ok (.iload 7, 2) := by decide +kernel
theorem dX11_fails_72 : decode cX11_fails 72 = .ok (.i2l, 1) := by decide +kernel
theorem dX11_fails_73 : decode cX11_fails 73 = .ok (.invokevirtual 247, 3) := by decide +kernel
theorem dX11_fails_76 : decode cX11_fails 76 = .ok (.lstore 8, 2) := by decide +kernel
theorem dX11_fails_78 : decode cX11_fails 78 = .ok (.iload_n 3, 1) := by decide +kernel
theorem dX11_fails_79 : decode cX11_fails 79 = .ok (.iconst 5, 1) := by decide +kernel
theorem dX11_fails_80 : decode cX11_fails 80 = .ok (.if_icmp .ne 13, 3) := by decide +kernel
theorem dX11_fails_83 : decode cX11_fails 83 = .ok (.aload_n 0, 1) := by decide +kernel
theorem dX11_fails_84 : decode cX11_fails 84 = .ok (.getfield 243, 3) := by decide +kernel
theorem dX11_fails_87 : decode cX11_fails 87 = .ok (.ifCond .eq 6, 3) := by decide +kernel
theorem dX11_fails_90 : decode cX11_fails 90 = .ok (.goto 37, 3) := by decide +kernel
theorem dX11_fails_93 : decode cX11_fails 93 = .ok (.aload_n 0, 1) := by decide +kernel
theorem dX11_fails_94 : decode cX11_fails 94 = .ok (.iload_n 1, 1) := by decide +kernel
theorem dX11_fails_95 : decode cX11_fails 95 = .ok (.iload 7, 2) := by decide +kernel
theorem dX11_fails_97 : decode cX11_fails 97 = .ok (.i2l, 1) := by decide +kernel
theorem dX11_fails_98 : decode cX11_fails 98 = .ok (.aload_n 0, 1) := by decide +kernel
theorem dX11_fails_99 : decode cX11_fails 99 = .ok (.getfield 13, 3) := by decide +kernel
theorem dX11_fails_102 : decode cX11_fails 102 = .ok (.iload_n 1, 1) := by decide +kernel
theorem dX11_fails_103 : decode cX11_fails 103 = .ok (.iaload, 1) := by decide +kernel
theorem dX11_fails_104 : decode cX11_fails 104 = .ok (.invokevirtual 236, 3) := by decide +kernel
theorem dX11_fails_107 : decode cX11_fails 107 = .ok (.aload_n 0, 1) := by decide +kernel
theorem dX11_fails_108 : decode cX11_fails 108 = .ok (.getfield 29, 3) := by decide +kernel
theorem dX11_fails_111 : decode cX11_fails 111 = .ok (.aload_n 0, 1) := by decide +kernel
theorem dX11_fails_112 : decode cX11_fails 112 = .ok (.getfield 13, 3) := by decide +kernel
theorem dX11_fails_115 : decode cX11_fails 115 = .ok (.iload_n 1, 1) := by decide +kernel
theorem dX11_fails_116 : decode cX11_fails 116 = .ok (.iaload, 1) := by decide +kernel
theorem dX11_fails_117 : decode cX11_fails 117 = .ok (.laload, 1) := by decide +kernel
theorem dX11_fails_118 : decode cX11_fails 118 = .ok (.lload 8, 2) := by decide +kernel
theorem dX11_fails_120 : decode cX11_fails 120 = .ok (.lcmp, 1) := by decide +kernel
theorem dX11_fails_121 : decode cX11_fails 121 = .ok (.ifCond .eq 6, 3) := by decide +kernel
theorem dX11_fails_124 : decode cX11_fails 124 = .ok (.iload 7, 2) := by decide +kernel
theorem dX11_fails_126 : decode cX11_fails 126 = .ok (.ireturn, 1) := by decide +kernel
theorem dX11_fails_127 : decode cX11_fails 127 = .ok (.iinc 7 1, 3) := by decide +kernel
theorem dX11_fails_130 : decode cX11_fails 130 = .ok (.goto (-81), 3) := by decide +kernel
theorem dX11_fails_133 : decode cX11_fails 133 = .ok (.bipush (-3), 2) := by decide +kernel
theorem dX11_fails_135 : decode cX11_fails 135 = .ok (.ireturn, 1) := by decide +kernel
theorem dX11_plain_0 : decode cX11_plain 0 = .ok (.aload_n 0, 1) := by decide +kernel
theorem dX11_plain_1 : decode cX11_plain 1 = .ok (.iload_n 1, 1) := by decide +kernel
theorem dX11_plain_2 : decode cX11_plain 2 = .ok (.iload_n 2, 1) := by decide +kernel
theorem dX11_plain_3 : decode cX11_plain 3 = .ok (.iload_n 3, 1) := by decide +kernel
theorem dX11_plain_4 : decode cX11_plain 4 = .ok (.lload 4, 2) := by decide +kernel
theorem dX11_plain_6 : decode cX11_plain 6 = .ok (.invokevirtual 222, 3) := by decide +kernel
theorem dX11_plain_9 : decode cX11_plain 9 = .ok (.ifCond .eq 25, 3) := by decide +kernel
theorem dX11_plain_12 : decode cX11_plain 12 = .ok (.aload_n 0, 1) := by decide +kernel
theorem dX11_plain_13 : decode cX11_plain 13 = .ok (.iload_n 1, 1) := by decide +kernel
theorem dX11_plain_14 : decode cX11_plain 14 = .ok (.iload_n 2, 1) := by decide +kernel
theorem dX11_plain_15 : decode cX11_plain 15 = .ok (.iload_n 3, 1) := by decide +kernel
theorem dX11_plain_16 : decode cX11_plain 16 = .ok (.lload 4, 2) := by decide +kernel
theorem dX11_plain_18 : decode cX11_plain 18 = .ok (.iload_n 1, 1) := by decide +kernel
theorem dX11_plain_19 : decode cX11_plain 19 = .ok (.invokestatic 105, 3) := by decide +kernel
theorem dX11_plain_22 : decode cX11_plain 22 = .ok (.lload 6, 2) := by decide +kernel
theorem dX11_plain_24 : decode cX11_plain 24 = .ok (.iload_n 1, 1) := by decide +kernel
theorem dX11_plain_25 : decode cX11_plain 25 = .ok (.invokestatic 105, 3) := by decide +kernel
theorem dX11_plain_28 : decode cX11_plain 28 = .ok (.invokevirtual 247, 3) := by decide +kernel
theorem dX11_plain_31 : decode cX11_plain 31 = .ok (.goto 4, 3) := by decide +kernel
theorem dX11_plain_34 : decode cX11_plain 34 = .ok (.lconst 0, 1) := by decide +kernel
theorem dX11_plain_35 : decode cX11_plain 35 = .ok (.lreturn, 1) := by decide +kernel
theorem dX11_proof_0 : decode cX11_proof 0 = .ok (.iload_n 1, 1) := by decide +kernel
theorem dX11_proof_1 : decode cX11_proof 1 = .ok (.invokestatic 153, 3) := by decide +kernel
theorem dX11_proof_4 : decode cX11_proof 4 = .ok (.ifCond .eq 24, 3) := by decide +kernel
theorem dX11_proof_7 : decode cX11_proof 7 = .ok (.iload 4, 2) := by decide +kernel
theorem dX11_proof_9 : decode cX11_proof 9 = .ok (.ifCond .lt 19, 3) := by decide +kernel
theorem dX11_proof_12 : decode cX11_proof 12 = .ok (.iload 4, 2) := by decide +kernel
theorem dX11_proof_14 : decode cX11_proof 14 = .ok (.iconst 3, 1) := by decide +kernel
theorem dX11_proof_15 : decode cX11_proof 15 = .ok (.if_icmp .gt 13, 3) := by decide +kernel
theorem dX11_proof_18 : decode cX11_proof 18 = .ok (.lload_n 2, 1) := by decide +kernel
theorem dX11_proof_19 : decode cX11_proof 19 = .ok (.iload_n 1, 1) := by decide +kernel
theorem dX11_proof_20 : decode cX11_proof 20 = .ok (.invokestatic 105, 3) := by decide +kernel
theorem dX11_proof_23 : decode cX11_proof 23 = .ok (.lconst 0, 1) := by decide +kernel
theorem dX11_proof_24 : decode cX11_proof 24 = .ok (.lcmp, 1) := by decide +kernel
theorem dX11_proof_25 : decode cX11_proof 25 = .ok (.ifCond .ne 7, 3) := by decide +kernel
theorem dX11_proof_28 : decode cX11_proof 28 = .ok (.ldc2_w 202, 3) := by decide +kernel
theorem dX11_proof_31 : decode cX11_proof 31 = .ok (.lreturn, 1) := by decide +kernel
theorem dX11_proof_32 : decode cX11_proof 32 = .ok (.aload_n 0, 1) := by decide +kernel
theorem dX11_proof_33 : decode cX11_proof 33 = .ok (.iload_n 1, 1) := by decide +kernel
theorem dX11_proof_34 : decode cX11_proof 34 = .ok (.iconst 0, 1) := by decide +kernel
theorem dX11_proof_35 : decode cX11_proof 35 = .ok (.lload_n 2, 1) := by decide +kernel
theorem dX11_proof_36 : decode cX11_proof 36 = .ok (.invokevirtual 226, 3) := by decide +kernel
theorem dX11_proof_39 : decode cX11_proof 39 = .ok (.aload_n 0, 1) := by decide +kernel
theorem dX11_proof_40 : decode cX11_proof 40 = .ok (.getfield 177, 3) := by decide +kernel
theorem dX11_proof_43 : decode cX11_proof 43 = .ok (.lconst 1, 1) := by decide +kernel
theorem dX11_proof_44 : decode cX11_proof 44 = .ok (.lcmp, 1) := by decide +kernel
theorem dX11_proof_45 : decode cX11_proof 45 = .ok (.ifCond .ne 5, 3) := by decide +kernel
theorem dX11_proof_48 : decode cX11_proof 48 = .ok (.lconst 0, 1) := by decide +kernel
theorem dX11_proof_49 : decode cX11_proof 49 = .ok (.lreturn, 1) := by decide +kernel
theorem dX11_proof_50 : decode cX11_proof 50 = .ok (.aload_n 0, 1) := by decide +kernel
theorem dX11_proof_51 : decode cX11_proof 51 = .ok (.iload_n 1, 1) := by decide +kernel
theorem dX11_proof_52 : decode cX11_proof 52 = .ok (.iconst 0, 1) := by decide +kernel
theorem dX11_proof_53 : decode cX11_proof 53 = .ok (.invokevirtual 195, 3) := by decide +kernel
theorem dX11_proof_56 : decode cX11_proof 56 = .ok (.iload 4, 2) := by decide +kernel
theorem dX11_proof_58 : decode cX11_proof 58 = .ok (.ifCond .ne 11, 3) := by decide +kernel
theorem dX11_proof_61 : decode cX11_proof 61 = .ok (.aload_n 0, 1) := by decide +kernel
theorem dX11_proof_62 : decode cX11_proof 62 = .ok (.getfield 183, 3) := by decide +kernel
theorem dX11_proof_65 : decode cX11_proof 65 = .ok (.i2l, 1) := by decide +kernel
theorem dX11_proof_66 : decode cX11_proof 66 = .ok (.goto 34, 3) := by decide +kernel
theorem dX11_proof_69 : decode cX11_proof 69 = .ok (.iload 4, 2) := by decide +kernel
theorem dX11_proof_71 : decode cX11_proof 71 = .ok (.iconst 1, 1) := by decide +kernel
theorem dX11_proof_72 : decode cX11_proof 72 = .ok (.if_icmp .ne 10, 3) := by decide +kernel
theorem dX11_proof_75 : decode cX11_proof 75 = .ok (.aload_n 0, 1) := by decide +kernel
theorem dX11_proof_76 : decode cX11_proof 76 = .ok (.getfield 189, 3) := by decide +kernel
theorem dX11_proof_79 : decode cX11_proof 79 = .ok (.goto 21, 3) := by decide +kernel
theorem dX11_proof_82 : decode cX11_proof 82 = .ok (.iload 4, 2) := by decide +kernel
theorem dX11_proof_84 : decode cX11_proof 84 = .ok (.iconst 2, 1) := by decide +kernel
theorem dX11_proof_85 : decode cX11_proof 85 = .ok (.if_icmp .ne 11, 3) := by decide +kernel
theorem dX11_proof_88 : decode cX11_proof 88 = .ok (.aload_n 0, 1) := by decide +kernel
theorem dX11_proof_89 : decode cX11_proof 89 = .ok (.getfield 192, 3) := by decide +kernel
theorem dX11_proof_92 : decode cX11_proof 92 = .ok (.i2l, 1) := by decide +kernel
theorem dX11_proof_93 : decode cX11_proof 93 = .ok (.goto 7, 3) := by decide +kernel
theorem dX11_proof_96 : decode cX11_proof 96 = .ok (.aload_n 0, 1) := by decide +kernel
theorem dX11_proof_97 : decode cX11_proof 97 = .ok (.getfield 186, 3) := by decide +kernel
theorem dX11_proof_100 : decode cX11_proof 100 = .ok (.lreturn, 1) := by decide +kernel
theorem dX11_check_0 : decode cX11_check 0 = .ok (.iload_n 1, 1) := by decide +kernel
theorem dX11_check_1 : decode cX11_check 1 = .ok (.invokestatic 153, 3) := by decide +kernel
theorem dX11_check_4 : decode cX11_check 4 = .ok (.ifCond .eq 35, 3) := by decide +kernel
theorem dX11_check_7 : decode cX11_check 7 = .ok (.iload 4, 2) := by decide +kernel
theorem dX11_check_9 : decode cX11_check 9 = .ok (.ifCond .lt 30, 3) := by decide +kernel
theorem dX11_check_12 : decode cX11_check 12 = .ok (.iload 4, 2) := by decide +kernel
theorem dX11_check_14 : decode cX11_check 14 = .ok (.iload_n 1, 1) := by decide +kernel
theorem dX11_check_15 : decode cX11_check 15 = .ok (.if_icmp .gt 24, 3) := by decide +kernel
theorem dX11_check_18 : decode cX11_check 18 = .ok (.iload 7, 2) := by decide +kernel
theorem dX11_check_20 : decode cX11_check 20 = .ok (.ifCond .lt 19, 3) := by decide +kernel
theorem dX11_check_23 : decode cX11_check 23 = .ok (.iload 7, 2) := by decide +kernel
theorem dX11_check_25 : decode cX11_check 25 = .ok (.iconst 1, 1) := by decide +kernel
theorem dX11_check_26 : decode cX11_check 26 = .ok (.if_icmp .gt 13, 3) := by decide +kernel
theorem dX11_check_29 : decode cX11_check 29 = .ok (.lload_n 2, 1) := by decide +kernel
theorem dX11_check_30 : decode cX11_check 30 = .ok (.iload_n 1, 1) := by decide +kernel
theorem dX11_check_31 : decode cX11_check 31 = .ok (.invokestatic 105, 3) := by decide +kernel
theorem dX11_check_34 : decode cX11_check 34 = .ok (.lconst 0, 1) := by decide +kernel
theorem dX11_check_35 : decode cX11_check 35 = .ok (.lcmp, 1) := by decide +kernel
theorem dX11_check_36 : decode cX11_check 36 = .ok (.ifCond .ne 5, 3) := by decide +kernel
theorem dX11_check_39 : decode cX11_check 39 = .ok (.iconst (-1), 1) := by decide +kernel
theorem dX11_check_40 : decode cX11_check 40 = .ok (.ireturn, 1) := by decide +kernel
theorem dX11_check_41 : decode cX11_check 41 = .ok (.lload 5, 2) := by decide +kernel
theorem dX11_check_43 : decode cX11_check 43 = .ok (.iload_n 1, 1) := by decide +kernel
theorem dX11_check_44 : decode cX11_check 44 = .ok (.invokestatic 105, 3) := by decide +kernel
theorem dX11_check_47 : decode cX11_check 47 = .ok (.lstore 8, 2) := by decide +kernel
theorem dX11_check_49 : decode cX11_check 49 = .ok (.lload_n 2, 1) := by decide +kernel
theorem dX11_check_50 : decode cX11_check 50 = .ok (.iload_n 1, 1) := by decide +kernel
theorem dX11_check_51 : decode cX11_check 51 = .ok (.invokestatic 105, 3) := by decide +kernel
theorem dX11_check_54 : decode cX11_check 54 = .ok (.lstore 10, 2) := by decide +kernel
theorem dX11_check_56 : decode cX11_check 56 = .ok (.iconst 0, 1) := by decide +kernel
theorem dX11_check_57 : decode cX11_check 57 = .ok (.istore 12, 2) := by decide +kernel
theorem dX11_check_59 : decode cX11_check 59 = .ok (.iload 12, 2) := by decide +kernel
theorem dX11_check_61 : decode cX11_check 61 = .ok (.bipush 8, 2) := by decide +kernel
theorem dX11_check_63 : decode cX11_check 63 = .ok (.if_icmp .ge 17, 3) := by decide +kernel
theorem dX11_check_66 : decode cX11_check 66 = .ok (.aload_n 0, 1) := by decide +kernel
theorem dX11_check_67 : decode cX11_check 67 = .ok (.getfield 53, 3) := by decide +kernel
theorem dX11_check_70 : decode cX11_check 70 = .ok (.iload 12, 2) := by decide +kernel
theorem dX11_check_72 : decode cX11_check 72 = .ok (.lconst 0, 1) := by decide +kernel
theorem dX11_check_73 : decode cX11_check 73 = .ok (.lastore, 1) := by decide +kernel
theorem dX11_check_74 : decode cX11_check 74 = .ok (.iinc 12 1, 3) := by decide +kernel
theorem dX11_check_77 : decode cX11_check 77 = .ok (.goto (-18), 3) := by decide +kernel
theorem dX11_check_80 : decode cX11_check 80 = .ok (.aload_n 0, 1) := by decide +kernel
theorem dX11_check_81 : decode cX11_check 81 = .ok (.getfield 53, 3) := by decide +kernel
theorem dX11_check_84 : decode cX11_check 84 = .ok (.iconst 0, 1) := by decide +kernel
theorem dX11_check_85 : decode cX11_check 85 = .ok (.lload 8, 2) := by decide +kernel
theorem dX11_check_87 : decode cX11_check 87 = .ok (.lload 10, 2) := by decide +kernel
theorem dX11_check_89 : decode cX11_check 89 = .ok (.lmul, 1) := by decide +kernel
theorem dX11_check_90 : decode cX11_check 90 = .ok (.ldc2_w 95, 3) := by decide +kernel
theorem dX11_check_93 : decode cX11_check 93 = .ok (.land, 1) := by decide +kernel
theorem dX11_check_94 : decode cX11_check 94 = .ok (.lastore, 1) := by decide +kernel
theorem dX11_check_95 : decode cX11_check 95 = .ok (.aload_n 0, 1) := by decide +kernel
theorem dX11_check_96 : decode cX11_check 96 = .ok (.getfield 53, 3) := by decide +kernel
theorem dX11_check_99 : decode cX11_check 99 = .ok (.iconst 1, 1) := by decide +kernel
theorem dX11_check_100 : decode cX11_check 100 = .ok (.lload 8, 2) := by decide +kernel
theorem dX11_check_102 : decode cX11_check 102 = .ok (.lload 10, 2) := by decide +kernel
theorem dX11_check_104 : decode cX11_check 104 = .ok (.lmul, 1) := by decide +kernel
theorem dX11_check_105 : decode cX11_check 105 = .ok (.bipush 32, 2) := by decide +kernel
theorem dX11_check_107 : decode cX11_check 107 = .ok (.lushr, 1) := by decide +kernel
theorem dX11_check_108 : decode cX11_check 108 = .ok (.lastore, 1) := by decide +kernel
theorem dX11_check_109 : decode cX11_check 109 = .ok (.lload 8, 2) := by decide +kernel
theorem dX11_check_111 : decode cX11_check 111 = .ok (.lload 10, 2) := by decide +kernel
theorem dX11_check_113 : decode cX11_check 113 = .ok (.invokestatic 97, 3) := by decide +kernel
theorem dX11_check_116 : decode cX11_check 116 = .ok (.lstore 12, 2) := by decide +kernel
theorem dX11_check_118 : decode cX11_check 118 = .ok (.aload_n 0, 1) := by decide +kernel
theorem dX11_check_119 : decode cX11_check 119 = .ok (.getfield 53, 3) := by decide +kernel
theorem dX11_check_122 : decode cX11_check 122 = .ok (.iconst 2, 1) := by decide +kernel
theorem dX11_check_123 : decode cX11_check 123 = .ok (.lload 12, 2) := by decide +kernel
theorem dX11_check_125 : decode cX11_check 125 = .ok (.ldc2_w 95, 3) := by decide +kernel
theorem dX11_check_128 : decode cX11_check 128 = .ok (.land, 1) := by decide +kernel
theorem dX11_check_129 : decode cX11_check 129 = .ok (.lastore, 1) := by decide +kernel
theorem dX11_check_130 : decode cX11_check 130 = .ok (.aload_n 0, 1) := by decide +kernel
theorem dX11_check_131 : decode cX11_check 131 = .ok (.getfield 53, 3) := by decide +kernel
theorem dX11_check_134 : decode cX11_check 134 = .ok (.iconst 3, 1) := by decide +kernel
theorem dX11_check_135 : decode cX11_check 135 = .ok (.lload 12, 2) := by decide +kernel
theorem dX11_check_137 : decode cX11_check 137 = .ok (.bipush 32, 2) := by decide +kernel
theorem dX11_check_139 : decode cX11_check 139 = .ok (.lushr, 1) := by decide +kernel
theorem dX11_check_140 : decode cX11_check 140 = .ok (.lastore, 1) := by decide +kernel
theorem dX11_check_141 : decode cX11_check 141 = .ok (.iconst 0, 1) := by decide +kernel
theorem dX11_check_142 : decode cX11_check 142 = .ok (.istore 14, 2) := by decide +kernel
theorem dX11_check_144 : decode cX11_check 144 = .ok (.iload 14, 2) := by decide +kernel
theorem dX11_check_146 : decode cX11_check 146 = .ok (.bipush 64, 2) := by decide +kernel
theorem dX11_check_148 : decode cX11_check 148 = .ok (.if_icmp .ge 30, 3) := by decide +kernel
theorem dX11_check_151 : decode cX11_check 151 = .ok (.iload 7, 2) := by decide +kernel
theorem dX11_check_153 : decode cX11_check 153 = .ok (.iconst 1, 1) := by decide +kernel
theorem dX11_check_154 : decode cX11_check 154 = .ok (.if_icmp .ne 24, 3) := by decide +kernel
theorem dX11_check_157 : decode cX11_check 157 = .ok (.aload_n 0, 1) := by decide +kernel
theorem dX11_check_158 : decode cX11_check 158 = .ok (.lload 10, 2) := by decide +kernel
theorem dX11_check_160 : decode cX11_check 160 = .ok (.iload 14, 2) := by decide +kernel
theorem dX11_check_162 : decode cX11_check 162 = .ok (.lushr, 1) := by decide +kernel
theorem dX11_check_163 : decode cX11_check 163 = .ok (.lconst 1, 1) := by decide +kernel
theorem dX11_check_164 : decode cX11_check 164 = .ok (.land, 1) := by decide +kernel
theorem dX11_check_165 : decode cX11_check 165 = .ok (.iload_n 1, 1) := by decide +kernel
theorem dX11_check_166 : decode cX11_check 166 = .ok (.iload 14, 2) := by decide +kernel
theorem dX11_check_168 : decode cX11_check 168 = .ok (.iadd, 1) := by decide +kernel
theorem dX11_check_169 : decode cX11_check 169 = .ok (.invokevirtual 251, 3) := by decide +kernel
theorem dX11_check_172 : decode cX11_check 172 = .ok (.iinc 14 1, 3) := by decide +kernel
theorem dX11_check_175 : decode cX11_check 175 = .ok (.goto (-31), 3) := by decide +kernel
theorem dX11_check_178 : decode cX11_check 178 = .ok (.aload_n 0, 1) := by decide +kernel
theorem dX11_check_179 : decode cX11_check 179 = .ok (.iload_n 1, 1) := by decide +kernel
theorem dX11_check_180 : decode cX11_check 180 = .ok (.iload 4, 2) := by decide +kernel
theorem dX11_check_182 : decode cX11_check 182 = .ok (.iadd, 1) := by decide +kernel
theorem dX11_check_183 : decode cX11_check 183 = .ok (.invokevirtual 255, 3) := by decide +kernel
theorem dX11_check_186 : decode cX11_check 186 = .ok (.aload_n 0, 1) := by decide +kernel
theorem dX11_check_187 : decode cX11_check 187 = .ok (.getfield 53, 3) := by decide +kernel
theorem dX11_check_190 : decode cX11_check 190 = .ok (.bipush 7, 2) := by decide +kernel
theorem dX11_check_192 : decode cX11_check 192 = .ok (.laload, 1) := by decide +kernel
theorem dX11_check_193 : decode cX11_check 193 = .ok (.lconst 0, 1) := by decide +kernel
theorem dX11_check_194 : decode cX11_check 194 = .ok (.lcmp, 1) := by decide +kernel
theorem dX11_check_195 : decode cX11_check 195 = .ok (.ifCond .eq 5, 3) := by decide +kernel
theorem dX11_check_198 : decode cX11_check 198 = .ok (.iconst 0, 1) := by decide +kernel
theorem dX11_check_199 : decode cX11_check 199 = .ok (.ireturn, 1) := by decide +kernel
theorem dX11_check_200 : decode cX11_check 200 = .ok (.iconst (-1), 1) := by decide +kernel
theorem dX11_check_201 : decode cX11_check 201 = .ok (.istore 14, 2) := by decide +kernel
theorem dX11_check_203 : decode cX11_check 203 = .ok (.iconst 0, 1) := by decide +kernel
theorem dX11_check_204 : decode cX11_check 204 = .ok (.istore 15, 2) := by decide +kernel
theorem dX11_check_206 : decode cX11_check 206 = .ok (.iconst 0, 1) := by decide +kernel
theorem dX11_check_207 : decode cX11_check 207 = .ok (.istore 16, 2) := by decide +kernel
theorem dX11_check_209 : decode cX11_check 209 = .ok (.iload 16, 2) := by decide +kernel
theorem dX11_check_211 : decode cX11_check 211 = .ok (.sipush 200, 3) := by decide +kernel
theorem dX11_check_214 : decode cX11_check 214 = .ok (.if_icmp .ge 42, 3) := by decide +kernel
theorem dX11_check_217 : decode cX11_check 217 = .ok (.aload_n 0, 1) := by decide +kernel
theorem dX11_check_218 : decode cX11_check 218 = .ok (.getfield 53, 3) := by decide +kernel
theorem dX11_check_221 : decode cX11_check 221 = .ok (.iload 16, 2) := by decide +kernel
theorem dX11_check_223 : decode cX11_check 223 = .ok (.bipush 32, 2) := by decide +kernel
theorem dX11_check_225 : decode cX11_check 225 = .ok (.idiv, 1) := by decide +kernel
theorem dX11_check_226 : decode cX11_check 226 = .ok (.laload, 1) := by decide +kernel
theorem dX11_check_227 : decode cX11_check 227 = .ok (.iload 16, 2) := by decide +kernel
theorem dX11_check_229 : decode cX11_check 229 = .ok (.bipush 32, 2) := by decide +kernel
theorem dX11_check_231 : decode cX11_check 231 = .ok (.irem, 1) := by decide +kernel
theorem dX11_check_232 : decode cX11_check 232 = .ok (.lushr, 1) := by decide +kernel
theorem dX11_check_233 : decode cX11_check 233 = .ok (.lconst 1, 1) := by decide +kernel
theorem dX11_check_234 : decode cX11_check 234 = .ok (.land, 1) := by decide +kernel
theorem dX11_check_235 : decode cX11_check 235 = .ok (.lconst 0, 1) := by decide +kernel
theorem dX11_check_236 : decode cX11_check 236 = .ok (.lcmp, 1) := by decide +kernel
theorem dX11_check_237 : decode cX11_check 237 = .ok (.ifCond .ne 6, 3) := by decide +kernel
theorem dX11_check_240 : decode cX11_check 240 = .ok (.goto 10, 3) := by decide +kernel
theorem dX11_check_243 : decode cX11_check 243 = .ok (.iload 16, 2) := by decide +kernel
theorem dX11_check_245 : decode cX11_check 245 = .ok (.istore 14, 2) := by decide +kernel
theorem dX11_check_247 : decode cX11_check 247 = .ok (.iinc 15 1, 3) := by decide +kernel
theorem dX11_check_250 : decode cX11_check 250 = .ok (.iinc 16 1, 3) := by decide +kernel
theorem dX11_check_253 : decode cX11_check 253 = .ok (.goto (-44), 3) := by decide +kernel
theorem dX11_check_256 : decode cX11_check 256 = .ok (.iload 14, 2) := by decide +kernel
theorem dX11_check_258 : decode cX11_check 258 = .ok (.iload 4, 2) := by decide +kernel
theorem dX11_check_260 : decode cX11_check 260 = .ok (.if_icmp .lt 16, 3) := by decide +kernel
theorem dX11_check_263 : decode cX11_check 263 = .ok (.iload 14, 2) := by decide +kernel
theorem dX11_check_265 : decode cX11_check 265 = .ok (.iload 4, 2) := by decide +kernel
theorem dX11_check_267 : decode cX11_check 267 = .ok (.if_icmp .ne 13, 3) := by decide +kernel
theorem dX11_check_270 : decode cX11_check 270 = .ok (.iload 15, 2) := by decide +kernel
theorem dX11_check_272 : decode cX11_check 272 = .ok (.iconst 1, 1) := by decide +kernel
theorem dX11_check_273 : decode cX11_check 273 = .ok (.if_icmp .ne 7, 3) := by decide +kernel
theorem dX11_check_276 : decode cX11_check 276 = .ok (.iconst 1, 1) := by decide +kernel
theorem dX11_check_277 : decode cX11_check 277 = .ok (.goto 4, 3) := by decide +kernel
theorem dX11_check_280 : decode cX11_check 280 = .ok (.iconst 0, 1) := by decide +kernel
theorem dX11_check_281 : decode cX11_check 281 = .ok (.ireturn, 1) := by decide +kernel
theorem dX11_addBit_0 : decode cX11_addBit 0 = .ok (.lload_n 1, 1) := by decide +kernel
theorem dX11_addBit_1 : decode cX11_addBit 1 = .ok (.lconst 0, 1) := by decide +kernel
theorem dX11_addBit_2 : decode cX11_addBit 2 = .ok (.lcmp, 1) := by decide +kernel
theorem dX11_addBit_3 : decode cX11_addBit 3 = .ok (.ifCond .ne 4, 3) := by decide +kernel
theorem dX11_addBit_6 : decode cX11_addBit 6 = .ok (.return_, 1) := by decide +kernel
theorem dX11_addBit_7 : decode cX11_addBit 7 = .ok (.iload_n 3, 1) := by decide +kernel
theorem dX11_addBit_8 : decode cX11_addBit 8 = .ok (.bipush 32, 2) := by decide +kernel
theorem dX11_addBit_10 : decode cX11_addBit 10 = .ok (.idiv, 1) := by decide +kernel
theorem dX11_addBit_11 : decode cX11_addBit 11 = .ok (.istore 4, 2) := by decide +kernel
theorem dX11_addBit_13 : decode cX11_addBit 13 = .ok (.aload_n 0, 1) := by decide +kernel
theorem dX11_addBit_14 : decode cX11_addBit 14 = .ok (.getfield 53, 3) := by decide +kernel
theorem dX11_addBit_17 : decode cX11_addBit 17 = .ok (.iload 4, 2) := by decide +kernel
theorem dX11_addBit_19 : decode cX11_addBit 19 = .ok (.dup2, 1) := by decide +kernel
theorem dX11_addBit_20 : decode cX11_addBit 20 = .ok (.laload, 1) := by decide +kernel
theorem dX11_addBit_21 : decode cX11_addBit 21 = .ok (.lconst 1, 1) := by decide +kernel
theorem dX11_addBit_22 : decode cX11_addBit 22 = .ok (.iload_n 3, 1) := by decide +kernel
theorem dX11_addBit_23 : decode cX11_addBit 23 = .ok (.bipush 32, 2) := by decide +kernel
theorem dX11_addBit_25 : decode cX11_addBit 25 = .ok (.irem, 1) := by decide +kernel
theorem dX11_addBit_26 : decode cX11_addBit 26 = .ok (.lshl, 1) := by decide +kernel
theorem dX11_addBit_27 : decode cX11_addBit 27 = .ok (.ladd, 1) := by decide +kernel
theorem dX11_addBit_28 : decode cX11_addBit 28 = .ok (.lastore, 1) := by decide +kernel
theorem dX11_addBit_29 : decode cX11_addBit 29 = .ok (.aload_n 0, 1) := by decide +kernel
theorem dX11_addBit_30 : decode cX11_addBit 30 = .ok (.getfield 53, 3) := by decide +kernel
theorem dX11_addBit_33 : decode cX11_addBit 33 = .ok (.iload 4, 2) := by decide +kernel
theorem dX11_addBit_35 : decode cX11_addBit 35 = .ok (.laload, 1) := by decide +kernel
theorem dX11_addBit_36 : decode cX11_addBit 36 = .ok (.ldc2_w 95, 3) := by decide +kernel
theorem dX11_addBit_39 : decode cX11_addBit 39 = .ok (.lcmp, 1) := by decide +kernel
theorem dX11_addBit_40 : decode cX11_addBit 40 = .ok (.ifCond .le 33, 3) := by decide +kernel
theorem dX11_addBit_43 : decode cX11_addBit 43 = .ok (.aload_n 0, 1) := by decide +kernel
theorem dX11_addBit_44 : decode cX11_addBit 44 = .ok (.getfield 53, 3) := by decide +kernel
theorem dX11_addBit_47 : decode cX11_addBit 47 = .ok (.iload 4, 2) := by decide +kernel
theorem dX11_addBit_49 : decode cX11_addBit 49 = .ok (.dup2, 1) := by decide +kernel
theorem dX11_addBit_50 : decode cX11_addBit 50 = .ok (.laload, 1) := by decide +kernel
theorem dX11_addBit_51 : decode cX11_addBit 51 = .ok (.ldc2_w 259, 3) := by decide +kernel
theorem dX11_addBit_54 : decode cX11_addBit 54 = .ok (.lsub, 1) := by decide +kernel
theorem dX11_addBit_55 : decode cX11_addBit 55 = .ok (.lastore, 1) := by decide +kernel
theorem dX11_addBit_56 : decode cX11_addBit 56 = .ok (.iinc 4 1, 3) := by decide +kernel
theorem dX11_addBit_59 : decode cX11_addBit 59 = .ok (.aload_n 0, 1) := by decide +kernel
theorem dX11_addBit_60 : decode cX11_addBit 60 = .ok (.getfield 53, 3) := by decide +kernel
theorem dX11_addBit_63 : decode cX11_addBit 63 = .ok (.iload 4, 2) := by decide +kernel
theorem dX11_addBit_65 : decode cX11_addBit 65 = .ok (.dup2, 1) := by decide +kernel
theorem dX11_addBit_66 : decode cX11_addBit 66 = .ok (.laload, 1) := by decide +kernel
theorem dX11_addBit_67 : decode cX11_addBit 67 = .ok (.lconst 1, 1) := by decide +kernel
theorem dX11_addBit_68 : decode cX11_addBit 68 = .ok (.ladd, 1) := by decide +kernel
theorem dX11_addBit_69 : decode cX11_addBit 69 = .ok (.lastore, 1) := by decide +kernel
theorem dX11_addBit_70 : decode cX11_addBit 70 = .ok (.goto (-41), 3) := by decide +kernel
theorem dX11_addBit_73 : decode cX11_addBit 73 = .ok (.return_, 1) := by decide +kernel
theorem dX11_takeBit_0 : decode cX11_takeBit 0 = .ok (.iload_n 1, 1) := by decide +kernel
theorem dX11_takeBit_1 : decode cX11_takeBit 1 = .ok (.bipush 32, 2) := by decide +kernel
theorem dX11_takeBit_3 : decode cX11_takeBit 3 = .ok (.idiv, 1) := by decide +kernel
theorem dX11_takeBit_4 : decode cX11_takeBit 4 = .ok (.istore_n 2, 1) := by decide +kernel
theorem dX11_takeBit_5 : decode cX11_takeBit 5 = .ok (.aload_n 0, 1) := by decide +kernel
theorem dX11_takeBit_6 : decode cX11_takeBit 6 = .ok (.getfield 53, 3) := by decide +kernel
theorem dX11_takeBit_9 : decode cX11_takeBit 9 = .ok (.iload_n 2, 1) := by decide +kernel
theorem dX11_takeBit_10 : decode cX11_takeBit 10 = .ok (.dup2, 1) := by decide +kernel
theorem dX11_takeBit_11 : decode cX11_takeBit 11 = .ok (.laload, 1) := by decide +kernel
theorem dX11_takeBit_12 : decode cX11_takeBit 12 = .ok (.lconst 1, 1) := by decide +kernel
theorem dX11_takeBit_13 : decode cX11_takeBit 13 = .ok (.iload_n 1, 1) := by decide +kernel
theorem dX11_takeBit_14 : decode cX11_takeBit 14 = .ok (.bipush 32, 2) := by decide +kernel
theorem dX11_takeBit_16 : decode cX11_takeBit 16 = .ok (.irem, 1) := by decide +kernel
theorem dX11_takeBit_17 : decode cX11_takeBit 17 = .ok (.lshl, 1) := by decide +kernel
theorem dX11_takeBit_18 : decode cX11_takeBit 18 = .ok (.lsub, 1) := by decide +kernel
theorem dX11_takeBit_19 : decode cX11_takeBit 19 = .ok (.lastore, 1) := by decide +kernel
theorem dX11_takeBit_20 : decode cX11_takeBit 20 = .ok (.iload_n 2, 1) := by decide +kernel
theorem dX11_takeBit_21 : decode cX11_takeBit 21 = .ok (.bipush 7, 2) := by decide +kernel
theorem dX11_takeBit_23 : decode cX11_takeBit 23 = .ok (.if_icmp .ge 42, 3) := by decide +kernel
theorem dX11_takeBit_26 : decode cX11_takeBit 26 = .ok (.aload_n 0, 1) := by decide +kernel
theorem dX11_takeBit_27 : decode cX11_takeBit 27 = .ok (.getfield 53, 3) := by decide +kernel
theorem dX11_takeBit_30 : decode cX11_takeBit 30 = .ok (.iload_n 2, 1) := by decide +kernel
theorem dX11_takeBit_31 : decode cX11_takeBit 31 = .ok (.laload, 1) := by decide +kernel
theorem dX11_takeBit_32 : decode cX11_takeBit 32 = .ok (.lconst 0, 1) := by decide +kernel
theorem dX11_takeBit_33 : decode cX11_takeBit 33 = .ok (.lcmp, 1) := by decide +kernel
theorem dX11_takeBit_34 : decode cX11_takeBit 34 = .ok (.ifCond .ge 31, 3) := by decide +kernel
theorem dX11_takeBit_37 : decode cX11_takeBit 37 = .ok (.aload_n 0, 1) := by decide +kernel
theorem dX11_takeBit_38 : decode cX11_takeBit 38 = .ok (.getfield 53, 3) := by decide +kernel
theorem dX11_takeBit_41 : decode cX11_takeBit 41 = .ok (.iload_n 2, 1) := by decide +kernel
theorem dX11_takeBit_42 : decode cX11_takeBit 42 = .ok (.dup2, 1) := by decide +kernel
theorem dX11_takeBit_43 : decode cX11_takeBit 43 = .ok (.laload, 1) := by decide +kernel
theorem dX11_takeBit_44 : decode cX11_takeBit 44 = .ok (.ldc2_w 259, 3) := by decide +kernel
theorem dX11_takeBit_47 : decode cX11_takeBit 47 = .ok (.ladd, 1) := by decide +kernel
theorem dX11_takeBit_48 : decode cX11_takeBit 48 = .ok (.lastore, 1) := by decide +kernel
theorem dX11_takeBit_49 : decode cX11_takeBit 49 = .ok (.iinc 2 1, 3) := by decide +kernel
theorem dX11_takeBit_52 : decode cX11_takeBit 52 = .ok (.aload_n 0, 1) := by decide +kernel
theorem dX11_takeBit_53 : decode cX11_takeBit 53 = .ok (.getfield 53, 3) := by decide +kernel
theorem dX11_takeBit_56 : decode cX11_takeBit 56 = .ok (.iload_n 2, 1) := by decide +kernel
theorem dX11_takeBit_57 : decode cX11_takeBit 57 = .ok (.dup2, 1) := by decide +kernel
theorem dX11_takeBit_58 : decode cX11_takeBit 58 = .ok (.laload, 1) := by decide +kernel
theorem dX11_takeBit_59 : decode cX11_takeBit 59 = .ok (.lconst 1, 1) := by decide +kernel
theorem dX11_takeBit_60 : decode cX11_takeBit 60 = .ok (.lsub, 1) := by decide +kernel
theorem dX11_takeBit_61 : decode cX11_takeBit 61 = .ok (.lastore, 1) := by decide +kernel
theorem dX11_takeBit_62 : decode cX11_takeBit 62 = .ok (.goto (-42), 3) := by decide +kernel
theorem dX11_takeBit_65 : decode cX11_takeBit 65 = .ok (.return_, 1) := by decide +kernel
theorem dX11_inverse_0 : decode cX11_inverse 0 = .ok (.iload_n 1, 1) := by decide +kernel
theorem dX11_inverse_1 : decode cX11_inverse 1 = .ok (.invokestatic 153, 3) := by decide +kernel
theorem dX11_inverse_4 : decode cX11_inverse 4 = .ok (.ifCond .eq 22, 3) := by decide +kernel
theorem dX11_inverse_7 : decode cX11_inverse 7 = .ok (.lload_n 2, 1) := by decide +kernel
theorem dX11_inverse_8 : decode cX11_inverse 8 = .ok (.lconst 1, 1) := by decide +kernel
theorem dX11_inverse_9 : decode cX11_inverse 9 = .ok (.land, 1) := by decide +kernel
theorem dX11_inverse_10 : decode cX11_inverse 10 = .ok (.lconst 1, 1) := by decide +kernel
theorem dX11_inverse_11 : decode cX11_inverse 11 = .ok (.lcmp, 1) := by decide +kernel
theorem dX11_inverse_12 : decode cX11_inverse 12 = .ok (.ifCond .ne 14, 3) := by decide +kernel
theorem dX11_inverse_15 : decode cX11_inverse 15 = .ok (.lload_n 2, 1) := by decide +kernel
theorem dX11_inverse_16 : decode cX11_inverse 16 = .ok (.invokestatic 198, 3) := by decide +kernel
theorem dX11_inverse_19 : decode cX11_inverse 19 = .ok (.iload_n 1, 1) := by decide +kernel
theorem dX11_inverse_20 : decode cX11_inverse 20 = .ok (.invokestatic 105, 3) := by decide +kernel
theorem dX11_inverse_23 : decode cX11_inverse 23 = .ok (.goto 4, 3) := by decide +kernel
end
section
theorem dX11_inverse_26 : decode cX11_inverse 26 = .ok (.lconst 0, 1) := by decide +kernel
theorem dX11_inverse_27 : decode cX11_inverse 27 = .ok (.lreturn, 1) := by decide +kernel
theorem dX11_tell_0 : decode cX11_tell 0 = .ok (.iload_n 1, 1) := by decide +kernel
theorem dX11_tell_1 : decode cX11_tell 1 = .ok (.ifCond .lt 8, 3) := by decide +kernel
theorem dX11_tell_4 : decode cX11_tell 4 = .ok (.iload_n 1, 1) := by decide +kernel
theorem dX11_tell_5 : decode cX11_tell 5 = .ok (.iconst 3, 1) := by decide +kernel
theorem dX11_tell_6 : decode cX11_tell 6 = .ok (.if_icmp .le 5, 3) := by decide +kernel
theorem dX11_tell_9 : decode cX11_tell 9 = .ok (.lconst 0, 1) := by decide +kernel
theorem dX11_tell_10 : decode cX11_tell 10 = .ok (.lreturn, 1) := by decide +kernel
theorem dX11_tell_11 : decode cX11_tell 11 = .ok (.aload_n 0, 1) := by decide +kernel
theorem dX11_tell_12 : decode cX11_tell 12 = .ok (.getfield 56, 3) := by decide +kernel
theorem dX11_tell_15 : decode cX11_tell 15 = .ok (.iload_n 1, 1) := by decide +kernel
theorem dX11_tell_16 : decode cX11_tell 16 = .ok (.laload, 1) := by decide +kernel
theorem dX11_tell_17 : decode cX11_tell 17 = .ok (.lstore 4, 2) := by decide +kernel
theorem dX11_tell_19 : decode cX11_tell 19 = .ok (.aload_n 0, 1) := by decide +kernel
theorem dX11_tell_20 : decode cX11_tell 20 = .ok (.getfield 56, 3) := by decide +kernel
theorem dX11_tell_23 : decode cX11_tell 23 = .ok (.iload_n 1, 1) := by decide +kernel
theorem dX11_tell_24 : decode cX11_tell 24 = .ok (.lload_n 2, 1) := by decide +kernel
theorem dX11_tell_25 : decode cX11_tell 25 = .ok (.lastore, 1) := by decide +kernel
theorem dX11_tell_26 : decode cX11_tell 26 = .ok (.aload_n 0, 1) := by decide +kernel
theorem dX11_tell_27 : decode cX11_tell 27 = .ok (.iconst 4, 1) := by decide +kernel
theorem dX11_tell_28 : decode cX11_tell 28 = .ok (.iload_n 1, 1) := by decide +kernel
theorem dX11_tell_29 : decode cX11_tell 29 = .ok (.iconst 0, 1) := by decide +kernel
theorem dX11_tell_30 : decode cX11_tell 30 = .ok (.lload 4, 2) := by decide +kernel
theorem dX11_tell_32 : decode cX11_tell 32 = .ok (.invokevirtual 160, 3) := by decide +kernel
theorem dX11_tell_35 : decode cX11_tell 35 = .ok (.lload 4, 2) := by decide +kernel
theorem dX11_tell_37 : decode cX11_tell 37 = .ok (.lreturn, 1) := by decide +kernel
theorem dX11_mayBe_0 : decode cX11_mayBe 0 = .ok (.aload_n 0, 1) := by decide +kernel
theorem dX11_mayBe_1 : decode cX11_mayBe 1 = .ok (.getfield 56, 3) := by decide +kernel
theorem dX11_mayBe_4 : decode cX11_mayBe 4 = .ok (.iload_n 2, 1) := by decide +kernel
theorem dX11_mayBe_5 : decode cX11_mayBe 5 = .ok (.laload, 1) := by decide +kernel
theorem dX11_mayBe_6 : decode cX11_mayBe 6 = .ok (.ldc2_w 261, 3) := by decide +kernel
theorem dX11_mayBe_9 : decode cX11_mayBe 9 = .ok (.land, 1) := by decide +kernel
theorem dX11_mayBe_10 : decode cX11_mayBe 10 = .ok (.lstore_n 3, 1) := by decide +kernel
theorem dX11_mayBe_11 : decode cX11_mayBe 11 = .ok (.iload_n 1, 1) := by decide +kernel
theorem dX11_mayBe_12 : decode cX11_mayBe 12 = .ok (.invokestatic 140, 3) := by decide +kernel
theorem dX11_mayBe_15 : decode cX11_mayBe 15 = .ok (.ifCond .eq 13, 3) := by decide +kernel
theorem dX11_mayBe_18 : decode cX11_mayBe 18 = .ok (.lload_n 3, 1) := by decide +kernel
theorem dX11_mayBe_19 : decode cX11_mayBe 19 = .ok (.ldc2_w 263, 3) := by decide +kernel
theorem dX11_mayBe_22 : decode cX11_mayBe 22 = .ok (.lcmp, 1) := by decide +kernel
theorem dX11_mayBe_23 : decode cX11_mayBe 23 = .ok (.ifCond .le 5, 3) := by decide +kernel
theorem dX11_mayBe_26 : decode cX11_mayBe 26 = .ok (.iconst 0, 1) := by decide +kernel
theorem dX11_mayBe_27 : decode cX11_mayBe 27 = .ok (.ireturn, 1) := by decide +kernel
theorem dX11_mayBe_28 : decode cX11_mayBe 28 = .ok (.iconst 0, 1) := by decide +kernel
theorem dX11_mayBe_29 : decode cX11_mayBe 29 = .ok (.istore 5, 2) := by decide +kernel
theorem dX11_mayBe_31 : decode cX11_mayBe 31 = .ok (.iload 5, 2) := by decide +kernel
theorem dX11_mayBe_33 : decode cX11_mayBe 33 = .ok (.iload_n 2, 1) := by decide +kernel
theorem dX11_mayBe_34 : decode cX11_mayBe 34 = .ok (.if_icmp .ge 27, 3) := by decide +kernel
theorem dX11_mayBe_37 : decode cX11_mayBe 37 = .ok (.aload_n 0, 1) := by decide +kernel
theorem dX11_mayBe_38 : decode cX11_mayBe 38 = .ok (.getfield 56, 3) := by decide +kernel
theorem dX11_mayBe_41 : decode cX11_mayBe 41 = .ok (.iload 5, 2) := by decide +kernel
theorem dX11_mayBe_43 : decode cX11_mayBe 43 = .ok (.laload, 1) := by decide +kernel
theorem dX11_mayBe_44 : decode cX11_mayBe 44 = .ok (.ldc2_w 261, 3) := by decide +kernel
theorem dX11_mayBe_47 : decode cX11_mayBe 47 = .ok (.land, 1) := by decide +kernel
theorem dX11_mayBe_48 : decode cX11_mayBe 48 = .ok (.lload_n 3, 1) := by decide +kernel
theorem dX11_mayBe_49 : decode cX11_mayBe 49 = .ok (.lcmp, 1) := by decide +kernel
theorem dX11_mayBe_50 : decode cX11_mayBe 50 = .ok (.ifCond .ne 5, 3) := by decide +kernel
theorem dX11_mayBe_53 : decode cX11_mayBe 53 = .ok (.iconst 0, 1) := by decide +kernel
theorem dX11_mayBe_54 : decode cX11_mayBe 54 = .ok (.ireturn, 1) := by decide +kernel
theorem dX11_mayBe_55 : decode cX11_mayBe 55 = .ok (.iinc 5 1, 3) := by decide +kernel
theorem dX11_mayBe_58 : decode cX11_mayBe 58 = .ok (.goto (-27), 3) := by decide +kernel
theorem dX11_mayBe_61 : decode cX11_mayBe 61 = .ok (.iconst 1, 1) := by decide +kernel
theorem dX11_mayBe_62 : decode cX11_mayBe 62 = .ok (.ireturn, 1) := by decide +kernel
theorem dX11_yOf_0 : decode cX11_yOf 0 = .ok (.iload_n 1, 1) := by decide +kernel
theorem dX11_yOf_1 : decode cX11_yOf 1 = .ok (.invokestatic 132, 3) := by decide +kernel
theorem dX11_yOf_4 : decode cX11_yOf 4 = .ok (.ifCond .eq 8, 3) := by decide +kernel
theorem dX11_yOf_7 : decode cX11_yOf 7 = .ok (.iload_n 2, 1) := by decide +kernel
theorem dX11_yOf_8 : decode cX11_yOf 8 = .ok (.i2l, 1) := by decide +kernel
theorem dX11_yOf_9 : decode cX11_yOf 9 = .ok (.goto 13, 3) := by decide +kernel
theorem dX11_yOf_12 : decode cX11_yOf 12 = .ok (.aload_n 0, 1) := by decide +kernel
theorem dX11_yOf_13 : decode cX11_yOf 13 = .ok (.getfield 56, 3) := by decide +kernel
theorem dX11_yOf_16 : decode cX11_yOf 16 = .ok (.iload_n 2, 1) := by decide +kernel
theorem dX11_yOf_17 : decode cX11_yOf 17 = .ok (.laload, 1) := by decide +kernel
theorem dX11_yOf_18 : decode cX11_yOf 18 = .ok (.ldc2_w 261, 3) := by decide +kernel
theorem dX11_yOf_21 : decode cX11_yOf 21 = .ok (.land, 1) := by decide +kernel
theorem dX11_yOf_22 : decode cX11_yOf 22 = .ok (.lreturn, 1) := by decide +kernel
theorem dX11_tryStep_0 : decode cX11_tryStep 0 = .ok (.iload_n 1, 1) := by decide +kernel
theorem dX11_tryStep_1 : decode cX11_tryStep 1 = .ok (.iload_n 2, 1) := by decide +kernel
theorem dX11_tryStep_2 : decode cX11_tryStep 2 = .ok (.iconst 1, 1) := by decide +kernel
theorem dX11_tryStep_3 : decode cX11_tryStep 3 = .ok (.isub, 1) := by decide +kernel
theorem dX11_tryStep_4 : decode cX11_tryStep 4 = .ok (.if_icmp .ne 7, 3) := by decide +kernel
theorem dX11_tryStep_7 : decode cX11_tryStep 7 = .ok (.iconst 1, 1) := by decide +kernel
theorem dX11_tryStep_8 : decode cX11_tryStep 8 = .ok (.goto 4, 3) := by decide +kernel
theorem dX11_tryStep_11 : decode cX11_tryStep 11 = .ok (.iconst 0, 1) := by decide +kernel
theorem dX11_tryStep_12 : decode cX11_tryStep 12 = .ok (.istore 4, 2) := by decide +kernel
theorem dX11_tryStep_14 : decode cX11_tryStep 14 = .ok (.iconst 0, 1) := by decide +kernel
theorem dX11_tryStep_15 : decode cX11_tryStep 15 = .ok (.istore 5, 2) := by decide +kernel
theorem dX11_tryStep_17 : decode cX11_tryStep 17 = .ok (.iload 5, 2) := by decide +kernel
theorem dX11_tryStep_19 : decode cX11_tryStep 19 = .ok (.bipush 13, 2) := by decide +kernel
theorem dX11_tryStep_21 : decode cX11_tryStep 21 = .ok (.if_icmp .ge 171, 3) := by decide +kernel
theorem dX11_tryStep_24 : decode cX11_tryStep 24 = .ok (.iload_n 3, 1) := by decide +kernel
theorem dX11_tryStep_25 : decode cX11_tryStep 25 = .ok (.aload_n 0, 1) := by decide +kernel
theorem dX11_tryStep_26 : decode cX11_tryStep 26 = .ok (.getfield 26, 3) := by decide +kernel
theorem dX11_tryStep_29 : decode cX11_tryStep 29 = .ok (.iload 5, 2) := by decide +kernel
theorem dX11_tryStep_31 : decode cX11_tryStep 31 = .ok (.iaload, 1) := by decide +kernel
theorem dX11_tryStep_32 : decode cX11_tryStep 32 = .ok (.iadd, 1) := by decide +kernel
theorem dX11_tryStep_33 : decode cX11_tryStep 33 = .ok (.istore 6, 2) := by decide +kernel
theorem dX11_tryStep_35 : decode cX11_tryStep 35 = .ok (.iload 6, 2) := by decide +kernel
theorem dX11_tryStep_37 : decode cX11_tryStep 37 = .ok (.aload_n 0, 1) := by decide +kernel
theorem dX11_tryStep_38 : decode cX11_tryStep 38 = .ok (.getfield 265, 3) := by decide +kernel
theorem dX11_tryStep_41 : decode cX11_tryStep 41 = .ok (.if_icmp .lt 6, 3) := by decide +kernel
theorem dX11_tryStep_44 : decode cX11_tryStep 44 = .ok (.goto 142, 3) := by decide +kernel
theorem dX11_tryStep_47 : decode cX11_tryStep 47 = .ok (.iconst 0, 1) := by decide +kernel
theorem dX11_tryStep_48 : decode cX11_tryStep 48 = .ok (.istore 7, 2) := by decide +kernel
theorem dX11_tryStep_50 : decode cX11_tryStep 50 = .ok (.iload 7, 2) := by decide +kernel
theorem dX11_tryStep_52 : decode cX11_tryStep 52 = .ok (.iload_n 1, 1) := by decide +kernel
theorem dX11_tryStep_53 : decode cX11_tryStep 53 = .ok (.if_icmp .gt 133, 3) := by decide +kernel
theorem dX11_tryStep_56 : decode cX11_tryStep 56 = .ok (.iload 5, 2) := by decide +kernel
theorem dX11_tryStep_58 : decode cX11_tryStep 58 = .ok (.invokestatic 132, 3) := by decide +kernel
theorem dX11_tryStep_61 : decode cX11_tryStep 61 = .ok (.ifCond .eq 7, 3) := by decide +kernel
theorem dX11_tryStep_64 : decode cX11_tryStep 64 = .ok (.iload_n 1, 1) := by decide +kernel
theorem dX11_tryStep_65 : decode cX11_tryStep 65 = .ok (.goto 4, 3) := by decide +kernel
theorem dX11_tryStep_68 : decode cX11_tryStep 68 = .ok (.iconst 3, 1) := by decide +kernel
theorem dX11_tryStep_69 : decode cX11_tryStep 69 = .ok (.istore 8, 2) := by decide +kernel
theorem dX11_tryStep_71 : decode cX11_tryStep 71 = .ok (.iconst 0, 1) := by decide +kernel
theorem dX11_tryStep_72 : decode cX11_tryStep 72 = .ok (.istore 9, 2) := by decide +kernel
theorem dX11_tryStep_74 : decode cX11_tryStep 74 = .ok (.iload 9, 2) := by decide +kernel
theorem dX11_tryStep_76 : decode cX11_tryStep 76 = .ok (.iload 8, 2) := by decide +kernel
theorem dX11_tryStep_78 : decode cX11_tryStep 78 = .ok (.if_icmp .gt 102, 3) := by decide +kernel
theorem dX11_tryStep_81 : decode cX11_tryStep 81 = .ok (.iload 5, 2) := by decide +kernel
theorem dX11_tryStep_83 : decode cX11_tryStep 83 = .ok (.invokestatic 132, 3) := by decide +kernel
theorem dX11_tryStep_86 : decode cX11_tryStep 86 = .ok (.ifCond .ne 17, 3) := by decide +kernel
theorem dX11_tryStep_89 : decode cX11_tryStep 89 = .ok (.aload_n 0, 1) := by decide +kernel
theorem dX11_tryStep_90 : decode cX11_tryStep 90 = .ok (.iload 5, 2) := by decide +kernel
theorem dX11_tryStep_92 : decode cX11_tryStep 92 = .ok (.iload 9, 2) := by decide +kernel
theorem dX11_tryStep_94 : decode cX11_tryStep 94 = .ok (.invokevirtual 268, 3) := by decide +kernel
theorem dX11_tryStep_97 : decode cX11_tryStep 97 = .ok (.ifCond .ne 6, 3) := by decide +kernel
theorem dX11_tryStep_100 : decode cX11_tryStep 100 = .ok (.goto 74, 3) := by decide +kernel
theorem dX11_tryStep_103 : decode cX11_tryStep 103 = .ok (.aload_n 0, 1) := by decide +kernel
theorem dX11_tryStep_104 : decode cX11_tryStep 104 = .ok (.getfield 69, 3) := by decide +kernel
theorem dX11_tryStep_107 : decode cX11_tryStep 107 = .ok (.iload_n 1, 1) := by decide +kernel
theorem dX11_tryStep_108 : decode cX11_tryStep 108 = .ok (.iload 5, 2) := by decide +kernel
theorem dX11_tryStep_110 : decode cX11_tryStep 110 = .ok (.iastore, 1) := by decide +kernel
theorem dX11_tryStep_111 : decode cX11_tryStep 111 = .ok (.aload_n 0, 1) := by decide +kernel
theorem dX11_tryStep_112 : decode cX11_tryStep 112 = .ok (.getfield 72, 3) := by decide +kernel
theorem dX11_tryStep_115 : decode cX11_tryStep 115 = .ok (.iload_n 1, 1) := by decide +kernel
theorem dX11_tryStep_116 : decode cX11_tryStep 116 = .ok (.iload 7, 2) := by decide +kernel
theorem dX11_tryStep_118 : decode cX11_tryStep 118 = .ok (.iastore, 1) := by decide +kernel
theorem dX11_tryStep_119 : decode cX11_tryStep 119 = .ok (.aload_n 0, 1) := by decide +kernel
theorem dX11_tryStep_120 : decode cX11_tryStep 120 = .ok (.getfield 75, 3) := by decide +kernel
theorem dX11_tryStep_123 : decode cX11_tryStep 123 = .ok (.iload_n 1, 1) := by decide +kernel
theorem dX11_tryStep_124 : decode cX11_tryStep 124 = .ok (.iload 9, 2) := by decide +kernel
theorem dX11_tryStep_126 : decode cX11_tryStep 126 = .ok (.iastore, 1) := by decide +kernel
theorem dX11_tryStep_127 : decode cX11_tryStep 127 = .ok (.iload 6, 2) := by decide +kernel
theorem dX11_tryStep_129 : decode cX11_tryStep 129 = .ok (.aload_n 0, 1) := by decide +kernel
theorem dX11_tryStep_130 : decode cX11_tryStep 130 = .ok (.getfield 265, 3) := by decide +kernel
theorem dX11_tryStep_133 : decode cX11_tryStep 133 = .ok (.if_icmp .lt 6, 3) := by decide +kernel
theorem dX11_tryStep_136 : decode cX11_tryStep 136 = .ok (.goto 38, 3) := by decide +kernel
theorem dX11_tryStep_139 : decode cX11_tryStep 139 = .ok (.iload 4, 2) := by decide +kernel
theorem dX11_tryStep_141 : decode cX11_tryStep 141 = .ok (.ifCond .eq 13, 3) := by decide +kernel
theorem dX11_tryStep_144 : decode cX11_tryStep 144 = .ok (.aload_n 0, 1) := by decide +kernel
theorem dX11_tryStep_145 : decode cX11_tryStep 145 = .ok (.iload_n 1, 1) := by decide +kernel
theorem dX11_tryStep_146 : decode cX11_tryStep 146 = .ok (.iload 6, 2) := by decide +kernel
theorem dX11_tryStep_148 : decode cX11_tryStep 148 = .ok (.invokevirtual 272, 3) := by decide +kernel
theorem dX11_tryStep_151 : decode cX11_tryStep 151 = .ok (.goto 8, 3) := by decide +kernel
theorem dX11_tryStep_154 : decode cX11_tryStep 154 = .ok (.aload_n 0, 1) := by decide +kernel
theorem dX11_tryStep_155 : decode cX11_tryStep 155 = .ok (.iload_n 1, 1) := by decide +kernel
theorem dX11_tryStep_156 : decode cX11_tryStep 156 = .ok (.invokevirtual 275, 3) := by decide +kernel
theorem dX11_tryStep_159 : decode cX11_tryStep 159 = .ok (.iload 4, 2) := by decide +kernel
theorem dX11_tryStep_161 : decode cX11_tryStep 161 = .ok (.ifCond .ne 13, 3) := by decide +kernel
theorem dX11_tryStep_164 : decode cX11_tryStep 164 = .ok (.aload_n 0, 1) := by decide +kernel
theorem dX11_tryStep_165 : decode cX11_tryStep 165 = .ok (.iload_n 1, 1) := by decide +kernel
theorem dX11_tryStep_166 : decode cX11_tryStep 166 = .ok (.iconst 1, 1) := by decide +kernel
theorem dX11_tryStep_167 : decode cX11_tryStep 167 = .ok (.iadd, 1) := by decide +kernel
theorem dX11_tryStep_168 : decode cX11_tryStep 168 = .ok (.iload_n 2, 1) := by decide +kernel
theorem dX11_tryStep_169 : decode cX11_tryStep 169 = .ok (.iload 6, 2) := by decide +kernel
theorem dX11_tryStep_171 : decode cX11_tryStep 171 = .ok (.invokevirtual 278, 3) := by decide +kernel
theorem dX11_tryStep_174 : decode cX11_tryStep 174 = .ok (.iinc 9 1, 3) := by decide +kernel
theorem dX11_tryStep_177 : decode cX11_tryStep 177 = .ok (.goto (-103), 3) := by decide +kernel
theorem dX11_tryStep_180 : decode cX11_tryStep 180 = .ok (.iinc 7 1, 3) := by decide +kernel
theorem dX11_tryStep_183 : decode cX11_tryStep 183 = .ok (.goto (-133), 3) := by decide +kernel
theorem dX11_tryStep_186 : decode cX11_tryStep 186 = .ok (.iinc 5 1, 3) := by decide +kernel
theorem dX11_tryStep_189 : decode cX11_tryStep 189 = .ok (.goto (-172), 3) := by decide +kernel
theorem dX11_tryStep_192 : decode cX11_tryStep 192 = .ok (.return_, 1) := by decide +kernel
theorem dX11_madeBy_0 : decode cX11_madeBy 0 = .ok (.aload_n 0, 1) := by decide +kernel
theorem dX11_madeBy_1 : decode cX11_madeBy 1 = .ok (.getfield 69, 3) := by decide +kernel
theorem dX11_madeBy_4 : decode cX11_madeBy 4 = .ok (.iload_n 1, 1) := by decide +kernel
theorem dX11_madeBy_5 : decode cX11_madeBy 5 = .ok (.iaload, 1) := by decide +kernel
theorem dX11_madeBy_6 : decode cX11_madeBy 6 = .ok (.invokestatic 132, 3) := by decide +kernel
theorem dX11_madeBy_9 : decode cX11_madeBy 9 = .ok (.ifCond .eq 24, 3) := by decide +kernel
theorem dX11_madeBy_12 : decode cX11_madeBy 12 = .ok (.aload_n 0, 1) := by decide +kernel
theorem dX11_madeBy_13 : decode cX11_madeBy 13 = .ok (.getfield 59, 3) := by decide +kernel
theorem dX11_madeBy_16 : decode cX11_madeBy 16 = .ok (.sipush 256, 3) := by decide +kernel
theorem dX11_madeBy_19 : decode cX11_madeBy 19 = .ok (.aload_n 0, 1) := by decide +kernel
theorem dX11_madeBy_20 : decode cX11_madeBy 20 = .ok (.getfield 75, 3) := by decide +kernel
theorem dX11_madeBy_23 : decode cX11_madeBy 23 = .ok (.iload_n 1, 1) := by decide +kernel
theorem dX11_madeBy_24 : decode cX11_madeBy 24 = .ok (.iaload, 1) := by decide +kernel
theorem dX11_madeBy_25 : decode cX11_madeBy 25 = .ok (.imul, 1) := by decide +kernel
theorem dX11_madeBy_26 : decode cX11_madeBy 26 = .ok (.iload_n 2, 1) := by decide +kernel
theorem dX11_madeBy_27 : decode cX11_madeBy 27 = .ok (.iadd, 1) := by decide +kernel
theorem dX11_madeBy_28 : decode cX11_madeBy 28 = .ok (.iaload, 1) := by decide +kernel
theorem dX11_madeBy_29 : decode cX11_madeBy 29 = .ok (.i2l, 1) := by decide +kernel
theorem dX11_madeBy_30 : decode cX11_madeBy 30 = .ok (.goto 18, 3) := by decide +kernel
theorem dX11_madeBy_33 : decode cX11_madeBy 33 = .ok (.aload_n 0, 1) := by decide +kernel
theorem dX11_madeBy_34 : decode cX11_madeBy 34 = .ok (.getfield 56, 3) := by decide +kernel
theorem dX11_madeBy_37 : decode cX11_madeBy 37 = .ok (.aload_n 0, 1) := by decide +kernel
theorem dX11_madeBy_38 : decode cX11_madeBy 38 = .ok (.getfield 75, 3) := by decide +kernel
theorem dX11_madeBy_41 : decode cX11_madeBy 41 = .ok (.iload_n 1, 1) := by decide +kernel
theorem dX11_madeBy_42 : decode cX11_madeBy 42 = .ok (.iaload, 1) := by decide +kernel
theorem dX11_madeBy_43 : decode cX11_madeBy 43 = .ok (.laload, 1) := by decide +kernel
theorem dX11_madeBy_44 : decode cX11_madeBy 44 = .ok (.ldc2_w 261, 3) := by decide +kernel
theorem dX11_madeBy_47 : decode cX11_madeBy 47 = .ok (.land, 1) := by decide +kernel
theorem dX11_madeBy_48 : decode cX11_madeBy 48 = .ok (.lstore_n 3, 1) := by decide +kernel
theorem dX11_madeBy_49 : decode cX11_madeBy 49 = .ok (.aload_n 0, 1) := by decide +kernel
theorem dX11_madeBy_50 : decode cX11_madeBy 50 = .ok (.getfield 69, 3) := by decide +kernel
theorem dX11_madeBy_53 : decode cX11_madeBy 53 = .ok (.iload_n 1, 1) := by decide +kernel
theorem dX11_madeBy_54 : decode cX11_madeBy 54 = .ok (.iaload, 1) := by decide +kernel
theorem dX11_madeBy_55 : decode cX11_madeBy 55 = .ok (.aload_n 0, 1) := by decide +kernel
theorem dX11_madeBy_56 : decode cX11_madeBy 56 = .ok (.getfield 59, 3) := by decide +kernel
theorem dX11_madeBy_59 : decode cX11_madeBy 59 = .ok (.sipush 256, 3) := by decide +kernel
theorem dX11_madeBy_62 : decode cX11_madeBy 62 = .ok (.aload_n 0, 1) := by decide +kernel
theorem dX11_madeBy_63 : decode cX11_madeBy 63 = .ok (.getfield 72, 3) := by decide +kernel
theorem dX11_madeBy_66 : decode cX11_madeBy 66 = .ok (.iload_n 1, 1) := by decide +kernel
theorem dX11_madeBy_67 : decode cX11_madeBy 67 = .ok (.iaload, 1) := by decide +kernel
theorem dX11_madeBy_68 : decode cX11_madeBy 68 = .ok (.imul, 1) := by decide +kernel
theorem dX11_madeBy_69 : decode cX11_madeBy 69 = .ok (.iload_n 2, 1) := by decide +kernel
theorem dX11_madeBy_70 : decode cX11_madeBy 70 = .ok (.iadd, 1) := by decide +kernel
theorem dX11_madeBy_71 : decode cX11_madeBy 71 = .ok (.iaload, 1) := by decide +kernel
theorem dX11_madeBy_72 : decode cX11_madeBy 72 = .ok (.i2l, 1) := by decide +kernel
theorem dX11_madeBy_73 : decode cX11_madeBy 73 = .ok (.lload_n 3, 1) := by decide +kernel
theorem dX11_madeBy_74 : decode cX11_madeBy 74 = .ok (.bipush 8, 2) := by decide +kernel
theorem dX11_madeBy_76 : decode cX11_madeBy 76 = .ok (.invokestatic 136, 3) := by decide +kernel
theorem dX11_madeBy_79 : decode cX11_madeBy 79 = .ok (.l2i, 1) := by decide +kernel
theorem dX11_madeBy_80 : decode cX11_madeBy 80 = .ok (.ireturn, 1) := by decide +kernel
theorem dX11_fill_0 : decode cX11_fill 0 = .ok (.iconst 0, 1) := by decide +kernel
theorem dX11_fill_1 : decode cX11_fill 1 = .ok (.istore_n 2, 1) := by decide +kernel
theorem dX11_fill_2 : decode cX11_fill 2 = .ok (.iload_n 2, 1) := by decide +kernel
theorem dX11_fill_3 : decode cX11_fill 3 = .ok (.sipush 256, 3) := by decide +kernel
theorem dX11_fill_6 : decode cX11_fill 6 = .ok (.if_icmp .ge 29, 3) := by decide +kernel
theorem dX11_fill_9 : decode cX11_fill 9 = .ok (.aload_n 0, 1) := by decide +kernel
theorem dX11_fill_10 : decode cX11_fill 10 = .ok (.getfield 59, 3) := by decide +kernel
theorem dX11_fill_13 : decode cX11_fill 13 = .ok (.sipush 256, 3) := by decide +kernel
theorem dX11_fill_16 : decode cX11_fill 16 = .ok (.iload_n 1, 1) := by decide +kernel
theorem dX11_fill_17 : decode cX11_fill 17 = .ok (.iconst 1, 1) := by decide +kernel
theorem dX11_fill_18 : decode cX11_fill 18 = .ok (.iadd, 1) := by decide +kernel
theorem dX11_fill_19 : decode cX11_fill 19 = .ok (.imul, 1) := by decide +kernel
theorem dX11_fill_20 : decode cX11_fill 20 = .ok (.iload_n 2, 1) := by decide +kernel
theorem dX11_fill_21 : decode cX11_fill 21 = .ok (.iadd, 1) := by decide +kernel
theorem dX11_fill_22 : decode cX11_fill 22 = .ok (.aload_n 0, 1) := by decide +kernel
theorem dX11_fill_23 : decode cX11_fill 23 = .ok (.iload_n 1, 1) := by decide +kernel
theorem dX11_fill_24 : decode cX11_fill 24 = .ok (.iload_n 2, 1) := by decide +kernel
theorem dX11_fill_25 : decode cX11_fill 25 = .ok (.invokevirtual 282, 3) := by decide +kernel
theorem dX11_fill_28 : decode cX11_fill 28 = .ok (.iastore, 1) := by decide +kernel
theorem dX11_fill_29 : decode cX11_fill 29 = .ok (.iinc 2 1, 3) := by decide +kernel
theorem dX11_fill_32 : decode cX11_fill 32 = .ok (.goto (-30), 3) := by decide +kernel
theorem dX11_fill_35 : decode cX11_fill 35 = .ok (.return_, 1) := by decide +kernel
theorem dX11_look_0 : decode cX11_look 0 = .ok (.iconst 0, 1) := by decide +kernel
theorem dX11_look_1 : decode cX11_look 1 = .ok (.istore_n 3, 1) := by decide +kernel
theorem dX11_look_2 : decode cX11_look 2 = .ok (.iload_n 3, 1) := by decide +kernel
theorem dX11_look_3 : decode cX11_look 3 = .ok (.sipush 256, 3) := by decide +kernel
theorem dX11_look_6 : decode cX11_look 6 = .ok (.if_icmp .ge 34, 3) := by decide +kernel
theorem dX11_look_9 : decode cX11_look 9 = .ok (.aload_n 0, 1) := by decide +kernel
theorem dX11_look_10 : decode cX11_look 10 = .ok (.getfield 65, 3) := by decide +kernel
theorem dX11_look_13 : decode cX11_look 13 = .ok (.iload_n 3, 1) := by decide +kernel
theorem dX11_look_14 : decode cX11_look 14 = .ok (.baload, 1) := by decide +kernel
theorem dX11_look_15 : decode cX11_look 15 = .ok (.ifCond .eq 19, 3) := by decide +kernel
theorem dX11_look_18 : decode cX11_look 18 = .ok (.aload_n 0, 1) := by decide +kernel
theorem dX11_look_19 : decode cX11_look 19 = .ok (.iload_n 1, 1) := by decide +kernel
theorem dX11_look_20 : decode cX11_look 20 = .ok (.iload_n 3, 1) := by decide +kernel
theorem dX11_look_21 : decode cX11_look 21 = .ok (.invokevirtual 282, 3) := by decide +kernel
theorem dX11_look_24 : decode cX11_look 24 = .ok (.aload_n 0, 1) := by decide +kernel
theorem dX11_look_25 : decode cX11_look 25 = .ok (.getfield 62, 3) := by decide +kernel
theorem dX11_look_28 : decode cX11_look 28 = .ok (.iload_n 3, 1) := by decide +kernel
theorem dX11_look_29 : decode cX11_look 29 = .ok (.iaload, 1) := by decide +kernel
theorem dX11_look_30 : decode cX11_look 30 = .ok (.if_icmp .eq 4, 3) := by decide +kernel
theorem dX11_look_33 : decode cX11_look 33 = .ok (.return_, 1) := by decide +kernel
theorem dX11_look_34 : decode cX11_look 34 = .ok (.iinc 3 1, 3) := by decide +kernel
theorem dX11_look_37 : decode cX11_look 37 = .ok (.goto (-35), 3) := by decide +kernel
theorem dX11_look_40 : decode cX11_look 40 = .ok (.aload_n 0, 1) := by decide +kernel
theorem dX11_look_41 : decode cX11_look 41 = .ok (.iload_n 2, 1) := by decide +kernel
theorem dX11_look_42 : decode cX11_look 42 = .ok (.putfield 265, 3) := by decide +kernel
theorem dX11_look_45 : decode cX11_look 45 = .ok (.aload_n 0, 1) := by decide +kernel
theorem dX11_look_46 : decode cX11_look 46 = .ok (.iload_n 1, 1) := by decide +kernel
theorem dX11_look_47 : decode cX11_look 47 = .ok (.iconst 1, 1) := by decide +kernel
theorem dX11_look_48 : decode cX11_look 48 = .ok (.iadd, 1) := by decide +kernel
theorem dX11_look_49 : decode cX11_look 49 = .ok (.putfield 285, 3) := by decide +kernel
theorem dX11_look_52 : decode cX11_look 52 = .ok (.iconst 0, 1) := by decide +kernel
theorem dX11_look_53 : decode cX11_look 53 = .ok (.istore_n 3, 1) := by decide +kernel
theorem dX11_look_54 : decode cX11_look 54 = .ok (.iload_n 3, 1) := by decide +kernel
theorem dX11_look_55 : decode cX11_look 55 = .ok (.iload_n 1, 1) := by decide +kernel
theorem dX11_look_56 : decode cX11_look 56 = .ok (.if_icmp .gt 55, 3) := by decide +kernel
theorem dX11_look_59 : decode cX11_look 59 = .ok (.aload_n 0, 1) := by decide +kernel
theorem dX11_look_60 : decode cX11_look 60 = .ok (.getfield 78, 3) := by decide +kernel
theorem dX11_look_63 : decode cX11_look 63 = .ok (.iload_n 3, 1) := by decide +kernel
theorem dX11_look_64 : decode cX11_look 64 = .ok (.aload_n 0, 1) := by decide +kernel
theorem dX11_look_65 : decode cX11_look 65 = .ok (.getfield 69, 3) := by decide +kernel
theorem dX11_look_68 : decode cX11_look 68 = .ok (.iload_n 3, 1) := by decide +kernel
theorem dX11_look_69 : decode cX11_look 69 = .ok (.iaload, 1) := by decide +kernel
theorem dX11_look_70 : decode cX11_look 70 = .ok (.iastore, 1) := by decide +kernel
theorem dX11_look_71 : decode cX11_look 71 = .ok (.aload_n 0, 1) := by decide +kernel
theorem dX11_look_72 : decode cX11_look 72 = .ok (.getfield 81, 3) := by decide +kernel
theorem dX11_look_75 : decode cX11_look 75 = .ok (.iload_n 3, 1) := by decide +kernel
theorem dX11_look_76 : decode cX11_look 76 = .ok (.aload_n 0, 1) := by decide +kernel
theorem dX11_look_77 : decode cX11_look 77 = .ok (.getfield 72, 3) := by decide +kernel
theorem dX11_look_80 : decode cX11_look 80 = .ok (.iload_n 3, 1) := by decide +kernel
theorem dX11_look_81 : decode cX11_look 81 = .ok (.iaload, 1) := by decide +kernel
theorem dX11_look_82 : decode cX11_look 82 = .ok (.iastore, 1) := by decide +kernel
theorem dX11_look_83 : decode cX11_look 83 = .ok (.aload_n 0, 1) := by decide +kernel
theorem dX11_look_84 : decode cX11_look 84 = .ok (.getfield 84, 3) := by decide +kernel
theorem dX11_look_87 : decode cX11_look 87 = .ok (.iload_n 3, 1) := by decide +kernel
theorem dX11_look_88 : decode cX11_look 88 = .ok (.aload_n 0, 1) := by decide +kernel
theorem dX11_look_89 : decode cX11_look 89 = .ok (.aload_n 0, 1) := by decide +kernel
theorem dX11_look_90 : decode cX11_look 90 = .ok (.getfield 69, 3) := by decide +kernel
theorem dX11_look_93 : decode cX11_look 93 = .ok (.iload_n 3, 1) := by decide +kernel
theorem dX11_look_94 : decode cX11_look 94 = .ok (.iaload, 1) := by decide +kernel
theorem dX11_look_95 : decode cX11_look 95 = .ok (.aload_n 0, 1) := by decide +kernel
theorem dX11_look_96 : decode cX11_look 96 = .ok (.getfield 75, 3) := by decide +kernel
theorem dX11_look_99 : decode cX11_look 99 = .ok (.iload_n 3, 1) := by decide +kernel
theorem dX11_look_100 : decode cX11_look 100 = .ok (.iaload, 1) := by decide +kernel
theorem dX11_look_101 : decode cX11_look 101 = .ok (.invokevirtual 288, 3) := by decide +kernel
theorem dX11_look_104 : decode cX11_look 104 = .ok (.lastore, 1) := by decide +kernel
theorem dX11_look_105 : decode cX11_look 105 = .ok (.iinc 3 1, 3) := by decide +kernel
theorem dX11_look_108 : decode cX11_look 108 = .ok (.goto (-54), 3) := by decide +kernel
theorem dX11_look_111 : decode cX11_look 111 = .ok (.return_, 1) := by decide +kernel
theorem dX11_least_0 : decode cX11_least 0 = .ok (.iload 5, 2) := by decide +kernel
theorem dX11_least_2 : decode cX11_least 2 = .ok (.iconst 1, 1) := by decide +kernel
theorem dX11_least_3 : decode cX11_least 3 = .ok (.if_icmp .lt 21, 3) := by decide +kernel
theorem dX11_least_6 : decode cX11_least 6 = .ok (.iload 5, 2) := by decide +kernel
theorem dX11_least_8 : decode cX11_least 8 = .ok (.iconst 3, 1) := by decide +kernel
theorem dX11_least_9 : decode cX11_least 9 = .ok (.if_icmp .gt 15, 3) := by decide +kernel
theorem dX11_least_12 : decode cX11_least 12 = .ok (.aload_n 0, 1) := by decide +kernel
theorem dX11_least_13 : decode cX11_least 13 = .ok (.bipush 8, 2) := by decide +kernel
theorem dX11_least_15 : decode cX11_least 15 = .ok (.iload_n 1, 1) := by decide +kernel
theorem dX11_least_16 : decode cX11_least 16 = .ok (.iload_n 2, 1) := by decide +kernel
theorem dX11_least_17 : decode cX11_least 17 = .ok (.lload_n 3, 1) := by decide +kernel
theorem dX11_least_18 : decode cX11_least 18 = .ok (.invokevirtual 222, 3) := by decide +kernel
theorem dX11_least_21 : decode cX11_least 21 = .ok (.ifCond .ne 5, 3) := by decide +kernel
theorem dX11_least_24 : decode cX11_least 24 = .ok (.iconst (-1), 1) := by decide +kernel
theorem dX11_least_25 : decode cX11_least 25 = .ok (.ireturn, 1) := by decide +kernel
theorem dX11_least_26 : decode cX11_least 26 = .ok (.aload_n 0, 1) := by decide +kernel
theorem dX11_least_27 : decode cX11_least 27 = .ok (.getfield 118, 3) := by decide +kernel
theorem dX11_least_30 : decode cX11_least 30 = .ok (.bipush 60, 2) := by decide +kernel
theorem dX11_least_32 : decode cX11_least 32 = .ok (.if_icmp .eq 12, 3) := by decide +kernel
theorem dX11_least_35 : decode cX11_least 35 = .ok (.aload_n 0, 1) := by decide +kernel
theorem dX11_least_36 : decode cX11_least 36 = .ok (.getfield 292, 3) := by decide +kernel
theorem dX11_least_39 : decode cX11_least 39 = .ok (.bipush 12, 2) := by decide +kernel
theorem dX11_least_41 : decode cX11_least 41 = .ok (.if_icmp .ne 6, 3) := by decide +kernel
theorem dX11_least_44 : decode cX11_least 44 = .ok (.bipush (-2), 2) := by decide +kernel
theorem dX11_least_46 : decode cX11_least 46 = .ok (.ireturn, 1) := by decide +kernel
theorem dX11_least_47 : decode cX11_least 47 = .ok (.aload_n 0, 1) := by decide +kernel
theorem dX11_least_48 : decode cX11_least 48 = .ok (.dup, 1) := by decide +kernel
theorem dX11_least_49 : decode cX11_least 49 = .ok (.getfield 292, 3) := by decide +kernel
theorem dX11_least_52 : decode cX11_least 52 = .ok (.iconst 1, 1) := by decide +kernel
theorem dX11_least_53 : decode cX11_least 53 = .ok (.iadd, 1) := by decide +kernel
theorem dX11_least_54 : decode cX11_least 54 = .ok (.putfield 292, 3) := by decide +kernel
theorem dX11_least_57 : decode cX11_least 57 = .ok (.iconst 0, 1) := by decide +kernel
theorem dX11_least_58 : decode cX11_least 58 = .ok (.istore 6, 2) := by decide +kernel
theorem dX11_least_60 : decode cX11_least 60 = .ok (.iload 6, 2) := by decide +kernel
theorem dX11_least_62 : decode cX11_least 62 = .ok (.sipush 256, 3) := by decide +kernel
theorem dX11_least_65 : decode cX11_least 65 = .ok (.if_icmp .ge 67, 3) := by decide +kernel
theorem dX11_least_68 : decode cX11_least 68 = .ok (.aload_n 0, 1) := by decide +kernel
theorem dX11_least_69 : decode cX11_least 69 = .ok (.getfield 59, 3) := by decide +kernel
theorem dX11_least_72 : decode cX11_least 72 = .ok (.iload 6, 2) := by decide +kernel
theorem dX11_least_74 : decode cX11_least 74 = .ok (.iload 6, 2) := by decide +kernel
theorem dX11_least_76 : decode cX11_least 76 = .ok (.iastore, 1) := by decide +kernel
theorem dX11_least_77 : decode cX11_least 77 = .ok (.aload_n 0, 1) := by decide +kernel
theorem dX11_least_78 : decode cX11_least 78 = .ok (.getfield 62, 3) := by decide +kernel
theorem dX11_least_81 : decode cX11_least 81 = .ok (.iload 6, 2) := by decide +kernel
theorem dX11_least_83 : decode cX11_least 83 = .ok (.aload_n 0, 1) := by decide +kernel
theorem dX11_least_84 : decode cX11_least 84 = .ok (.bipush 8, 2) := by decide +kernel
theorem dX11_least_86 : decode cX11_least 86 = .ok (.iload_n 1, 1) := by decide +kernel
theorem dX11_least_87 : decode cX11_least 87 = .ok (.iload_n 2, 1) := by decide +kernel
theorem dX11_least_88 : decode cX11_least 88 = .ok (.lload_n 3, 1) := by decide +kernel
theorem dX11_least_89 : decode cX11_least 89 = .ok (.bipush 8, 2) := by decide +kernel
theorem dX11_least_91 : decode cX11_least 91 = .ok (.invokestatic 105, 3) := by decide +kernel
theorem dX11_least_94 : decode cX11_least 94 = .ok (.iload 6, 2) := by decide +kernel
theorem dX11_least_96 : decode cX11_least 96 = .ok (.i2l, 1) := by decide +kernel
theorem dX11_least_97 : decode cX11_least 97 = .ok (.invokevirtual 247, 3) := by decide +kernel
theorem dX11_least_100 : decode cX11_least 100 = .ok (.l2i, 1) := by decide +kernel
theorem dX11_least_101 : decode cX11_least 101 = .ok (.iastore, 1) := by decide +kernel
theorem dX11_least_102 : decode cX11_least 102 = .ok (.aload_n 0, 1) := by decide +kernel
theorem dX11_least_103 : decode cX11_least 103 = .ok (.getfield 65, 3) := by decide +kernel
theorem dX11_least_106 : decode cX11_least 106 = .ok (.iload 6, 2) := by decide +kernel
theorem dX11_least_108 : decode cX11_least 108 = .ok (.iload_n 2, 1) := by decide +kernel
theorem dX11_least_109 : decode cX11_least 109 = .ok (.iconst 5, 1) := by decide +kernel
theorem dX11_least_110 : decode cX11_least 110 = .ok (.if_icmp .ne 10, 3) := by decide +kernel
theorem dX11_least_113 : decode cX11_least 113 = .ok (.aload_n 0, 1) := by decide +kernel
theorem dX11_least_114 : decode cX11_least 114 = .ok (.getfield 243, 3) := by decide +kernel
theorem dX11_least_117 : decode cX11_least 117 = .ok (.ifCond .ne 7, 3) := by decide +kernel
theorem dX11_least_120 : decode cX11_least 120 = .ok (.iconst 1, 1) := by decide +kernel
theorem dX11_least_121 : decode cX11_least 121 = .ok (.goto 4, 3) := by decide +kernel
theorem dX11_least_124 : decode cX11_least 124 = .ok (.iconst 0, 1) := by decide +kernel
theorem dX11_least_125 : decode cX11_least 125 = .ok (.bastore, 1) := by decide +kernel
theorem dX11_least_126 : decode cX11_least 126 = .ok (.iinc 6 1, 3) := by decide +kernel
theorem dX11_least_129 : decode cX11_least 129 = .ok (.goto (-69), 3) := by decide +kernel
theorem dX11_least_132 : decode cX11_least 132 = .ok (.aload_n 0, 1) := by decide +kernel
theorem dX11_least_133 : decode cX11_least 133 = .ok (.sipush 1000, 3) := by decide +kernel
theorem dX11_least_136 : decode cX11_least 136 = .ok (.putfield 265, 3) := by decide +kernel
theorem dX11_least_139 : decode cX11_least 139 = .ok (.iconst 1, 1) := by decide +kernel
theorem dX11_least_140 : decode cX11_least 140 = .ok (.istore 6, 2) := by decide +kernel
theorem dX11_least_142 : decode cX11_least 142 = .ok (.iload 6, 2) := by decide +kernel
theorem dX11_least_144 : decode cX11_least 144 = .ok (.iload 5, 2) := by decide +kernel
theorem dX11_least_146 : decode cX11_least 146 = .ok (.if_icmp .gt 17, 3) := by decide +kernel
theorem dX11_least_149 : decode cX11_least 149 = .ok (.aload_n 0, 1) := by decide +kernel
theorem dX11_least_150 : decode cX11_least 150 = .ok (.iconst 0, 1) := by decide +kernel
theorem dX11_least_151 : decode cX11_least 151 = .ok (.iload 6, 2) := by decide +kernel
theorem dX11_least_153 : decode cX11_least 153 = .ok (.iconst 0, 1) := by decide +kernel
theorem dX11_least_154 : decode cX11_least 154 = .ok (.invokevirtual 278, 3) := by decide +kernel
theorem dX11_least_157 : decode cX11_least 157 = .ok (.iinc 6 1, 3) := by decide +kernel
theorem dX11_least_160 : decode cX11_least 160 = .ok (.goto (-18), 3) := by decide +kernel
theorem dX11_least_163 : decode cX11_least 163 = .ok (.aload_n 0, 1) := by decide +kernel
theorem dX11_least_164 : decode cX11_least 164 = .ok (.getfield 265, 3) := by decide +kernel
theorem dX11_least_167 : decode cX11_least 167 = .ok (.sipush 1000, 3) := by decide +kernel
theorem dX11_least_170 : decode cX11_least 170 = .ok (.if_icmp .ne 6, 3) := by decide +kernel
theorem dX11_least_173 : decode cX11_least 173 = .ok (.bipush (-3), 2) := by decide +kernel
theorem dX11_least_175 : decode cX11_least 175 = .ok (.ireturn, 1) := by decide +kernel
theorem dX11_least_176 : decode cX11_least 176 = .ok (.aload_n 0, 1) := by decide +kernel
theorem dX11_least_177 : decode cX11_least 177 = .ok (.bipush 8, 2) := by decide +kernel
theorem dX11_least_179 : decode cX11_least 179 = .ok (.invokevirtual 156, 3) := by decide +kernel
theorem dX11_least_182 : decode cX11_least 182 = .ok (.istore 6, 2) := by decide +kernel
theorem dX11_least_184 : decode cX11_least 184 = .ok (.iconst 0, 1) := by decide +kernel
theorem dX11_least_185 : decode cX11_least 185 = .ok (.istore 7, 2) := by decide +kernel
theorem dX11_least_187 : decode cX11_least 187 = .ok (.iload 7, 2) := by decide +kernel
theorem dX11_least_189 : decode cX11_least 189 = .ok (.aload_n 0, 1) := by decide +kernel
theorem dX11_least_190 : decode cX11_least 190 = .ok (.getfield 285, 3) := by decide +kernel
theorem dX11_least_193 : decode cX11_least 193 = .ok (.if_icmp .ge 38, 3) := by decide +kernel
theorem dX11_least_196 : decode cX11_least 196 = .ok (.aload_n 0, 1) := by decide +kernel
theorem dX11_least_197 : decode cX11_least 197 = .ok (.iload 6, 2) := by decide +kernel
theorem dX11_least_199 : decode cX11_least 199 = .ok (.aload_n 0, 1) := by decide +kernel
theorem dX11_least_200 : decode cX11_least 200 = .ok (.getfield 78, 3) := by decide +kernel
theorem dX11_least_203 : decode cX11_least 203 = .ok (.iload 7, 2) := by decide +kernel
theorem dX11_least_205 : decode cX11_least 205 = .ok (.iaload, 1) := by decide +kernel
theorem dX11_least_206 : decode cX11_least 206 = .ok (.aload_n 0, 1) := by decide +kernel
theorem dX11_least_207 : decode cX11_least 207 = .ok (.getfield 81, 3) := by decide +kernel
theorem dX11_least_210 : decode cX11_least 210 = .ok (.iload 7, 2) := by decide +kernel
theorem dX11_least_212 : decode cX11_least 212 = .ok (.iaload, 1) := by decide +kernel
theorem dX11_least_213 : decode cX11_least 213 = .ok (.aload_n 0, 1) := by decide +kernel
theorem dX11_least_214 : decode cX11_least 214 = .ok (.getfield 84, 3) := by decide +kernel
theorem dX11_least_217 : decode cX11_least 217 = .ok (.iload 7, 2) := by decide +kernel
theorem dX11_least_219 : decode cX11_least 219 = .ok (.laload, 1) := by decide +kernel
theorem dX11_least_220 : decode cX11_least 220 = .ok (.invokevirtual 167, 3) := by decide +kernel
theorem dX11_least_223 : decode cX11_least 223 = .ok (.istore 8, 2) := by decide +kernel
theorem dX11_least_225 : decode cX11_least 225 = .ok (.iinc 7 1, 3) := by decide +kernel
theorem dX11_least_228 : decode cX11_least 228 = .ok (.goto (-41), 3) := by decide +kernel
theorem dX11_least_231 : decode cX11_least 231 = .ok (.aload_n 0, 1) := by decide +kernel
theorem dX11_least_232 : decode cX11_least 232 = .ok (.iconst 1, 1) := by decide +kernel
theorem dX11_least_233 : decode cX11_least 233 = .ok (.iload 6, 2) := by decide +kernel
theorem dX11_least_235 : decode cX11_least 235 = .ok (.iconst 0, 1) := by decide +kernel
theorem dX11_least_236 : decode cX11_least 236 = .ok (.lconst 0, 1) := by decide +kernel
theorem dX11_least_237 : decode cX11_least 237 = .ok (.invokevirtual 160, 3) := by decide +kernel
theorem dX11_least_240 : decode cX11_least 240 = .ok (.iload 6, 2) := by decide +kernel
theorem dX11_least_242 : decode cX11_least 242 = .ok (.ireturn, 1) := by decide +kernel
theorem dX11_count_0 : decode cX11_count 0 = .ok (.iload_n 1, 1) := by decide +kernel
theorem dX11_count_1 : decode cX11_count 1 = .ok (.ifCond .ne 10, 3) := by decide +kernel
theorem dX11_count_4 : decode cX11_count 4 = .ok (.aload_n 0, 1) := by decide +kernel
theorem dX11_count_5 : decode cX11_count 5 = .ok (.getfield 118, 3) := by decide +kernel
theorem dX11_count_8 : decode cX11_count 8 = .ok (.goto 28, 3) := by decide +kernel
theorem dX11_count_11 : decode cX11_count 11 = .ok (.iload_n 1, 1) := by decide +kernel
theorem dX11_count_12 : decode cX11_count 12 = .ok (.iconst 1, 1) := by decide +kernel
theorem dX11_count_13 : decode cX11_count 13 = .ok (.if_icmp .ne 10, 3) := by decide +kernel
theorem dX11_count_16 : decode cX11_count 16 = .ok (.aload_n 0, 1) := by decide +kernel
theorem dX11_count_17 : decode cX11_count 17 = .ok (.getfield 147, 3) := by decide +kernel
theorem dX11_count_20 : decode cX11_count 20 = .ok (.goto 16, 3) := by decide +kernel
theorem dX11_count_23 : decode cX11_count 23 = .ok (.iload_n 1, 1) := by decide +kernel
theorem dX11_count_24 : decode cX11_count 24 = .ok (.iconst 2, 1) := by decide +kernel
theorem dX11_count_25 : decode cX11_count 25 = .ok (.if_icmp .ne 10, 3) := by decide +kernel
theorem dX11_count_28 : decode cX11_count 28 = .ok (.aload_n 0, 1) := by decide +kernel
theorem dX11_count_29 : decode cX11_count 29 = .ok (.getfield 292, 3) := by decide +kernel
theorem dX11_count_32 : decode cX11_count 32 = .ok (.goto 4, 3) := by decide +kernel
theorem dX11_count_35 : decode cX11_count 35 = .ok (.iconst (-1), 1) := by decide +kernel
theorem dX11_count_36 : decode cX11_count 36 = .ok (.ireturn, 1) := by decide +kernel
theorem dX11_undo_0 : decode cX11_undo 0 = .ok (.aload_n 0, 1) := by decide +kernel
theorem dX11_undo_1 : decode cX11_undo 1 = .ok (.getfield 147, 3) := by decide +kernel
theorem dX11_undo_4 : decode cX11_undo 4 = .ok (.ifCond .ne 5, 3) := by decide +kernel
theorem dX11_undo_7 : decode cX11_undo 7 = .ok (.iconst (-1), 1) := by decide +kernel
theorem dX11_undo_8 : decode cX11_undo 8 = .ok (.ireturn, 1) := by decide +kernel
theorem dX11_undo_9 : decode cX11_undo 9 = .ok (.aload_n 0, 1) := by decide +kernel
theorem dX11_undo_10 : decode cX11_undo 10 = .ok (.dup, 1) := by decide +kernel
theorem dX11_undo_11 : decode cX11_undo 11 = .ok (.getfield 147, 3) := by decide +kernel
theorem dX11_undo_14 : decode cX11_undo 14 = .ok (.iconst 1, 1) := by decide +kernel
theorem dX11_undo_15 : decode cX11_undo 15 = .ok (.isub, 1) := by decide +kernel
theorem dX11_undo_16 : decode cX11_undo 16 = .ok (.putfield 147, 3) := by decide +kernel
theorem dX11_undo_19 : decode cX11_undo 19 = .ok (.aload_n 0, 1) := by decide +kernel
theorem dX11_undo_20 : decode cX11_undo 20 = .ok (.getfield 35, 3) := by decide +kernel
theorem dX11_undo_23 : decode cX11_undo 23 = .ok (.aload_n 0, 1) := by decide +kernel
theorem dX11_undo_24 : decode cX11_undo 24 = .ok (.getfield 147, 3) := by decide +kernel
theorem dX11_undo_27 : decode cX11_undo 27 = .ok (.iaload, 1) := by decide +kernel
theorem dX11_undo_28 : decode cX11_undo 28 = .ok (.istore_n 1, 1) := by decide +kernel
theorem dX11_undo_29 : decode cX11_undo 29 = .ok (.aload_n 0, 1) := by decide +kernel
theorem dX11_undo_30 : decode cX11_undo 30 = .ok (.getfield 32, 3) := by decide +kernel
theorem dX11_undo_33 : decode cX11_undo 33 = .ok (.aload_n 0, 1) := by decide +kernel
theorem dX11_undo_34 : decode cX11_undo 34 = .ok (.getfield 147, 3) := by decide +kernel
theorem dX11_undo_37 : decode cX11_undo 37 = .ok (.iaload, 1) := by decide +kernel
theorem dX11_undo_38 : decode cX11_undo 38 = .ok (.tableswitch 107 1 5 #[34, 42, 55, 74, 92], 34) := by decide +kernel
theorem dX11_undo_72 : decode cX11_undo 72 = .ok (.aload_n 0, 1) := by decide +kernel
theorem dX11_undo_73 : decode cX11_undo 73 = .ok (.iload_n 1, 1) := by decide +kernel
theorem dX11_undo_74 : decode cX11_undo 74 = .ok (.putfield 118, 3) := by decide +kernel
theorem dX11_undo_77 : decode cX11_undo 77 = .ok (.goto 96, 3) := by decide +kernel
theorem dX11_undo_80 : decode cX11_undo 80 = .ok (.aload_n 0, 1) := by decide +kernel
theorem dX11_undo_81 : decode cX11_undo 81 = .ok (.getfield 13, 3) := by decide +kernel
theorem dX11_undo_84 : decode cX11_undo 84 = .ok (.iload_n 1, 1) := by decide +kernel
theorem dX11_undo_85 : decode cX11_undo 85 = .ok (.dup2, 1) := by decide +kernel
theorem dX11_undo_86 : decode cX11_undo 86 = .ok (.iaload, 1) := by decide +kernel
theorem dX11_undo_87 : decode cX11_undo 87 = .ok (.iconst 1, 1) := by decide +kernel
theorem dX11_undo_88 : decode cX11_undo 88 = .ok (.isub, 1) := by decide +kernel
theorem dX11_undo_89 : decode cX11_undo 89 = .ok (.iastore, 1) := by decide +kernel
theorem dX11_undo_90 : decode cX11_undo 90 = .ok (.goto 83, 3) := by decide +kernel
theorem dX11_undo_93 : decode cX11_undo 93 = .ok (.aload_n 0, 1) := by decide +kernel
theorem dX11_undo_94 : decode cX11_undo 94 = .ok (.getfield 26, 3) := by decide +kernel
theorem dX11_undo_97 : decode cX11_undo 97 = .ok (.iload_n 1, 1) := by decide +kernel
theorem dX11_undo_98 : decode cX11_undo 98 = .ok (.aload_n 0, 1) := by decide +kernel
theorem dX11_undo_99 : decode cX11_undo 99 = .ok (.getfield 41, 3) := by decide +kernel
theorem dX11_undo_102 : decode cX11_undo 102 = .ok (.aload_n 0, 1) := by decide +kernel
theorem dX11_undo_103 : decode cX11_undo 103 = .ok (.getfield 147, 3) := by decide +kernel
theorem dX11_undo_106 : decode cX11_undo 106 = .ok (.laload, 1) := by decide +kernel
theorem dX11_undo_107 : decode cX11_undo 107 = .ok (.l2i, 1) := by decide +kernel
theorem dX11_undo_108 : decode cX11_undo 108 = .ok (.iastore, 1) := by decide +kernel
theorem dX11_undo_109 : decode cX11_undo 109 = .ok (.goto 64, 3) := by decide +kernel
theorem dX11_undo_112 : decode cX11_undo 112 = .ok (.aload_n 0, 1) := by decide +kernel
theorem dX11_undo_113 : decode cX11_undo 113 = .ok (.getfield 56, 3) := by decide +kernel
theorem dX11_undo_116 : decode cX11_undo 116 = .ok (.iload_n 1, 1) := by decide +kernel
theorem dX11_undo_117 : decode cX11_undo 117 = .ok (.aload_n 0, 1) := by decide +kernel
theorem dX11_undo_118 : decode cX11_undo 118 = .ok (.getfield 41, 3) := by decide +kernel
theorem dX11_undo_121 : decode cX11_undo 121 = .ok (.aload_n 0, 1) := by decide +kernel
theorem dX11_undo_122 : decode cX11_undo 122 = .ok (.getfield 147, 3) := by decide +kernel
theorem dX11_undo_125 : decode cX11_undo 125 = .ok (.laload, 1) := by decide +kernel
theorem dX11_undo_126 : decode cX11_undo 126 = .ok (.lastore, 1) := by decide +kernel
theorem dX11_undo_127 : decode cX11_undo 127 = .ok (.goto 46, 3) := by decide +kernel
theorem dX11_undo_130 : decode cX11_undo 130 = .ok (.aload_n 0, 1) := by decide +kernel
theorem dX11_undo_131 : decode cX11_undo 131 = .ok (.bipush 8, 2) := by decide +kernel
theorem dX11_undo_133 : decode cX11_undo 133 = .ok (.aload_n 0, 1) := by decide +kernel
theorem dX11_undo_134 : decode cX11_undo 134 = .ok (.getfield 147, 3) := by decide +kernel
theorem dX11_undo_137 : decode cX11_undo 137 = .ok (.iadd, 1) := by decide +kernel
theorem dX11_undo_138 : decode cX11_undo 138 = .ok (.iload_n 1, 1) := by decide +kernel
theorem dX11_undo_139 : decode cX11_undo 139 = .ok (.invokevirtual 143, 3) := by decide +kernel
theorem dX11_undo_142 : decode cX11_undo 142 = .ok (.goto 31, 3) := by decide +kernel
theorem dX11_undo_145 : decode cX11_undo 145 = .ok (.aload_n 0, 1) := by decide +kernel
theorem dX11_undo_146 : decode cX11_undo 146 = .ok (.getfield 50, 3) := by decide +kernel
theorem dX11_undo_149 : decode cX11_undo 149 = .ok (.bipush 100, 2) := by decide +kernel
theorem dX11_undo_151 : decode cX11_undo 151 = .ok (.iload_n 1, 1) := by decide +kernel
theorem dX11_undo_152 : decode cX11_undo 152 = .ok (.imul, 1) := by decide +kernel
theorem dX11_undo_153 : decode cX11_undo 153 = .ok (.aload_n 0, 1) := by decide +kernel
theorem dX11_undo_154 : decode cX11_undo 154 = .ok (.getfield 38, 3) := by decide +kernel
theorem dX11_undo_157 : decode cX11_undo 157 = .ok (.aload_n 0, 1) := by decide +kernel
theorem dX11_undo_158 : decode cX11_undo 158 = .ok (.getfield 147, 3) := by decide +kernel
theorem dX11_undo_161 : decode cX11_undo 161 = .ok (.iaload, 1) := by decide +kernel
theorem dX11_undo_162 : decode cX11_undo 162 = .ok (.iadd, 1) := by decide +kernel
theorem dX11_undo_163 : decode cX11_undo 163 = .ok (.aload_n 0, 1) := by decide +kernel
theorem dX11_undo_164 : decode cX11_undo 164 = .ok (.getfield 41, 3) := by decide +kernel
theorem dX11_undo_167 : decode cX11_undo 167 = .ok (.aload_n 0, 1) := by decide +kernel
theorem dX11_undo_168 : decode cX11_undo 168 = .ok (.getfield 147, 3) := by decide +kernel
theorem dX11_undo_171 : decode cX11_undo 171 = .ok (.laload, 1) := by decide +kernel
theorem dX11_undo_172 : decode cX11_undo 172 = .ok (.lastore, 1) := by decide +kernel
theorem dX11_undo_173 : decode cX11_undo 173 = .ok (.aload_n 0, 1) := by decide +kernel
theorem dX11_undo_174 : decode cX11_undo 174 = .ok (.getfield 147, 3) := by decide +kernel
theorem dX11_undo_177 : decode cX11_undo 177 = .ok (.ireturn, 1) := by decide +kernel
theorem dX11_isHook_0 : decode cX11_isHook 0 = .ok (.iload_n 0, 1) := by decide +kernel
theorem dX11_isHook_1 : decode cX11_isHook 1 = .ok (.ifCond .lt 13, 3) := by decide +kernel
theorem dX11_isHook_4 : decode cX11_isHook 4 = .ok (.iload_n 0, 1) := by decide +kernel
theorem dX11_isHook_5 : decode cX11_isHook 5 = .ok (.bipush 8, 2) := by decide +kernel
theorem dX11_isHook_7 : decode cX11_isHook 7 = .ok (.if_icmp .ge 7, 3) := by decide +kernel
theorem dX11_isHook_10 : decode cX11_isHook 10 = .ok (.iconst 1, 1) := by decide +kernel
theorem dX11_isHook_11 : decode cX11_isHook 11 = .ok (.goto 4, 3) := by decide +kernel
theorem dX11_isHook_14 : decode cX11_isHook 14 = .ok (.iconst 0, 1) := by decide +kernel
theorem dX11_isHook_15 : decode cX11_isHook 15 = .ok (.ireturn, 1) := by decide +kernel
theorem dX11_hook_0 : decode cX11_hook 0 = .ok (.iload_n 1, 1) := by decide +kernel
theorem dX11_hook_1 : decode cX11_hook 1 = .ok (.invokestatic 295, 3) := by decide +kernel
theorem dX11_hook_4 : decode cX11_hook 4 = .ok (.ifCond .eq 12, 3) := by decide +kernel
theorem dX11_hook_7 : decode cX11_hook 7 = .ok (.iload_n 2, 1) := by decide +kernel
theorem dX11_hook_8 : decode cX11_hook 8 = .ok (.ifCond .lt 8, 3) := by decide +kernel
theorem dX11_hook_11 : decode cX11_hook 11 = .ok (.iload_n 2, 1) := by decide +kernel
theorem dX11_hook_12 : decode cX11_hook 12 = .ok (.iconst 5, 1) := by decide +kernel
theorem dX11_hook_13 : decode cX11_hook 13 = .ok (.if_icmp .le 5, 3) := by decide +kernel
theorem dX11_hook_16 : decode cX11_hook 16 = .ok (.iconst (-1), 1) := by decide +kernel
theorem dX11_hook_17 : decode cX11_hook 17 = .ok (.ireturn, 1) := by decide +kernel
theorem dX11_hook_18 : decode cX11_hook 18 = .ok (.iload_n 2, 1) := by decide +kernel
theorem dX11_hook_19 : decode cX11_hook 19 = .ok (.ifCond .le 45, 3) := by decide +kernel
theorem dX11_hook_22 : decode cX11_hook 22 = .ok (.aload_n 0, 1) := by decide +kernel
theorem dX11_hook_23 : decode cX11_hook 23 = .ok (.iload_n 3, 1) := by decide +kernel
theorem dX11_hook_24 : decode cX11_hook 24 = .ok (.invokevirtual 164, 3) := by decide +kernel
theorem dX11_hook_27 : decode cX11_hook 27 = .ok (.ifCond .eq 35, 3) := by decide +kernel
theorem dX11_hook_30 : decode cX11_hook 30 = .ok (.iload 4, 2) := by decide +kernel
theorem dX11_hook_32 : decode cX11_hook 32 = .ok (.ifCond .lt 30, 3) := by decide +kernel
theorem dX11_hook_35 : decode cX11_hook 35 = .ok (.iload 4, 2) := by decide +kernel
theorem dX11_hook_37 : decode cX11_hook 37 = .ok (.aload_n 0, 1) := by decide +kernel
theorem dX11_hook_38 : decode cX11_hook 38 = .ok (.getfield 13, 3) := by decide +kernel
theorem dX11_hook_41 : decode cX11_hook 41 = .ok (.iload_n 3, 1) := by decide +kernel
theorem dX11_hook_42 : decode cX11_hook 42 = .ok (.iaload, 1) := by decide +kernel
theorem dX11_hook_43 : decode cX11_hook 43 = .ok (.if_icmp .gt 19, 3) := by decide +kernel
theorem dX11_hook_46 : decode cX11_hook 46 = .ok (.iload_n 2, 1) := by decide +kernel
theorem dX11_hook_47 : decode cX11_hook 47 = .ok (.iconst 1, 1) := by decide +kernel
theorem dX11_hook_48 : decode cX11_hook 48 = .ok (.if_icmp .ne 16, 3) := by decide +kernel
theorem dX11_hook_51 : decode cX11_hook 51 = .ok (.iload 4, 2) := by decide +kernel
theorem dX11_hook_53 : decode cX11_hook 53 = .ok (.aload_n 0, 1) := by decide +kernel
theorem dX11_hook_54 : decode cX11_hook 54 = .ok (.getfield 13, 3) := by decide +kernel
theorem dX11_hook_57 : decode cX11_hook 57 = .ok (.iload_n 3, 1) := by decide +kernel
theorem dX11_hook_58 : decode cX11_hook 58 = .ok (.iaload, 1) := by decide +kernel
theorem dX11_hook_59 : decode cX11_hook 59 = .ok (.if_icmp .ne 5, 3) := by decide +kernel
theorem dX11_hook_62 : decode cX11_hook 62 = .ok (.iconst (-1), 1) := by decide +kernel
theorem dX11_hook_63 : decode cX11_hook 63 = .ok (.ireturn, 1) := by decide +kernel
theorem dX11_hook_64 : decode cX11_hook 64 = .ok (.aload_n 0, 1) := by decide +kernel
theorem dX11_hook_65 : decode cX11_hook 65 = .ok (.getfield 44, 3) := by decide +kernel
theorem dX11_hook_68 : decode cX11_hook 68 = .ok (.iload_n 1, 1) := by decide +kernel
theorem dX11_hook_69 : decode cX11_hook 69 = .ok (.iaload, 1) := by decide +kernel
theorem dX11_hook_70 : decode cX11_hook 70 = .ok (.istore 5, 2) := by decide +kernel
theorem dX11_hook_72 : decode cX11_hook 72 = .ok (.aload_n 0, 1) := by decide +kernel
theorem dX11_hook_73 : decode cX11_hook 73 = .ok (.iconst 5, 1) := by decide +kernel
theorem dX11_hook_74 : decode cX11_hook 74 = .ok (.iload_n 1, 1) := by decide +kernel
theorem dX11_hook_75 : decode cX11_hook 75 = .ok (.iconst 0, 1) := by decide +kernel
theorem dX11_hook_76 : decode cX11_hook 76 = .ok (.lconst 0, 1) := by decide +kernel
theorem dX11_hook_77 : decode cX11_hook 77 = .ok (.invokevirtual 160, 3) := by decide +kernel
theorem dX11_hook_80 : decode cX11_hook 80 = .ok (.aload_n 0, 1) := by decide +kernel
theorem dX11_hook_81 : decode cX11_hook 81 = .ok (.iload_n 1, 1) := by decide +kernel
theorem dX11_hook_82 : decode cX11_hook 82 = .ok (.bipush 8, 2) := by decide +kernel
theorem dX11_hook_84 : decode cX11_hook 84 = .ok (.aload_n 0, 1) := by decide +kernel
theorem dX11_hook_85 : decode cX11_hook 85 = .ok (.getfield 147, 3) := by decide +kernel
theorem dX11_hook_88 : decode cX11_hook 88 = .ok (.iadd, 1) := by decide +kernel
theorem dX11_hook_89 : decode cX11_hook 89 = .ok (.iconst 1, 1) := by decide +kernel
theorem dX11_hook_90 : decode cX11_hook 90 = .ok (.isub, 1) := by decide +kernel
theorem dX11_hook_91 : decode cX11_hook 91 = .ok (.invokevirtual 143, 3) := by decide +kernel
theorem dX11_hook_94 : decode cX11_hook 94 = .ok (.aload_n 0, 1) := by decide +kernel
theorem dX11_hook_95 : decode cX11_hook 95 = .ok (.getfield 44, 3) := by decide +kernel
theorem dX11_hook_98 : decode cX11_hook 98 = .ok (.iload_n 1, 1) := by decide +kernel
theorem dX11_hook_99 : decode cX11_hook 99 = .ok (.iload_n 2, 1) := by decide +kernel
theorem dX11_hook_100 : decode cX11_hook 100 = .ok (.iastore, 1) := by decide +kernel
theorem dX11_hook_101 : decode cX11_hook 101 = .ok (.aload_n 0, 1) := by decide +kernel
theorem dX11_hook_102 : decode cX11_hook 102 = .ok (.getfield 47, 3) := by decide +kernel
theorem dX11_hook_105 : decode cX11_hook 105 = .ok (.iload_n 1, 1) := by decide +kernel
theorem dX11_hook_106 : decode cX11_hook 106 = .ok (.iconst 0, 1) := by decide +kernel
theorem dX11_hook_107 : decode cX11_hook 107 = .ok (.iastore, 1) := by decide +kernel
theorem dX11_hook_108 : decode cX11_hook 108 = .ok (.iload_n 2, 1) := by decide +kernel
theorem dX11_hook_109 : decode cX11_hook 109 = .ok (.iconst 1, 1) := by decide +kernel
theorem dX11_hook_110 : decode cX11_hook 110 = .ok (.if_icmp .ne 58, 3) := by decide +kernel
theorem dX11_hook_113 : decode cX11_hook 113 = .ok (.aload_n 0, 1) := by decide +kernel
theorem dX11_hook_114 : decode cX11_hook 114 = .ok (.getfield 47, 3) := by decide +kernel
theorem dX11_hook_117 : decode cX11_hook 117 = .ok (.iload_n 1, 1) := by decide +kernel
theorem dX11_hook_118 : decode cX11_hook 118 = .ok (.iconst 2, 1) := by decide +kernel
theorem dX11_hook_119 : decode cX11_hook 119 = .ok (.iastore, 1) := by decide +kernel
theorem dX11_hook_120 : decode cX11_hook 120 = .ok (.aload_n 0, 1) := by decide +kernel
theorem dX11_hook_121 : decode cX11_hook 121 = .ok (.getfield 50, 3) := by decide +kernel
theorem dX11_hook_124 : decode cX11_hook 124 = .ok (.bipush 100, 2) := by decide +kernel
theorem dX11_hook_126 : decode cX11_hook 126 = .ok (.iload_n 1, 1) := by decide +kernel
theorem dX11_hook_127 : decode cX11_hook 127 = .ok (.imul, 1) := by decide +kernel
theorem dX11_hook_128 : decode cX11_hook 128 = .ok (.aload_n 0, 1) := by decide +kernel
theorem dX11_hook_129 : decode cX11_hook 129 = .ok (.getfield 16, 3) := by decide +kernel
theorem dX11_hook_132 : decode cX11_hook 132 = .ok (.bipush 12, 2) := by decide +kernel
theorem dX11_hook_134 : decode cX11_hook 134 = .ok (.iload_n 3, 1) := by decide +kernel
theorem dX11_hook_135 : decode cX11_hook 135 = .ok (.imul, 1) := by decide +kernel
theorem dX11_hook_136 : decode cX11_hook 136 = .ok (.iload 4, 2) := by decide +kernel
theorem dX11_hook_138 : decode cX11_hook 138 = .ok (.iadd, 1) := by decide +kernel
theorem dX11_hook_139 : decode cX11_hook 139 = .ok (.iaload, 1) := by decide +kernel
theorem dX11_hook_140 : decode cX11_hook 140 = .ok (.i2l, 1) := by decide +kernel
theorem dX11_hook_141 : decode cX11_hook 141 = .ok (.lastore, 1) := by decide +kernel
theorem dX11_hook_142 : decode cX11_hook 142 = .ok (.aload_n 0, 1) := by decide +kernel
theorem dX11_hook_143 : decode cX11_hook 143 = .ok (.getfield 50, 3) := by decide +kernel
theorem dX11_hook_146 : decode cX11_hook 146 = .ok (.bipush 100, 2) := by decide +kernel
theorem dX11_hook_148 : decode cX11_hook 148 = .ok (.iload_n 1, 1) := by decide +kernel
theorem dX11_hook_149 : decode cX11_hook 149 = .ok (.imul, 1) := by decide +kernel
theorem dX11_hook_150 : decode cX11_hook 150 = .ok (.iconst 1, 1) := by decide +kernel
theorem dX11_hook_151 : decode cX11_hook 151 = .ok (.iadd, 1) := by decide +kernel
theorem dX11_hook_152 : decode cX11_hook 152 = .ok (.aload_n 0, 1) := by decide +kernel
theorem dX11_hook_153 : decode cX11_hook 153 = .ok (.getfield 22, 3) := by decide +kernel
theorem dX11_hook_156 : decode cX11_hook 156 = .ok (.bipush 12, 2) := by decide +kernel
theorem dX11_hook_158 : decode cX11_hook 158 = .ok (.iload_n 3, 1) := by decide +kernel
theorem dX11_hook_159 : decode cX11_hook 159 = .ok (.imul, 1) := by decide +kernel
theorem dX11_hook_160 : decode cX11_hook 160 = .ok (.iload 4, 2) := by decide +kernel
theorem dX11_hook_162 : decode cX11_hook 162 = .ok (.iadd, 1) := by decide +kernel
theorem dX11_hook_163 : decode cX11_hook 163 = .ok (.laload, 1) := by decide +kernel
theorem dX11_hook_164 : decode cX11_hook 164 = .ok (.lastore, 1) := by decide +kernel
theorem dX11_hook_165 : decode cX11_hook 165 = .ok (.goto 104, 3) := by decide +kernel
theorem dX11_hook_168 : decode cX11_hook 168 = .ok (.iload_n 2, 1) := by decide +kernel
theorem dX11_hook_169 : decode cX11_hook 169 = .ok (.iconst 1, 1) := by decide +kernel
theorem dX11_hook_170 : decode cX11_hook 170 = .ok (.if_icmp .le 99, 3) := by decide +kernel
theorem dX11_hook_173 : decode cX11_hook 173 = .ok (.aload_n 0, 1) := by decide +kernel
theorem dX11_hook_174 : decode cX11_hook 174 = .ok (.iload_n 3, 1) := by decide +kernel
theorem dX11_hook_175 : decode cX11_hook 175 = .ok (.iload_n 3, 1) := by decide +kernel
theorem dX11_hook_176 : decode cX11_hook 176 = .ok (.i2l, 1) := by decide +kernel
theorem dX11_hook_177 : decode cX11_hook 177 = .ok (.iload 4, 2) := by decide +kernel
theorem dX11_hook_179 : decode cX11_hook 179 = .ok (.invokevirtual 236, 3) := by decide +kernel
theorem dX11_hook_182 : decode cX11_hook 182 = .ok (.aload_n 0, 1) := by decide +kernel
theorem dX11_hook_183 : decode cX11_hook 183 = .ok (.getfield 47, 3) := by decide +kernel
theorem dX11_hook_186 : decode cX11_hook 186 = .ok (.iload_n 1, 1) := by decide +kernel
theorem dX11_hook_187 : decode cX11_hook 187 = .ok (.iload 4, 2) := by decide +kernel
theorem dX11_hook_189 : decode cX11_hook 189 = .ok (.iastore, 1) := by decide +kernel
theorem dX11_hook_190 : decode cX11_hook 190 = .ok (.iconst 0, 1) := by decide +kernel
theorem dX11_hook_191 : decode cX11_hook 191 = .ok (.istore 6, 2) := by decide +kernel
theorem dX11_hook_193 : decode cX11_hook 193 = .ok (.iload 6, 2) := by decide +kernel
theorem dX11_hook_195 : decode cX11_hook 195 = .ok (.iload 4, 2) := by decide +kernel
theorem dX11_hook_197 : decode cX11_hook 197 = .ok (.if_icmp .ge 72, 3) := by decide +kernel
theorem dX11_hook_200 : decode cX11_hook 200 = .ok (.aload_n 0, 1) := by decide +kernel
theorem dX11_hook_201 : decode cX11_hook 201 = .ok (.getfield 29, 3) := by decide +kernel
theorem dX11_hook_204 : decode cX11_hook 204 = .ok (.iload 6, 2) := by decide +kernel
theorem dX11_hook_206 : decode cX11_hook 206 = .ok (.iconst 1, 1) := by decide +kernel
theorem dX11_hook_207 : decode cX11_hook 207 = .ok (.iadd, 1) := by decide +kernel
theorem dX11_hook_208 : decode cX11_hook 208 = .ok (.laload, 1) := by decide +kernel
theorem dX11_hook_209 : decode cX11_hook 209 = .ok (.lstore 7, 2) := by decide +kernel
theorem dX11_hook_211 : decode cX11_hook 211 = .ok (.aload_n 0, 1) := by decide +kernel
theorem dX11_hook_212 : decode cX11_hook 212 = .ok (.getfield 50, 3) := by decide +kernel
theorem dX11_hook_215 : decode cX11_hook 215 = .ok (.bipush 100, 2) := by decide +kernel
theorem dX11_hook_217 : decode cX11_hook 217 = .ok (.iload_n 1, 1) := by decide +kernel
theorem dX11_hook_218 : decode cX11_hook 218 = .ok (.imul, 1) := by decide +kernel
theorem dX11_hook_219 : decode cX11_hook 219 = .ok (.iload 6, 2) := by decide +kernel
theorem dX11_hook_221 : decode cX11_hook 221 = .ok (.iadd, 1) := by decide +kernel
theorem dX11_hook_222 : decode cX11_hook 222 = .ok (.iload_n 2, 1) := by decide +kernel
theorem dX11_hook_223 : decode cX11_hook 223 = .ok (.iconst 2, 1) := by decide +kernel
theorem dX11_hook_224 : decode cX11_hook 224 = .ok (.if_icmp .ne 10, 3) := by decide +kernel
theorem dX11_hook_227 : decode cX11_hook 227 = .ok (.lload 7, 2) := by decide +kernel
theorem dX11_hook_229 : decode cX11_hook 229 = .ok (.l2i, 1) := by decide +kernel
theorem dX11_hook_230 : decode cX11_hook 230 = .ok (.i2l, 1) := by decide +kernel
theorem dX11_hook_231 : decode cX11_hook 231 = .ok (.goto 31, 3) := by decide +kernel
theorem dX11_hook_234 : decode cX11_hook 234 = .ok (.iload_n 2, 1) := by decide +kernel
theorem dX11_hook_235 : decode cX11_hook 235 = .ok (.iconst 3, 1) := by decide +kernel
theorem dX11_hook_236 : decode cX11_hook 236 = .ok (.if_icmp .ne 8, 3) := by decide +kernel
theorem dX11_hook_239 : decode cX11_hook 239 = .ok (.lload 7, 2) := by decide +kernel
theorem dX11_hook_241 : decode cX11_hook 241 = .ok (.goto 21, 3) := by decide +kernel
theorem dX11_hook_244 : decode cX11_hook 244 = .ok (.iload_n 2, 1) := by decide +kernel
theorem dX11_hook_245 : decode cX11_hook 245 = .ok (.iconst 4, 1) := by decide +kernel
theorem dX11_hook_246 : decode cX11_hook 246 = .ok (.if_icmp .ne 11, 3) := by decide +kernel
theorem dX11_hook_249 : decode cX11_hook 249 = .ok (.lload 7, 2) := by decide +kernel
theorem dX11_hook_251 : decode cX11_hook 251 = .ok (.l2i, 1) := by decide +kernel
theorem dX11_hook_252 : decode cX11_hook 252 = .ok (.i2b, 1) := by decide +kernel
theorem dX11_hook_253 : decode cX11_hook 253 = .ok (.i2l, 1) := by decide +kernel
theorem dX11_hook_254 : decode cX11_hook 254 = .ok (.goto 8, 3) := by decide +kernel
theorem dX11_hook_257 : decode cX11_hook 257 = .ok (.lload 7, 2) := by decide +kernel
theorem dX11_hook_259 : decode cX11_hook 259 = .ok (.l2i, 1) := by decide +kernel
theorem dX11_hook_260 : decode cX11_hook 260 = .ok (.i2s, 1) := by decide +kernel
theorem dX11_hook_261 : decode cX11_hook 261 = .ok (.i2l, 1) := by decide +kernel
theorem dX11_hook_262 : decode cX11_hook 262 = .ok (.lastore, 1) := by decide +kernel
theorem dX11_hook_263 : decode cX11_hook 263 = .ok (.iinc 6 1, 3) := by decide +kernel
theorem dX11_hook_266 : decode cX11_hook 266 = .ok (.goto (-73), 3) := by decide +kernel
theorem dX11_hook_269 : decode cX11_hook 269 = .ok (.iload 5, 2) := by decide +kernel
theorem dX11_hook_271 : decode cX11_hook 271 = .ok (.ireturn, 1) := by decide +kernel
theorem dX11_held_0 : decode cX11_held 0 = .ok (.iload_n 1, 1) := by decide +kernel
theorem dX11_held_1 : decode cX11_held 1 = .ok (.invokestatic 295, 3) := by decide +kernel
theorem dX11_held_4 : decode cX11_held 4 = .ok (.ifCond .eq 12, 3) := by decide +kernel
theorem dX11_held_7 : decode cX11_held 7 = .ok (.aload_n 0, 1) := by decide +kernel
theorem dX11_held_8 : decode cX11_held 8 = .ok (.getfield 44, 3) := by decide +kernel
theorem dX11_held_11 : decode cX11_held 11 = .ok (.iload_n 1, 1) := by decide +kernel
theorem dX11_held_12 : decode cX11_held 12 = .ok (.iaload, 1) := by decide +kernel
theorem dX11_held_13 : decode cX11_held 13 = .ok (.goto 4, 3) := by decide +kernel
theorem dX11_held_16 : decode cX11_held 16 = .ok (.iconst (-1), 1) := by decide +kernel
theorem dX11_held_17 : decode cX11_held 17 = .ok (.ireturn, 1) := by decide +kernel
theorem dX11_isIn_0 : decode cX11_isIn 0 = .ok (.iload_n 2, 1) := by decide +kernel
theorem dX11_isIn_1 : decode cX11_isIn 1 = .ok (.ifCond .lt 17, 3) := by decide +kernel
theorem dX11_isIn_4 : decode cX11_isIn 4 = .ok (.iload_n 2, 1) := by decide +kernel
theorem dX11_isIn_5 : decode cX11_isIn 5 = .ok (.aload_n 0, 1) := by decide +kernel
theorem dX11_isIn_6 : decode cX11_isIn 6 = .ok (.getfield 47, 3) := by decide +kernel
theorem dX11_isIn_9 : decode cX11_isIn 9 = .ok (.iload_n 1, 1) := by decide +kernel
theorem dX11_isIn_10 : decode cX11_isIn 10 = .ok (.iaload, 1) := by decide +kernel
theorem dX11_isIn_11 : decode cX11_isIn 11 = .ok (.if_icmp .ge 7, 3) := by decide +kernel
theorem dX11_isIn_14 : decode cX11_isIn 14 = .ok (.iconst 1, 1) := by decide +kernel
theorem dX11_isIn_15 : decode cX11_isIn 15 = .ok (.goto 4, 3) := by decide +kernel
theorem dX11_isIn_18 : decode cX11_isIn 18 = .ok (.iconst 0, 1) := by decide +kernel
theorem dX11_isIn_19 : decode cX11_isIn 19 = .ok (.ireturn, 1) := by decide +kernel
theorem dX11_use_0 : decode cX11_use 0 = .ok (.iload_n 1, 1) := by decide +kernel
theorem dX11_use_1 : decode cX11_use 1 = .ok (.invokestatic 295, 3) := by decide +kernel
theorem dX11_use_4 : decode cX11_use 4 = .ok (.ifCond .eq 25, 3) := by decide +kernel
theorem dX11_use_7 : decode cX11_use 7 = .ok (.iload_n 2, 1) := by decide +kernel
theorem dX11_use_8 : decode cX11_use 8 = .ok (.ifCond .lt 21, 3) := by decide +kernel
theorem dX11_use_11 : decode cX11_use 11 = .ok (.iload_n 2, 1) := by decide +kernel
theorem dX11_use_12 : decode cX11_use 12 = .ok (.bipush 10, 2) := by decide +kernel
theorem dX11_use_14 : decode cX11_use 14 = .ok (.if_icmp .gt 15, 3) := by decide +kernel
theorem dX11_use_17 : decode cX11_use 17 = .ok (.iload_n 2, 1) := by decide +kernel
theorem dX11_use_18 : decode cX11_use 18 = .ok (.bipush 9, 2) := by decide +kernel
theorem dX11_use_20 : decode cX11_use 20 = .ok (.if_icmp .ne 11, 3) := by decide +kernel
theorem dX11_use_23 : decode cX11_use 23 = .ok (.iload_n 3, 1) := by decide +kernel
theorem dX11_use_24 : decode cX11_use 24 = .ok (.bipush 100, 2) := by decide +kernel
theorem dX11_use_26 : decode cX11_use 26 = .ok (.if_icmp .le 5, 3) := by decide +kernel
theorem dX11_use_29 : decode cX11_use 29 = .ok (.iconst (-1), 1) := by decide +kernel
theorem dX11_use_30 : decode cX11_use 30 = .ok (.ireturn, 1) := by decide +kernel
theorem dX11_use_31 : decode cX11_use 31 = .ok (.aload_n 0, 1) := by decide +kernel
theorem dX11_use_32 : decode cX11_use 32 = .ok (.getfield 44, 3) := by decide +kernel
theorem dX11_use_35 : decode cX11_use 35 = .ok (.iload_n 1, 1) := by decide +kernel
theorem dX11_use_36 : decode cX11_use 36 = .ok (.iaload, 1) := by decide +kernel
theorem dX11_use_37 : decode cX11_use 37 = .ok (.istore 5, 2) := by decide +kernel
theorem dX11_use_39 : decode cX11_use 39 = .ok (.iload 5, 2) := by decide +kernel
theorem dX11_use_41 : decode cX11_use 41 = .ok (.ifCond .ne 17, 3) := by decide +kernel
theorem dX11_use_44 : decode cX11_use 44 = .ok (.iload_n 2, 1) := by decide +kernel
theorem dX11_use_45 : decode cX11_use 45 = .ok (.bipush 10, 2) := by decide +kernel
theorem dX11_use_47 : decode cX11_use 47 = .ok (.if_icmp .ne 8, 3) := by decide +kernel
theorem dX11_use_50 : decode cX11_use 50 = .ok (.bipush (-15), 2) := by decide +kernel
theorem dX11_use_52 : decode cX11_use 52 = .ok (.goto 5, 3) := by decide +kernel
theorem dX11_use_55 : decode cX11_use 55 = .ok (.bipush (-12), 2) := by decide +kernel
theorem dX11_use_57 : decode cX11_use 57 = .ok (.ireturn, 1) := by decide +kernel
theorem dX11_use_58 : decode cX11_use 58 = .ok (.iload_n 2, 1) := by decide +kernel
theorem dX11_use_59 : decode cX11_use 59 = .ok (.bipush 10, 2) := by decide +kernel
theorem dX11_use_61 : decode cX11_use 61 = .ok (.if_icmp .ne 6, 3) := by decide +kernel
theorem dX11_use_64 : decode cX11_use 64 = .ok (.bipush (-11), 2) := by decide +kernel
theorem dX11_use_66 : decode cX11_use 66 = .ok (.ireturn, 1) := by decide +kernel
theorem dX11_use_67 : decode cX11_use 67 = .ok (.iload_n 2, 1) := by decide +kernel
theorem dX11_use_68 : decode cX11_use 68 = .ok (.iconst 2, 1) := by decide +kernel
theorem dX11_use_69 : decode cX11_use 69 = .ok (.if_icmp .ge 7, 3) := by decide +kernel
theorem dX11_use_72 : decode cX11_use 72 = .ok (.iconst 1, 1) := by decide +kernel
theorem dX11_use_73 : decode cX11_use 73 = .ok (.goto 24, 3) := by decide +kernel
theorem dX11_use_76 : decode cX11_use 76 = .ok (.iload_n 2, 1) := by decide +kernel
theorem dX11_use_77 : decode cX11_use 77 = .ok (.bipush 6, 2) := by decide +kernel
theorem dX11_use_79 : decode cX11_use 79 = .ok (.if_icmp .ge 7, 3) := by decide +kernel
theorem dX11_use_82 : decode cX11_use 82 = .ok (.iload_n 2, 1) := by decide +kernel
theorem dX11_use_83 : decode cX11_use 83 = .ok (.goto 14, 3) := by decide +kernel
theorem dX11_use_86 : decode cX11_use 86 = .ok (.iload_n 2, 1) := by decide +kernel
theorem dX11_use_87 : decode cX11_use 87 = .ok (.bipush 8, 2) := by decide +kernel
theorem dX11_use_89 : decode cX11_use 89 = .ok (.if_icmp .ne 7, 3) := by decide +kernel
theorem dX11_use_92 : decode cX11_use 92 = .ok (.iconst 3, 1) := by decide +kernel
theorem dX11_use_93 : decode cX11_use 93 = .ok (.goto 4, 3) := by decide +kernel
theorem dX11_use_96 : decode cX11_use 96 = .ok (.iconst 2, 1) := by decide +kernel
theorem dX11_use_97 : decode cX11_use 97 = .ok (.istore 6, 2) := by decide +kernel
theorem dX11_use_99 : decode cX11_use 99 = .ok (.iload 5, 2) := by decide +kernel
theorem dX11_use_101 : decode cX11_use 101 = .ok (.iload 6, 2) := by decide +kernel
theorem dX11_use_103 : decode cX11_use 103 = .ok (.if_icmp .eq 6, 3) := by decide +kernel
theorem dX11_use_106 : decode cX11_use 106 = .ok (.bipush (-11), 2) := by decide +kernel
theorem dX11_use_108 : decode cX11_use 108 = .ok (.ireturn, 1) := by decide +kernel
theorem dX11_use_109 : decode cX11_use 109 = .ok (.bipush 100, 2) := by decide +kernel
theorem dX11_use_111 : decode cX11_use 111 = .ok (.iload_n 1, 1) := by decide +kernel
theorem dX11_use_112 : decode cX11_use 112 = .ok (.imul, 1) := by decide +kernel
theorem dX11_use_113 : decode cX11_use 113 = .ok (.istore 7, 2) := by decide +kernel
theorem dX11_use_115 : decode cX11_use 115 = .ok (.iload_n 2, 1) := by decide +kernel
theorem dX11_use_116 : decode cX11_use 116 = .ok (.ifCond .ne 12, 3) := by decide +kernel
theorem dX11_use_119 : decode cX11_use 119 = .ok (.aload_n 0, 1) := by decide +kernel
theorem dX11_use_120 : decode cX11_use 120 = .ok (.getfield 50, 3) := by decide +kernel
theorem dX11_use_123 : decode cX11_use 123 = .ok (.iload 7, 2) := by decide +kernel
theorem dX11_use_125 : decode cX11_use 125 = .ok (.laload, 1) := by decide +kernel
theorem dX11_use_126 : decode cX11_use 126 = .ok (.l2i, 1) := by decide +kernel
theorem dX11_use_127 : decode cX11_use 127 = .ok (.ireturn, 1) := by decide +kernel
theorem dX11_use_128 : decode cX11_use 128 = .ok (.iload_n 2, 1) := by decide +kernel
theorem dX11_use_129 : decode cX11_use 129 = .ok (.iconst 1, 1) := by decide +kernel
theorem dX11_use_130 : decode cX11_use 130 = .ok (.if_icmp .ne 47, 3) := by decide +kernel
theorem dX11_use_133 : decode cX11_use 133 = .ok (.aload_n 0, 1) := by decide +kernel
theorem dX11_use_134 : decode cX11_use 134 = .ok (.getfield 50, 3) := by decide +kernel
theorem dX11_use_137 : decode cX11_use 137 = .ok (.iload 7, 2) := by decide +kernel
theorem dX11_use_139 : decode cX11_use 139 = .ok (.laload, 1) := by decide +kernel
theorem dX11_use_140 : decode cX11_use 140 = .ok (.ldc2_w 116, 3) := by decide +kernel
theorem dX11_use_143 : decode cX11_use 143 = .ok (.lcmp, 1) := by decide +kernel
theorem dX11_use_144 : decode cX11_use 144 = .ok (.ifCond .lt 17, 3) := by decide +kernel
theorem dX11_use_147 : decode cX11_use 147 = .ok (.aload_n 0, 1) := by decide +kernel
theorem dX11_use_148 : decode cX11_use 148 = .ok (.getfield 50, 3) := by decide +kernel
theorem dX11_use_151 : decode cX11_use 151 = .ok (.iload 7, 2) := by decide +kernel
theorem dX11_use_153 : decode cX11_use 153 = .ok (.laload, 1) := by decide +kernel
theorem dX11_use_154 : decode cX11_use 154 = .ok (.ldc2_w 298, 3) := by decide +kernel
theorem dX11_use_157 : decode cX11_use 157 = .ok (.lcmp, 1) := by decide +kernel
theorem dX11_use_158 : decode cX11_use 158 = .ok (.ifCond .le 8, 3) := by decide +kernel
theorem dX11_use_161 : decode cX11_use 161 = .ok (.bipush (-11), 2) := by decide +kernel
theorem dX11_use_163 : decode cX11_use 163 = .ok (.goto 13, 3) := by decide +kernel
theorem dX11_use_166 : decode cX11_use 166 = .ok (.aload_n 0, 1) := by decide +kernel
theorem dX11_use_167 : decode cX11_use 167 = .ok (.getfield 50, 3) := by decide +kernel
theorem dX11_use_170 : decode cX11_use 170 = .ok (.iload 7, 2) := by decide +kernel
theorem dX11_use_172 : decode cX11_use 172 = .ok (.iconst 1, 1) := by decide +kernel
theorem dX11_use_173 : decode cX11_use 173 = .ok (.iadd, 1) := by decide +kernel
theorem dX11_use_174 : decode cX11_use 174 = .ok (.laload, 1) := by decide +kernel
theorem dX11_use_175 : decode cX11_use 175 = .ok (.l2i, 1) := by decide +kernel
theorem dX11_use_176 : decode cX11_use 176 = .ok (.ireturn, 1) := by decide +kernel
theorem dX11_use_177 : decode cX11_use 177 = .ok (.iload_n 2, 1) := by decide +kernel
theorem dX11_use_178 : decode cX11_use 178 = .ok (.bipush 9, 2) := by decide +kernel
theorem dX11_use_180 : decode cX11_use 180 = .ok (.if_icmp .ne 42, 3) := by decide +kernel
theorem dX11_use_183 : decode cX11_use 183 = .ok (.iload_n 3, 1) := by decide +kernel
theorem dX11_use_184 : decode cX11_use 184 = .ok (.ifCond .ge 8, 3) := by decide +kernel
theorem dX11_use_187 : decode cX11_use 187 = .ok (.bipush (-14), 2) := by decide +kernel
theorem dX11_use_189 : decode cX11_use 189 = .ok (.goto 32, 3) := by decide +kernel
theorem dX11_use_192 : decode cX11_use 192 = .ok (.iload 4, 2) := by decide +kernel
theorem dX11_use_194 : decode cX11_use 194 = .ok (.ifCond .lt 20, 3) := by decide +kernel
theorem dX11_use_197 : decode cX11_use 197 = .ok (.iload 4, 2) := by decide +kernel
theorem dX11_use_199 : decode cX11_use 199 = .ok (.iload_n 3, 1) := by decide +kernel
theorem dX11_use_200 : decode cX11_use 200 = .ok (.if_icmp .gt 14, 3) := by decide +kernel
theorem dX11_use_203 : decode cX11_use 203 = .ok (.iload 4, 2) := by decide +kernel
theorem dX11_use_205 : decode cX11_use 205 = .ok (.aload_n 0, 1) := by decide +kernel
theorem dX11_use_206 : decode cX11_use 206 = .ok (.getfield 47, 3) := by decide +kernel
theorem dX11_use_209 : decode cX11_use 209 = .ok (.iload_n 1, 1) := by decide +kernel
theorem dX11_use_210 : decode cX11_use 210 = .ok (.iaload, 1) := by decide +kernel
theorem dX11_use_211 : decode cX11_use 211 = .ok (.if_icmp .le 8, 3) := by decide +kernel
theorem dX11_use_214 : decode cX11_use 214 = .ok (.bipush (-13), 2) := by decide +kernel
theorem dX11_use_216 : decode cX11_use 216 = .ok (.goto 5, 3) := by decide +kernel
theorem dX11_use_219 : decode cX11_use 219 = .ok (.iload 4, 2) := by decide +kernel
theorem dX11_use_221 : decode cX11_use 221 = .ok (.ireturn, 1) := by decide +kernel
theorem dX11_use_222 : decode cX11_use 222 = .ok (.aload_n 0, 1) := by decide +kernel
theorem dX11_use_223 : decode cX11_use 223 = .ok (.iload_n 1, 1) := by decide +kernel
theorem dX11_use_224 : decode cX11_use 224 = .ok (.iload_n 3, 1) := by decide +kernel
theorem dX11_use_225 : decode cX11_use 225 = .ok (.invokevirtual 300, 3) := by decide +kernel
theorem dX11_use_228 : decode cX11_use 228 = .ok (.ifCond .eq 25, 3) := by decide +kernel
theorem dX11_use_231 : decode cX11_use 231 = .ok (.iload_n 2, 1) := by decide +kernel
theorem dX11_use_232 : decode cX11_use 232 = .ok (.bipush 7, 2) := by decide +kernel
theorem dX11_use_234 : decode cX11_use 234 = .ok (.if_icmp .eq 9, 3) := by decide +kernel
theorem dX11_use_237 : decode cX11_use 237 = .ok (.iload_n 2, 1) := by decide +kernel
theorem dX11_use_238 : decode cX11_use 238 = .ok (.bipush 8, 2) := by decide +kernel
theorem dX11_use_240 : decode cX11_use 240 = .ok (.if_icmp .ne 16, 3) := by decide +kernel
theorem dX11_use_243 : decode cX11_use 243 = .ok (.aload_n 0, 1) := by decide +kernel
theorem dX11_use_244 : decode cX11_use 244 = .ok (.iload_n 1, 1) := by decide +kernel
theorem dX11_use_245 : decode cX11_use 245 = .ok (.iload 4, 2) := by decide +kernel
theorem dX11_use_247 : decode cX11_use 247 = .ok (.invokevirtual 300, 3) := by decide +kernel
theorem dX11_use_250 : decode cX11_use 250 = .ok (.ifCond .ne 6, 3) := by decide +kernel
theorem dX11_use_253 : decode cX11_use 253 = .ok (.bipush (-13), 2) := by decide +kernel
theorem dX11_use_255 : decode cX11_use 255 = .ok (.ireturn, 1) := by decide +kernel
theorem dX11_use_256 : decode cX11_use 256 = .ok (.aload_n 0, 1) := by decide +kernel
theorem dX11_use_257 : decode cX11_use 257 = .ok (.getfield 50, 3) := by decide +kernel
theorem dX11_use_260 : decode cX11_use 260 = .ok (.iload 7, 2) := by decide +kernel
theorem dX11_use_262 : decode cX11_use 262 = .ok (.iload_n 3, 1) := by decide +kernel
theorem dX11_use_263 : decode cX11_use 263 = .ok (.iadd, 1) := by decide +kernel
theorem dX11_use_264 : decode cX11_use 264 = .ok (.laload, 1) := by decide +kernel
theorem dX11_use_265 : decode cX11_use 265 = .ok (.lstore 8, 2) := by decide +kernel
theorem dX11_use_267 : decode cX11_use 267 = .ok (.iload_n 2, 1) := by decide +kernel
theorem dX11_use_268 : decode cX11_use 268 = .ok (.bipush 6, 2) := by decide +kernel
theorem dX11_use_270 : decode cX11_use 270 = .ok (.if_icmp .ge 7, 3) := by decide +kernel
theorem dX11_use_273 : decode cX11_use 273 = .ok (.lload 8, 2) := by decide +kernel
theorem dX11_use_275 : decode cX11_use 275 = .ok (.l2i, 1) := by decide +kernel
theorem dX11_use_276 : decode cX11_use 276 = .ok (.ireturn, 1) := by decide +kernel
theorem dX11_use_277 : decode cX11_use 277 = .ok (.iload_n 2, 1) := by decide +kernel
theorem dX11_use_278 : decode cX11_use 278 = .ok (.bipush 6, 2) := by decide +kernel
theorem dX11_use_280 : decode cX11_use 280 = .ok (.if_icmp .ne 29, 3) := by decide +kernel
theorem dX11_use_283 : decode cX11_use 283 = .ok (.aload_n 0, 1) := by decide +kernel
theorem dX11_use_284 : decode cX11_use 284 = .ok (.bipush 6, 2) := by decide +kernel
theorem dX11_use_286 : decode cX11_use 286 = .ok (.iload_n 1, 1) := by decide +kernel
theorem dX11_use_287 : decode cX11_use 287 = .ok (.iload_n 3, 1) := by decide +kernel
theorem dX11_use_288 : decode cX11_use 288 = .ok (.lload 8, 2) := by decide +kernel
theorem dX11_use_290 : decode cX11_use 290 = .ok (.invokevirtual 160, 3) := by decide +kernel
theorem dX11_use_293 : decode cX11_use 293 = .ok (.aload_n 0, 1) := by decide +kernel
theorem dX11_use_294 : decode cX11_use 294 = .ok (.getfield 50, 3) := by decide +kernel
theorem dX11_use_297 : decode cX11_use 297 = .ok (.iload 7, 2) := by decide +kernel
theorem dX11_use_299 : decode cX11_use 299 = .ok (.iload_n 3, 1) := by decide +kernel
theorem dX11_use_300 : decode cX11_use 300 = .ok (.iadd, 1) := by decide +kernel
theorem dX11_use_301 : decode cX11_use 301 = .ok (.iload 4, 2) := by decide +kernel
theorem dX11_use_303 : decode cX11_use 303 = .ok (.i2l, 1) := by decide +kernel
theorem dX11_use_304 : decode cX11_use 304 = .ok (.lastore, 1) := by decide +kernel
theorem dX11_use_305 : decode cX11_use 305 = .ok (.lload 8, 2) := by decide +kernel
theorem dX11_use_307 : decode cX11_use 307 = .ok (.l2i, 1) := by decide +kernel
theorem dX11_use_308 : decode cX11_use 308 = .ok (.ireturn, 1) := by decide +kernel
theorem dX11_use_309 : decode cX11_use 309 = .ok (.aload_n 0, 1) := by decide +kernel
theorem dX11_use_310 : decode cX11_use 310 = .ok (.getfield 50, 3) := by decide +kernel
theorem dX11_use_313 : decode cX11_use 313 = .ok (.iload 7, 2) := by decide +kernel
theorem dX11_use_315 : decode cX11_use 315 = .ok (.iload 4, 2) := by decide +kernel
theorem dX11_use_317 : decode cX11_use 317 = .ok (.iadd, 1) := by decide +kernel
theorem dX11_use_318 : decode cX11_use 318 = .ok (.laload, 1) := by decide +kernel
theorem dX11_use_319 : decode cX11_use 319 = .ok (.lstore 10, 2) := by decide +kernel
theorem dX11_use_321 : decode cX11_use 321 = .ok (.lload 10, 2) := by decide +kernel
theorem dX11_use_323 : decode cX11_use 323 = .ok (.lconst 0, 1) := by decide +kernel
theorem dX11_use_324 : decode cX11_use 324 = .ok (.lcmp, 1) := by decide +kernel
theorem dX11_use_325 : decode cX11_use 325 = .ok (.ifCond .ne 6, 3) := by decide +kernel
theorem dX11_use_328 : decode cX11_use 328 = .ok (.bipush (-16), 2) := by decide +kernel
theorem dX11_use_330 : decode cX11_use 330 = .ok (.ireturn, 1) := by decide +kernel
theorem dX11_use_331 : decode cX11_use 331 = .ok (.iload_n 2, 1) := by decide +kernel
theorem dX11_use_332 : decode cX11_use 332 = .ok (.bipush 7, 2) := by decide +kernel
theorem dX11_use_334 : decode cX11_use 334 = .ok (.if_icmp .ne 15, 3) := by decide +kernel
theorem dX11_use_337 : decode cX11_use 337 = .ok (.aload_n 0, 1) := by decide +kernel
theorem dX11_use_338 : decode cX11_use 338 = .ok (.lload 8, 2) := by decide +kernel
theorem dX11_use_340 : decode cX11_use 340 = .ok (.lload 10, 2) := by decide +kernel
theorem dX11_use_342 : decode cX11_use 342 = .ok (.invokevirtual 240, 3) := by decide +kernel
theorem dX11_use_345 : decode cX11_use 345 = .ok (.l2i, 1) := by decide +kernel
theorem dX11_use_346 : decode cX11_use 346 = .ok (.goto 22, 3) := by decide +kernel
theorem dX11_use_349 : decode cX11_use 349 = .ok (.lload 10, 2) := by decide +kernel
theorem dX11_use_351 : decode cX11_use 351 = .ok (.ldc2_w 202, 3) := by decide +kernel
theorem dX11_use_354 : decode cX11_use 354 = .ok (.lcmp, 1) := by decide +kernel
theorem dX11_use_355 : decode cX11_use 355 = .ok (.ifCond .ne 7, 3) := by decide +kernel
theorem dX11_use_358 : decode cX11_use 358 = .ok (.iconst 0, 1) := by decide +kernel
theorem dX11_use_359 : decode cX11_use 359 = .ok (.goto 9, 3) := by decide +kernel
theorem dX11_use_362 : decode cX11_use 362 = .ok (.lload 8, 2) := by decide +kernel
theorem dX11_use_364 : decode cX11_use 364 = .ok (.lload 10, 2) := by decide +kernel
theorem dX11_use_366 : decode cX11_use 366 = .ok (.lrem, 1) := by decide +kernel
theorem dX11_use_367 : decode cX11_use 367 = .ok (.l2i, 1) := by decide +kernel
theorem dX11_use_368 : decode cX11_use 368 = .ok (.ireturn, 1) := by decide +kernel
end
section
theorem dL_law_0 : decode cL_law 0 = .ok (.new 7, 3) := by decide +kernel
theorem dL_law_3 : decode cL_law 3 = .ok (.dup, 1) := by decide +kernel
theorem dL_law_4 : decode cL_law 4 = .ok (.invokespecial 9, 3) := by decide +kernel
theorem dL_law_7 : decode cL_law 7 = .ok (.astore_n 1, 1) := by decide +kernel
theorem dL_law_8 : decode cL_law 8 = .ok (.new 10, 3) := by decide +kernel
theorem dL_law_11 : decode cL_law 11 = .ok (.dup, 1) := by decide +kernel
theorem dL_law_12 : decode cL_law 12 = .ok (.invokespecial 12, 3) := by decide +kernel
theorem dL_law_15 : decode cL_law 15 = .ok (.astore_n 2, 1) := by decide +kernel
theorem dL_law_16 : decode cL_law 16 = .ok (.iconst 0, 1) := by decide +kernel
theorem dL_law_17 : decode cL_law 17 = .ok (.istore_n 3, 1) := by decide +kernel
theorem dL_law_18 : decode cL_law 18 = .ok (.iload_n 3, 1) := by decide +kernel
theorem dL_law_19 : decode cL_law 19 = .ok (.aload_n 0, 1) := by decide +kernel
theorem dL_law_20 : decode cL_law 20 = .ok (.arraylength, 1) := by decide +kernel
theorem dL_law_21 : decode cL_law 21 = .ok (.bipush 8, 2) := by decide +kernel
theorem dL_law_23 : decode cL_law 23 = .ok (.isub, 1) := by decide +kernel
theorem dL_law_24 : decode cL_law 24 = .ok (.if_icmp .gt 1396, 3) := by decide +kernel
theorem dL_law_27 : decode cL_law 27 = .ok (.aload_n 0, 1) := by decide +kernel
theorem dL_law_28 : decode cL_law 28 = .ok (.iload_n 3, 1) := by decide +kernel
theorem dL_law_29 : decode cL_law 29 = .ok (.iaload, 1) := by decide +kernel
theorem dL_law_30 : decode cL_law 30 = .ok (.bipush 31, 2) := by decide +kernel
theorem dL_law_32 : decode cL_law 32 = .ok (.iand, 1) := by decide +kernel
theorem dL_law_33 : decode cL_law 33 = .ok (.tableswitch 1381 0 22 #[107, 130, 213, 296, 309, 332, 376, 399, 422, 455, 519, 593, 676, 804, 878, 1005, 1069, 1133, 1216, 1239, 1252, 1305, 1328], 107) := by decide +kernel
theorem dL_law_140 : decode cL_law 140 = .ok (.aload_n 1, 1) := by decide +kernel
theorem dL_law_141 : decode cL_law 141 = .ok (.aload_n 0, 1) := by decide +kernel
theorem dL_law_142 : decode cL_law 142 = .ok (.iload_n 3, 1) := by decide +kernel
theorem dL_law_143 : decode cL_law 143 = .ok (.iconst 1, 1) := by decide +kernel
theorem dL_law_144 : decode cL_law 144 = .ok (.iadd, 1) := by decide +kernel
theorem dL_law_145 : decode cL_law 145 = .ok (.iaload, 1) := by decide +kernel
theorem dL_law_146 : decode cL_law 146 = .ok (.invokevirtual 13, 3) := by decide +kernel
theorem dL_law_149 : decode cL_law 149 = .ok (.aload_n 2, 1) := by decide +kernel
theorem dL_law_150 : decode cL_law 150 = .ok (.aload_n 0, 1) := by decide +kernel
theorem dL_law_151 : decode cL_law 151 = .ok (.iload_n 3, 1) := by decide +kernel
theorem dL_law_152 : decode cL_law 152 = .ok (.iconst 1, 1) := by decide +kernel
theorem dL_law_153 : decode cL_law 153 = .ok (.iadd, 1) := by decide +kernel
theorem dL_law_154 : decode cL_law 154 = .ok (.iaload, 1) := by decide +kernel
theorem dL_law_155 : decode cL_law 155 = .ok (.invokevirtual 17, 3) := by decide +kernel
theorem dL_law_158 : decode cL_law 158 = .ok (.if_icmp .eq 1256, 3) := by decide +kernel
theorem dL_law_161 : decode cL_law 161 = .ok (.iconst 0, 1) := by decide +kernel
theorem dL_law_162 : decode cL_law 162 = .ok (.ireturn, 1) := by decide +kernel
theorem dL_law_163 : decode cL_law 163 = .ok (.aload_n 1, 1) := by decide +kernel
theorem dL_law_164 : decode cL_law 164 = .ok (.aload_n 0, 1) := by decide +kernel
theorem dL_law_165 : decode cL_law 165 = .ok (.iload_n 3, 1) := by decide +kernel
theorem dL_law_166 : decode cL_law 166 = .ok (.iconst 1, 1) := by decide +kernel
theorem dL_law_167 : decode cL_law 167 = .ok (.iadd, 1) := by decide +kernel
theorem dL_law_168 : decode cL_law 168 = .ok (.iaload, 1) := by decide +kernel
theorem dL_law_169 : decode cL_law 169 = .ok (.aload_n 0, 1) := by decide +kernel
theorem dL_law_170 : decode cL_law 170 = .ok (.iload_n 3, 1) := by decide +kernel
theorem dL_law_171 : decode cL_law 171 = .ok (.iconst 2, 1) := by decide +kernel
theorem dL_law_172 : decode cL_law 172 = .ok (.iadd, 1) := by decide +kernel
theorem dL_law_173 : decode cL_law 173 = .ok (.iaload, 1) := by decide +kernel
theorem dL_law_174 : decode cL_law 174 = .ok (.aload_n 0, 1) := by decide +kernel
theorem dL_law_175 : decode cL_law 175 = .ok (.iload_n 3, 1) := by decide +kernel
theorem dL_law_176 : decode cL_law 176 = .ok (.iconst 3, 1) := by decide +kernel
theorem dL_law_177 : decode cL_law 177 = .ok (.iadd, 1) := by decide +kernel
theorem dL_law_178 : decode cL_law 178 = .ok (.iaload, 1) := by decide +kernel
theorem dL_law_179 : decode cL_law 179 = .ok (.aload_n 0, 1) := by decide +kernel
theorem dL_law_180 : decode cL_law 180 = .ok (.iload_n 3, 1) := by decide +kernel
theorem dL_law_181 : decode cL_law 181 = .ok (.iconst 4, 1) := by decide +kernel
theorem dL_law_182 : decode cL_law 182 = .ok (.iadd, 1) := by decide +kernel
theorem dL_law_183 : decode cL_law 183 = .ok (.iaload, 1) := by decide +kernel
theorem dL_law_184 : decode cL_law 184 = .ok (.i2l, 1) := by decide +kernel
theorem dL_law_185 : decode cL_law 185 = .ok (.bipush 32, 2) := by decide +kernel
theorem dL_law_187 : decode cL_law 187 = .ok (.lshl, 1) := by decide +kernel
theorem dL_law_188 : decode cL_law 188 = .ok (.aload_n 0, 1) := by decide +kernel
theorem dL_law_189 : decode cL_law 189 = .ok (.iload_n 3, 1) := by decide +kernel
theorem dL_law_190 : decode cL_law 190 = .ok (.iconst 5, 1) := by decide +kernel
theorem dL_law_191 : decode cL_law 191 = .ok (.iadd, 1) := by decide +kernel
theorem dL_law_192 : decode cL_law 192 = .ok (.iaload, 1) := by decide +kernel
theorem dL_law_193 : decode cL_law 193 = .ok (.i2l, 1) := by decide +kernel
theorem dL_law_194 : decode cL_law 194 = .ok (.ldc2_w 18, 3) := by decide +kernel
theorem dL_law_197 : decode cL_law 197 = .ok (.land, 1) := by decide +kernel
theorem dL_law_198 : decode cL_law 198 = .ok (.lor, 1) := by decide +kernel
theorem dL_law_199 : decode cL_law 199 = .ok (.invokevirtual 20, 3) := by decide +kernel
theorem dL_law_202 : decode cL_law 202 = .ok (.aload_n 2, 1) := by decide +kernel
theorem dL_law_203 : decode cL_law 203 = .ok (.aload_n 0, 1) := by decide +kernel
theorem dL_law_204 : decode cL_law 204 = .ok (.iload_n 3, 1) := by decide +kernel
theorem dL_law_205 : decode cL_law 205 = .ok (.iconst 1, 1) := by decide +kernel
theorem dL_law_206 : decode cL_law 206 = .ok (.iadd, 1) := by decide +kernel
theorem dL_law_207 : decode cL_law 207 = .ok (.iaload, 1) := by decide +kernel
theorem dL_law_208 : decode cL_law 208 = .ok (.aload_n 0, 1) := by decide +kernel
theorem dL_law_209 : decode cL_law 209 = .ok (.iload_n 3, 1) := by decide +kernel
theorem dL_law_210 : decode cL_law 210 = .ok (.iconst 2, 1) := by decide +kernel
theorem dL_law_211 : decode cL_law 211 = .ok (.iadd, 1) := by decide +kernel
theorem dL_law_212 : decode cL_law 212 = .ok (.iaload, 1) := by decide +kernel
theorem dL_law_213 : decode cL_law 213 = .ok (.aload_n 0, 1) := by decide +kernel
theorem dL_law_214 : decode cL_law 214 = .ok (.iload_n 3, 1) := by decide +kernel
theorem dL_law_215 : decode cL_law 215 = .ok (.iconst 3, 1) := by decide +kernel
theorem dL_law_216 : decode cL_law 216 = .ok (.iadd, 1) := by decide +kernel
theorem dL_law_217 : decode cL_law 217 = .ok (.iaload, 1) := by decide +kernel
theorem dL_law_218 : decode cL_law 218 = .ok (.aload_n 0, 1) := by decide +kernel
theorem dL_law_219 : decode cL_law 219 = .ok (.iload_n 3, 1) := by decide +kernel
theorem dL_law_220 : decode cL_law 220 = .ok (.iconst 4, 1) := by decide +kernel
theorem dL_law_221 : decode cL_law 221 = .ok (.iadd, 1) := by decide +kernel
theorem dL_law_222 : decode cL_law 222 = .ok (.iaload, 1) := by decide +kernel
theorem dL_law_223 : decode cL_law 223 = .ok (.i2l, 1) := by decide +kernel
theorem dL_law_224 : decode cL_law 224 = .ok (.bipush 32, 2) := by decide +kernel
theorem dL_law_226 : decode cL_law 226 = .ok (.lshl, 1) := by decide +kernel
theorem dL_law_227 : decode cL_law 227 = .ok (.aload_n 0, 1) := by decide +kernel
theorem dL_law_228 : decode cL_law 228 = .ok (.iload_n 3, 1) := by decide +kernel
theorem dL_law_229 : decode cL_law 229 = .ok (.iconst 5, 1) := by decide +kernel
theorem dL_law_230 : decode cL_law 230 = .ok (.iadd, 1) := by decide +kernel
theorem dL_law_231 : decode cL_law 231 = .ok (.iaload, 1) := by decide +kernel
theorem dL_law_232 : decode cL_law 232 = .ok (.i2l, 1) := by decide +kernel
theorem dL_law_233 : decode cL_law 233 = .ok (.ldc2_w 18, 3) := by decide +kernel
theorem dL_law_236 : decode cL_law 236 = .ok (.land, 1) := by decide +kernel
theorem dL_law_237 : decode cL_law 237 = .ok (.lor, 1) := by decide +kernel
theorem dL_law_238 : decode cL_law 238 = .ok (.invokevirtual 24, 3) := by decide +kernel
theorem dL_law_241 : decode cL_law 241 = .ok (.if_icmp .eq 1173, 3) := by decide +kernel
theorem dL_law_244 : decode cL_law 244 = .ok (.iconst 0, 1) := by decide +kernel
theorem dL_law_245 : decode cL_law 245 = .ok (.ireturn, 1) := by decide +kernel
theorem dL_law_246 : decode cL_law 246 = .ok (.aload_n 1, 1) := by decide +kernel
theorem dL_law_247 : decode cL_law 247 = .ok (.aload_n 0, 1) := by decide +kernel
theorem dL_law_248 : decode cL_law 248 = .ok (.iload_n 3, 1) := by decide +kernel
theorem dL_law_249 : decode cL_law 249 = .ok (.iconst 1, 1) := by decide +kernel
theorem dL_law_250 : decode cL_law 250 = .ok (.iadd, 1) := by decide +kernel
theorem dL_law_251 : decode cL_law 251 = .ok (.iaload, 1) := by decide +kernel
theorem dL_law_252 : decode cL_law 252 = .ok (.aload_n 0, 1) := by decide +kernel
theorem dL_law_253 : decode cL_law 253 = .ok (.iload_n 3, 1) := by decide +kernel
theorem dL_law_254 : decode cL_law 254 = .ok (.iconst 2, 1) := by decide +kernel
theorem dL_law_255 : decode cL_law 255 = .ok (.iadd, 1) := by decide +kernel
theorem dL_law_256 : decode cL_law 256 = .ok (.iaload, 1) := by decide +kernel
theorem dL_law_257 : decode cL_law 257 = .ok (.aload_n 0, 1) := by decide +kernel
theorem dL_law_258 : decode cL_law 258 = .ok (.iload_n 3, 1) := by decide +kernel
theorem dL_law_259 : decode cL_law 259 = .ok (.iconst 3, 1) := by decide +kernel
theorem dL_law_260 : decode cL_law 260 = .ok (.iadd, 1) := by decide +kernel
theorem dL_law_261 : decode cL_law 261 = .ok (.iaload, 1) := by decide +kernel
theorem dL_law_262 : decode cL_law 262 = .ok (.aload_n 0, 1) := by decide +kernel
theorem dL_law_263 : decode cL_law 263 = .ok (.iload_n 3, 1) := by decide +kernel
theorem dL_law_264 : decode cL_law 264 = .ok (.iconst 4, 1) := by decide +kernel
theorem dL_law_265 : decode cL_law 265 = .ok (.iadd, 1) := by decide +kernel
theorem dL_law_266 : decode cL_law 266 = .ok (.iaload, 1) := by decide +kernel
theorem dL_law_267 : decode cL_law 267 = .ok (.i2l, 1) := by decide +kernel
theorem dL_law_268 : decode cL_law 268 = .ok (.bipush 32, 2) := by decide +kernel
theorem dL_law_270 : decode cL_law 270 = .ok (.lshl, 1) := by decide +kernel
theorem dL_law_271 : decode cL_law 271 = .ok (.aload_n 0, 1) := by decide +kernel
theorem dL_law_272 : decode cL_law 272 = .ok (.iload_n 3, 1) := by decide +kernel
theorem dL_law_273 : decode cL_law 273 = .ok (.iconst 5, 1) := by decide +kernel
theorem dL_law_274 : decode cL_law 274 = .ok (.iadd, 1) := by decide +kernel
theorem dL_law_275 : decode cL_law 275 = .ok (.iaload, 1) := by decide +kernel
theorem dL_law_276 : decode cL_law 276 = .ok (.i2l, 1) := by decide +kernel
theorem dL_law_277 : decode cL_law 277 = .ok (.ldc2_w 18, 3) := by decide +kernel
theorem dL_law_280 : decode cL_law 280 = .ok (.land, 1) := by decide +kernel
theorem dL_law_281 : decode cL_law 281 = .ok (.lor, 1) := by decide +kernel
theorem dL_law_282 : decode cL_law 282 = .ok (.invokevirtual 25, 3) := by decide +kernel
theorem dL_law_285 : decode cL_law 285 = .ok (.aload_n 2, 1) := by decide +kernel
theorem dL_law_286 : decode cL_law 286 = .ok (.aload_n 0, 1) := by decide +kernel
theorem dL_law_287 : decode cL_law 287 = .ok (.iload_n 3, 1) := by decide +kernel
theorem dL_law_288 : decode cL_law 288 = .ok (.iconst 1, 1) := by decide +kernel
theorem dL_law_289 : decode cL_law 289 = .ok (.iadd, 1) := by decide +kernel
theorem dL_law_290 : decode cL_law 290 = .ok (.iaload, 1) := by decide +kernel
theorem dL_law_291 : decode cL_law 291 = .ok (.aload_n 0, 1) := by decide +kernel
theorem dL_law_292 : decode cL_law 292 = .ok (.iload_n 3, 1) := by decide +kernel
theorem dL_law_293 : decode cL_law 293 = .ok (.iconst 2, 1) := by decide +kernel
theorem dL_law_294 : decode cL_law 294 = .ok (.iadd, 1) := by decide +kernel
theorem dL_law_295 : decode cL_law 295 = .ok (.iaload, 1) := by decide +kernel
theorem dL_law_296 : decode cL_law 296 = .ok (.aload_n 0, 1) := by decide +kernel
theorem dL_law_297 : decode cL_law 297 = .ok (.iload_n 3, 1) := by decide +kernel
theorem dL_law_298 : decode cL_law 298 = .ok (.iconst 3, 1) := by decide +kernel
theorem dL_law_299 : decode cL_law 299 = .ok (.iadd, 1) := by decide +kernel
theorem dL_law_300 : decode cL_law 300 = .ok (.iaload, 1) := by decide +kernel
theorem dL_law_301 : decode cL_law 301 = .ok (.aload_n 0, 1) := by decide +kernel
theorem dL_law_302 : decode cL_law 302 = .ok (.iload_n 3, 1) := by decide +kernel
theorem dL_law_303 : decode cL_law 303 = .ok (.iconst 4, 1) := by decide +kernel
theorem dL_law_304 : decode cL_law 304 = .ok (.iadd, 1) := by decide +kernel
theorem dL_law_305 : decode cL_law 305 = .ok (.iaload, 1) := by decide +kernel
theorem dL_law_306 : decode cL_law 306 = .ok (.i2l, 1) := by decide +kernel
theorem dL_law_307 : decode cL_law 307 = .ok (.bipush 32, 2) := by decide +kernel
theorem dL_law_309 : decode cL_law 309 = .ok (.lshl, 1) := by decide +kernel
theorem dL_law_310 : decode cL_law 310 = .ok (.aload_n 0, 1) := by decide +kernel
theorem dL_law_311 : decode cL_law 311 = .ok (.iload_n 3, 1) := by decide +kernel
theorem dL_law_312 : decode cL_law 312 = .ok (.iconst 5, 1) := by decide +kernel
theorem dL_law_313 : decode cL_law 313 = .ok (.iadd, 1) := by decide +kernel
theorem dL_law_314 : decode cL_law 314 = .ok (.iaload, 1) := by decide +kernel
theorem dL_law_315 : decode cL_law 315 = .ok (.i2l, 1) := by decide +kernel
theorem dL_law_316 : decode cL_law 316 = .ok (.ldc2_w 18, 3) := by decide +kernel
theorem dL_law_319 : decode cL_law 319 = .ok (.land, 1) := by decide +kernel
theorem dL_law_320 : decode cL_law 320 = .ok (.lor, 1) := by decide +kernel
theorem dL_law_321 : decode cL_law 321 = .ok (.invokevirtual 28, 3) := by decide +kernel
theorem dL_law_324 : decode cL_law 324 = .ok (.if_icmp .eq 1090, 3) := by decide +kernel
theorem dL_law_327 : decode cL_law 327 = .ok (.iconst 0, 1) := by decide +kernel
theorem dL_law_328 : decode cL_law 328 = .ok (.ireturn, 1) := by decide +kernel
theorem dL_law_329 : decode cL_law 329 = .ok (.aload_n 1, 1) := by decide +kernel
theorem dL_law_330 : decode cL_law 330 = .ok (.invokevirtual 29, 3) := by decide +kernel
theorem dL_law_333 : decode cL_law 333 = .ok (.aload_n 2, 1) := by decide +kernel
theorem dL_law_334 : decode cL_law 334 = .ok (.invokevirtual 33, 3) := by decide +kernel
theorem dL_law_337 : decode cL_law 337 = .ok (.if_icmp .eq 1077, 3) := by decide +kernel
theorem dL_law_340 : decode cL_law 340 = .ok (.iconst 0, 1) := by decide +kernel
theorem dL_law_341 : decode cL_law 341 = .ok (.ireturn, 1) := by decide +kernel
theorem dL_law_342 : decode cL_law 342 = .ok (.aload_n 1, 1) := by decide +kernel
theorem dL_law_343 : decode cL_law 343 = .ok (.aload_n 0, 1) := by decide +kernel
theorem dL_law_344 : decode cL_law 344 = .ok (.iload_n 3, 1) := by decide +kernel
theorem dL_law_345 : decode cL_law 345 = .ok (.iconst 1, 1) := by decide +kernel
theorem dL_law_346 : decode cL_law 346 = .ok (.iadd, 1) := by decide +kernel
theorem dL_law_347 : decode cL_law 347 = .ok (.iaload, 1) := by decide +kernel
theorem dL_law_348 : decode cL_law 348 = .ok (.invokevirtual 34, 3) := by decide +kernel
theorem dL_law_351 : decode cL_law 351 = .ok (.aload_n 2, 1) := by decide +kernel
theorem dL_law_352 : decode cL_law 352 = .ok (.aload_n 0, 1) := by decide +kernel
theorem dL_law_353 : decode cL_law 353 = .ok (.iload_n 3, 1) := by decide +kernel
theorem dL_law_354 : decode cL_law 354 = .ok (.iconst 1, 1) := by decide +kernel
theorem dL_law_355 : decode cL_law 355 = .ok (.iadd, 1) := by decide +kernel
theorem dL_law_356 : decode cL_law 356 = .ok (.iaload, 1) := by decide +kernel
theorem dL_law_357 : decode cL_law 357 = .ok (.invokevirtual 37, 3) := by decide +kernel
theorem dL_law_360 : decode cL_law 360 = .ok (.if_icmp .eq 1054, 3) := by decide +kernel
theorem dL_law_363 : decode cL_law 363 = .ok (.iconst 0, 1) := by decide +kernel
theorem dL_law_364 : decode cL_law 364 = .ok (.ireturn, 1) := by decide +kernel
theorem dL_law_365 : decode cL_law 365 = .ok (.aload_n 1, 1) := by decide +kernel
theorem dL_law_366 : decode cL_law 366 = .ok (.aload_n 0, 1) := by decide +kernel
theorem dL_law_367 : decode cL_law 367 = .ok (.iload_n 3, 1) := by decide +kernel
theorem dL_law_368 : decode cL_law 368 = .ok (.iconst 1, 1) := by decide +kernel
theorem dL_law_369 : decode cL_law 369 = .ok (.iadd, 1) := by decide +kernel
theorem dL_law_370 : decode cL_law 370 = .ok (.iaload, 1) := by decide +kernel
theorem dL_law_371 : decode cL_law 371 = .ok (.aload_n 0, 1) := by decide +kernel
theorem dL_law_372 : decode cL_law 372 = .ok (.iload_n 3, 1) := by decide +kernel
theorem dL_law_373 : decode cL_law 373 = .ok (.iconst 2, 1) := by decide +kernel
theorem dL_law_374 : decode cL_law 374 = .ok (.iadd, 1) := by decide +kernel
theorem dL_law_375 : decode cL_law 375 = .ok (.iaload, 1) := by decide +kernel
theorem dL_law_376 : decode cL_law 376 = .ok (.aload_n 0, 1) := by decide +kernel
theorem dL_law_377 : decode cL_law 377 = .ok (.iload_n 3, 1) := by decide +kernel
theorem dL_law_378 : decode cL_law 378 = .ok (.iconst 3, 1) := by decide +kernel
theorem dL_law_379 : decode cL_law 379 = .ok (.iadd, 1) := by decide +kernel
theorem dL_law_380 : decode cL_law 380 = .ok (.iaload, 1) := by decide +kernel
theorem dL_law_381 : decode cL_law 381 = .ok (.invokevirtual 38, 3) := by decide +kernel
theorem dL_law_384 : decode cL_law 384 = .ok (.aload_n 2, 1) := by decide +kernel
theorem dL_law_385 : decode cL_law 385 = .ok (.aload_n 0, 1) := by decide +kernel
theorem dL_law_386 : decode cL_law 386 = .ok (.iload_n 3, 1) := by decide +kernel
theorem dL_law_387 : decode cL_law 387 = .ok (.iconst 1, 1) := by decide +kernel
theorem dL_law_388 : decode cL_law 388 = .ok (.iadd, 1) := by decide +kernel
theorem dL_law_389 : decode cL_law 389 = .ok (.iaload, 1) := by decide +kernel
theorem dL_law_390 : decode cL_law 390 = .ok (.aload_n 0, 1) := by decide +kernel
theorem dL_law_391 : decode cL_law 391 = .ok (.iload_n 3, 1) := by decide +kernel
theorem dL_law_392 : decode cL_law 392 = .ok (.iconst 2, 1) := by decide +kernel
theorem dL_law_393 : decode cL_law 393 = .ok (.iadd, 1) := by decide +kernel
theorem dL_law_394 : decode cL_law 394 = .ok (.iaload, 1) := by decide +kernel
theorem dL_law_395 : decode cL_law 395 = .ok (.aload_n 0, 1) := by decide +kernel
theorem dL_law_396 : decode cL_law 396 = .ok (.iload_n 3, 1) := by decide +kernel
theorem dL_law_397 : decode cL_law 397 = .ok (.iconst 3, 1) := by decide +kernel
theorem dL_law_398 : decode cL_law 398 = .ok (.iadd, 1) := by decide +kernel
theorem dL_law_399 : decode cL_law 399 = .ok (.iaload, 1) := by decide +kernel
theorem dL_law_400 : decode cL_law 400 = .ok (.invokevirtual 42, 3) := by decide +kernel
theorem dL_law_403 : decode cL_law 403 = .ok (.lcmp, 1) := by decide +kernel
theorem dL_law_404 : decode cL_law 404 = .ok (.ifCond .eq 1010, 3) := by decide +kernel
theorem dL_law_407 : decode cL_law 407 = .ok (.iconst 0, 1) := by decide +kernel
theorem dL_law_408 : decode cL_law 408 = .ok (.ireturn, 1) := by decide +kernel
theorem dL_law_409 : decode cL_law 409 = .ok (.aload_n 1, 1) := by decide +kernel
theorem dL_law_410 : decode cL_law 410 = .ok (.aload_n 0, 1) := by decide +kernel
theorem dL_law_411 : decode cL_law 411 = .ok (.iload_n 3, 1) := by decide +kernel
theorem dL_law_412 : decode cL_law 412 = .ok (.iconst 1, 1) := by decide +kernel
theorem dL_law_413 : decode cL_law 413 = .ok (.iadd, 1) := by decide +kernel
theorem dL_law_414 : decode cL_law 414 = .ok (.iaload, 1) := by decide +kernel
theorem dL_law_415 : decode cL_law 415 = .ok (.invokevirtual 43, 3) := by decide +kernel
theorem dL_law_418 : decode cL_law 418 = .ok (.aload_n 2, 1) := by decide +kernel
theorem dL_law_419 : decode cL_law 419 = .ok (.aload_n 0, 1) := by decide +kernel
theorem dL_law_420 : decode cL_law 420 = .ok (.iload_n 3, 1) := by decide +kernel
theorem dL_law_421 : decode cL_law 421 = .ok (.iconst 1, 1) := by decide +kernel
theorem dL_law_422 : decode cL_law 422 = .ok (.iadd, 1) := by decide +kernel
theorem dL_law_423 : decode cL_law 423 = .ok (.iaload, 1) := by decide +kernel
theorem dL_law_424 : decode cL_law 424 = .ok (.invokevirtual 46, 3) := by decide +kernel
theorem dL_law_427 : decode cL_law 427 = .ok (.if_icmp .eq 987, 3) := by decide +kernel
theorem dL_law_430 : decode cL_law 430 = .ok (.iconst 0, 1) := by decide +kernel
theorem dL_law_431 : decode cL_law 431 = .ok (.ireturn, 1) := by decide +kernel
theorem dL_law_432 : decode cL_law 432 = .ok (.aload_n 1, 1) := by decide +kernel
theorem dL_law_433 : decode cL_law 433 = .ok (.aload_n 0, 1) := by decide +kernel
theorem dL_law_434 : decode cL_law 434 = .ok (.iload_n 3, 1) := by decide +kernel
theorem dL_law_435 : decode cL_law 435 = .ok (.iconst 1, 1) := by decide +kernel
theorem dL_law_436 : decode cL_law 436 = .ok (.iadd, 1) := by decide +kernel
theorem dL_law_437 : decode cL_law 437 = .ok (.iaload, 1) := by decide +kernel
theorem dL_law_438 : decode cL_law 438 = .ok (.invokevirtual 47, 3) := by decide +kernel
theorem dL_law_441 : decode cL_law 441 = .ok (.aload_n 2, 1) := by decide +kernel
theorem dL_law_442 : decode cL_law 442 = .ok (.aload_n 0, 1) := by decide +kernel
theorem dL_law_443 : decode cL_law 443 = .ok (.iload_n 3, 1) := by decide +kernel
theorem dL_law_444 : decode cL_law 444 = .ok (.iconst 1, 1) := by decide +kernel
theorem dL_law_445 : decode cL_law 445 = .ok (.iadd, 1) := by decide +kernel
theorem dL_law_446 : decode cL_law 446 = .ok (.iaload, 1) := by decide +kernel
theorem dL_law_447 : decode cL_law 447 = .ok (.invokevirtual 50, 3) := by decide +kernel
theorem dL_law_450 : decode cL_law 450 = .ok (.if_icmp .eq 964, 3) := by decide +kernel
theorem dL_law_453 : decode cL_law 453 = .ok (.iconst 0, 1) := by decide +kernel
theorem dL_law_454 : decode cL_law 454 = .ok (.ireturn, 1) := by decide +kernel
theorem dL_law_455 : decode cL_law 455 = .ok (.aload_n 1, 1) := by decide +kernel
theorem dL_law_456 : decode cL_law 456 = .ok (.aload_n 0, 1) := by decide +kernel
theorem dL_law_457 : decode cL_law 457 = .ok (.iload_n 3, 1) := by decide +kernel
theorem dL_law_458 : decode cL_law 458 = .ok (.iconst 1, 1) := by decide +kernel
theorem dL_law_459 : decode cL_law 459 = .ok (.iadd, 1) := by decide +kernel
theorem dL_law_460 : decode cL_law 460 = .ok (.iaload, 1) := by decide +kernel
theorem dL_law_461 : decode cL_law 461 = .ok (.aload_n 0, 1) := by decide +kernel
theorem dL_law_462 : decode cL_law 462 = .ok (.iload_n 3, 1) := by decide +kernel
theorem dL_law_463 : decode cL_law 463 = .ok (.iconst 2, 1) := by decide +kernel
theorem dL_law_464 : decode cL_law 464 = .ok (.iadd, 1) := by decide +kernel
theorem dL_law_465 : decode cL_law 465 = .ok (.iaload, 1) := by decide +kernel
theorem dL_law_466 : decode cL_law 466 = .ok (.invokevirtual 51, 3) := by decide +kernel
theorem dL_law_469 : decode cL_law 469 = .ok (.aload_n 2, 1) := by decide +kernel
theorem dL_law_470 : decode cL_law 470 = .ok (.aload_n 0, 1) := by decide +kernel
theorem dL_law_471 : decode cL_law 471 = .ok (.iload_n 3, 1) := by decide +kernel
theorem dL_law_472 : decode cL_law 472 = .ok (.iconst 1, 1) := by decide +kernel
theorem dL_law_473 : decode cL_law 473 = .ok (.iadd, 1) := by decide +kernel
theorem dL_law_474 : decode cL_law 474 = .ok (.iaload, 1) := by decide +kernel
theorem dL_law_475 : decode cL_law 475 = .ok (.aload_n 0, 1) := by decide +kernel
theorem dL_law_476 : decode cL_law 476 = .ok (.iload_n 3, 1) := by decide +kernel
theorem dL_law_477 : decode cL_law 477 = .ok (.iconst 2, 1) := by decide +kernel
theorem dL_law_478 : decode cL_law 478 = .ok (.iadd, 1) := by decide +kernel
theorem dL_law_479 : decode cL_law 479 = .ok (.iaload, 1) := by decide +kernel
theorem dL_law_480 : decode cL_law 480 = .ok (.invokevirtual 55, 3) := by decide +kernel
theorem dL_law_483 : decode cL_law 483 = .ok (.if_icmp .eq 931, 3) := by decide +kernel
theorem dL_law_486 : decode cL_law 486 = .ok (.iconst 0, 1) := by decide +kernel
theorem dL_law_487 : decode cL_law 487 = .ok (.ireturn, 1) := by decide +kernel
theorem dL_law_488 : decode cL_law 488 = .ok (.aload_n 1, 1) := by decide +kernel
theorem dL_law_489 : decode cL_law 489 = .ok (.aload_n 0, 1) := by decide +kernel
theorem dL_law_490 : decode cL_law 490 = .ok (.iload_n 3, 1) := by decide +kernel
theorem dL_law_491 : decode cL_law 491 = .ok (.iconst 1, 1) := by decide +kernel
theorem dL_law_492 : decode cL_law 492 = .ok (.iadd, 1) := by decide +kernel
theorem dL_law_493 : decode cL_law 493 = .ok (.iaload, 1) := by decide +kernel
theorem dL_law_494 : decode cL_law 494 = .ok (.aload_n 0, 1) := by decide +kernel
theorem dL_law_495 : decode cL_law 495 = .ok (.iload_n 3, 1) := by decide +kernel
theorem dL_law_496 : decode cL_law 496 = .ok (.iconst 2, 1) := by decide +kernel
theorem dL_law_497 : decode cL_law 497 = .ok (.iadd, 1) := by decide +kernel
theorem dL_law_498 : decode cL_law 498 = .ok (.iaload, 1) := by decide +kernel
theorem dL_law_499 : decode cL_law 499 = .ok (.i2l, 1) := by decide +kernel
theorem dL_law_500 : decode cL_law 500 = .ok (.bipush 32, 2) := by decide +kernel
theorem dL_law_502 : decode cL_law 502 = .ok (.lshl, 1) := by decide +kernel
theorem dL_law_503 : decode cL_law 503 = .ok (.aload_n 0, 1) := by decide +kernel
theorem dL_law_504 : decode cL_law 504 = .ok (.iload_n 3, 1) := by decide +kernel
theorem dL_law_505 : decode cL_law 505 = .ok (.iconst 3, 1) := by decide +kernel
theorem dL_law_506 : decode cL_law 506 = .ok (.iadd, 1) := by decide +kernel
theorem dL_law_507 : decode cL_law 507 = .ok (.iaload, 1) := by decide +kernel
theorem dL_law_508 : decode cL_law 508 = .ok (.i2l, 1) := by decide +kernel
theorem dL_law_509 : decode cL_law 509 = .ok (.ldc2_w 18, 3) := by decide +kernel
theorem dL_law_512 : decode cL_law 512 = .ok (.land, 1) := by decide +kernel
theorem dL_law_513 : decode cL_law 513 = .ok (.lor, 1) := by decide +kernel
theorem dL_law_514 : decode cL_law 514 = .ok (.invokevirtual 56, 3) := by decide +kernel
theorem dL_law_517 : decode cL_law 517 = .ok (.aload_n 2, 1) := by decide +kernel
theorem dL_law_518 : decode cL_law 518 = .ok (.aload_n 0, 1) := by decide +kernel
theorem dL_law_519 : decode cL_law 519 = .ok (.iload_n 3, 1) := by decide +kernel
theorem dL_law_520 : decode cL_law 520 = .ok (.iconst 1, 1) := by decide +kernel
theorem dL_law_521 : decode cL_law 521 = .ok (.iadd, 1) := by decide +kernel
theorem dL_law_522 : decode cL_law 522 = .ok (.iaload, 1) := by decide +kernel
theorem dL_law_523 : decode cL_law 523 = .ok (.aload_n 0, 1) := by decide +kernel
theorem dL_law_524 : decode cL_law 524 = .ok (.iload_n 3, 1) := by decide +kernel
theorem dL_law_525 : decode cL_law 525 = .ok (.iconst 2, 1) := by decide +kernel
theorem dL_law_526 : decode cL_law 526 = .ok (.iadd, 1) := by decide +kernel
theorem dL_law_527 : decode cL_law 527 = .ok (.iaload, 1) := by decide +kernel
theorem dL_law_528 : decode cL_law 528 = .ok (.i2l, 1) := by decide +kernel
theorem dL_law_529 : decode cL_law 529 = .ok (.bipush 32, 2) := by decide +kernel
theorem dL_law_531 : decode cL_law 531 = .ok (.lshl, 1) := by decide +kernel
theorem dL_law_532 : decode cL_law 532 = .ok (.aload_n 0, 1) := by decide +kernel
theorem dL_law_533 : decode cL_law 533 = .ok (.iload_n 3, 1) := by decide +kernel
theorem dL_law_534 : decode cL_law 534 = .ok (.iconst 3, 1) := by decide +kernel
theorem dL_law_535 : decode cL_law 535 = .ok (.iadd, 1) := by decide +kernel
theorem dL_law_536 : decode cL_law 536 = .ok (.iaload, 1) := by decide +kernel
theorem dL_law_537 : decode cL_law 537 = .ok (.i2l, 1) := by decide +kernel
theorem dL_law_538 : decode cL_law 538 = .ok (.ldc2_w 18, 3) := by decide +kernel
theorem dL_law_541 : decode cL_law 541 = .ok (.land, 1) := by decide +kernel
theorem dL_law_542 : decode cL_law 542 = .ok (.lor, 1) := by decide +kernel
theorem dL_law_543 : decode cL_law 543 = .ok (.invokevirtual 60, 3) := by decide +kernel
theorem dL_law_546 : decode cL_law 546 = .ok (.lcmp, 1) := by decide +kernel
theorem dL_law_547 : decode cL_law 547 = .ok (.ifCond .eq 867, 3) := by decide +kernel
theorem dL_law_550 : decode cL_law 550 = .ok (.iconst 0, 1) := by decide +kernel
theorem dL_law_551 : decode cL_law 551 = .ok (.ireturn, 1) := by decide +kernel
theorem dL_law_552 : decode cL_law 552 = .ok (.aload_n 1, 1) := by decide +kernel
theorem dL_law_553 : decode cL_law 553 = .ok (.aload_n 0, 1) := by decide +kernel
theorem dL_law_554 : decode cL_law 554 = .ok (.iload_n 3, 1) := by decide +kernel
theorem dL_law_555 : decode cL_law 555 = .ok (.iconst 1, 1) := by decide +kernel
theorem dL_law_556 : decode cL_law 556 = .ok (.iadd, 1) := by decide +kernel
theorem dL_law_557 : decode cL_law 557 = .ok (.iaload, 1) := by decide +kernel
theorem dL_law_558 : decode cL_law 558 = .ok (.aload_n 0, 1) := by decide +kernel
theorem dL_law_559 : decode cL_law 559 = .ok (.iload_n 3, 1) := by decide +kernel
theorem dL_law_560 : decode cL_law 560 = .ok (.iconst 2, 1) := by decide +kernel
theorem dL_law_561 : decode cL_law 561 = .ok (.iadd, 1) := by decide +kernel
theorem dL_law_562 : decode cL_law 562 = .ok (.iaload, 1) := by decide +kernel
theorem dL_law_563 : decode cL_law 563 = .ok (.i2l, 1) := by decide +kernel
theorem dL_law_564 : decode cL_law 564 = .ok (.bipush 32, 2) := by decide +kernel
theorem dL_law_566 : decode cL_law 566 = .ok (.lshl, 1) := by decide +kernel
theorem dL_law_567 : decode cL_law 567 = .ok (.aload_n 0, 1) := by decide +kernel
theorem dL_law_568 : decode cL_law 568 = .ok (.iload_n 3, 1) := by decide +kernel
theorem dL_law_569 : decode cL_law 569 = .ok (.iconst 3, 1) := by decide +kernel
theorem dL_law_570 : decode cL_law 570 = .ok (.iadd, 1) := by decide +kernel
theorem dL_law_571 : decode cL_law 571 = .ok (.iaload, 1) := by decide +kernel
theorem dL_law_572 : decode cL_law 572 = .ok (.i2l, 1) := by decide +kernel
theorem dL_law_573 : decode cL_law 573 = .ok (.ldc2_w 18, 3) := by decide +kernel
theorem dL_law_576 : decode cL_law 576 = .ok (.land, 1) := by decide +kernel
theorem dL_law_577 : decode cL_law 577 = .ok (.lor, 1) := by decide +kernel
theorem dL_law_578 : decode cL_law 578 = .ok (.aload_n 0, 1) := by decide +kernel
theorem dL_law_579 : decode cL_law 579 = .ok (.iload_n 3, 1) := by decide +kernel
theorem dL_law_580 : decode cL_law 580 = .ok (.iconst 4, 1) := by decide +kernel
theorem dL_law_581 : decode cL_law 581 = .ok (.iadd, 1) := by decide +kernel
theorem dL_law_582 : decode cL_law 582 = .ok (.iaload, 1) := by decide +kernel
theorem dL_law_583 : decode cL_law 583 = .ok (.invokevirtual 61, 3) := by decide +kernel
theorem dL_law_586 : decode cL_law 586 = .ok (.aload_n 2, 1) := by decide +kernel
theorem dL_law_587 : decode cL_law 587 = .ok (.aload_n 0, 1) := by decide +kernel
theorem dL_law_588 : decode cL_law 588 = .ok (.iload_n 3, 1) := by decide +kernel
theorem dL_law_589 : decode cL_law 589 = .ok (.iconst 1, 1) := by decide +kernel
theorem dL_law_590 : decode cL_law 590 = .ok (.iadd, 1) := by decide +kernel
theorem dL_law_591 : decode cL_law 591 = .ok (.iaload, 1) := by decide +kernel
theorem dL_law_592 : decode cL_law 592 = .ok (.aload_n 0, 1) := by decide +kernel
theorem dL_law_593 : decode cL_law 593 = .ok (.iload_n 3, 1) := by decide +kernel
theorem dL_law_594 : decode cL_law 594 = .ok (.iconst 2, 1) := by decide +kernel
theorem dL_law_595 : decode cL_law 595 = .ok (.iadd, 1) := by decide +kernel
theorem dL_law_596 : decode cL_law 596 = .ok (.iaload, 1) := by decide +kernel
theorem dL_law_597 : decode cL_law 597 = .ok (.i2l, 1) := by decide +kernel
theorem dL_law_598 : decode cL_law 598 = .ok (.bipush 32, 2) := by decide +kernel
theorem dL_law_600 : decode cL_law 600 = .ok (.lshl, 1) := by decide +kernel
theorem dL_law_601 : decode cL_law 601 = .ok (.aload_n 0, 1) := by decide +kernel
theorem dL_law_602 : decode cL_law 602 = .ok (.iload_n 3, 1) := by decide +kernel
theorem dL_law_603 : decode cL_law 603 = .ok (.iconst 3, 1) := by decide +kernel
theorem dL_law_604 : decode cL_law 604 = .ok (.iadd, 1) := by decide +kernel
theorem dL_law_605 : decode cL_law 605 = .ok (.iaload, 1) := by decide +kernel
theorem dL_law_606 : decode cL_law 606 = .ok (.i2l, 1) := by decide +kernel
theorem dL_law_607 : decode cL_law 607 = .ok (.ldc2_w 18, 3) := by decide +kernel
theorem dL_law_610 : decode cL_law 610 = .ok (.land, 1) := by decide +kernel
theorem dL_law_611 : decode cL_law 611 = .ok (.lor, 1) := by decide +kernel
theorem dL_law_612 : decode cL_law 612 = .ok (.aload_n 0, 1) := by decide +kernel
theorem dL_law_613 : decode cL_law 613 = .ok (.iload_n 3, 1) := by decide +kernel
theorem dL_law_614 : decode cL_law 614 = .ok (.iconst 4, 1) := by decide +kernel
theorem dL_law_615 : decode cL_law 615 = .ok (.iadd, 1) := by decide +kernel
theorem dL_law_616 : decode cL_law 616 = .ok (.iaload, 1) := by decide +kernel
theorem dL_law_617 : decode cL_law 617 = .ok (.invokevirtual 65, 3) := by decide +kernel
theorem dL_law_620 : decode cL_law 620 = .ok (.lcmp, 1) := by decide +kernel
theorem dL_law_621 : decode cL_law 621 = .ok (.ifCond .eq 793, 3) := by decide +kernel
theorem dL_law_624 : decode cL_law 624 = .ok (.iconst 0, 1) := by decide +kernel
theorem dL_law_625 : decode cL_law 625 = .ok (.ireturn, 1) := by decide +kernel
theorem dL_law_626 : decode cL_law 626 = .ok (.aload_n 1, 1) := by decide +kernel
theorem dL_law_627 : decode cL_law 627 = .ok (.aload_n 0, 1) := by decide +kernel
theorem dL_law_628 : decode cL_law 628 = .ok (.iload_n 3, 1) := by decide +kernel
theorem dL_law_629 : decode cL_law 629 = .ok (.iconst 1, 1) := by decide +kernel
theorem dL_law_630 : decode cL_law 630 = .ok (.iadd, 1) := by decide +kernel
theorem dL_law_631 : decode cL_law 631 = .ok (.iaload, 1) := by decide +kernel
theorem dL_law_632 : decode cL_law 632 = .ok (.aload_n 0, 1) := by decide +kernel
theorem dL_law_633 : decode cL_law 633 = .ok (.iload_n 3, 1) := by decide +kernel
theorem dL_law_634 : decode cL_law 634 = .ok (.iconst 2, 1) := by decide +kernel
theorem dL_law_635 : decode cL_law 635 = .ok (.iadd, 1) := by decide +kernel
theorem dL_law_636 : decode cL_law 636 = .ok (.iaload, 1) := by decide +kernel
theorem dL_law_637 : decode cL_law 637 = .ok (.aload_n 0, 1) := by decide +kernel
theorem dL_law_638 : decode cL_law 638 = .ok (.iload_n 3, 1) := by decide +kernel
theorem dL_law_639 : decode cL_law 639 = .ok (.iconst 3, 1) := by decide +kernel
theorem dL_law_640 : decode cL_law 640 = .ok (.iadd, 1) := by decide +kernel
theorem dL_law_641 : decode cL_law 641 = .ok (.iaload, 1) := by decide +kernel
theorem dL_law_642 : decode cL_law 642 = .ok (.aload_n 0, 1) := by decide +kernel
theorem dL_law_643 : decode cL_law 643 = .ok (.iload_n 3, 1) := by decide +kernel
theorem dL_law_644 : decode cL_law 644 = .ok (.iconst 4, 1) := by decide +kernel
theorem dL_law_645 : decode cL_law 645 = .ok (.iadd, 1) := by decide +kernel
theorem dL_law_646 : decode cL_law 646 = .ok (.iaload, 1) := by decide +kernel
theorem dL_law_647 : decode cL_law 647 = .ok (.i2l, 1) := by decide +kernel
theorem dL_law_648 : decode cL_law 648 = .ok (.bipush 32, 2) := by decide +kernel
theorem dL_law_650 : decode cL_law 650 = .ok (.lshl, 1) := by decide +kernel
theorem dL_law_651 : decode cL_law 651 = .ok (.aload_n 0, 1) := by decide +kernel
theorem dL_law_652 : decode cL_law 652 = .ok (.iload_n 3, 1) := by decide +kernel
theorem dL_law_653 : decode cL_law 653 = .ok (.iconst 5, 1) := by decide +kernel
theorem dL_law_654 : decode cL_law 654 = .ok (.iadd, 1) := by decide +kernel
theorem dL_law_655 : decode cL_law 655 = .ok (.iaload, 1) := by decide +kernel
theorem dL_law_656 : decode cL_law 656 = .ok (.i2l, 1) := by decide +kernel
theorem dL_law_657 : decode cL_law 657 = .ok (.ldc2_w 18, 3) := by decide +kernel
theorem dL_law_660 : decode cL_law 660 = .ok (.land, 1) := by decide +kernel
theorem dL_law_661 : decode cL_law 661 = .ok (.lor, 1) := by decide +kernel
theorem dL_law_662 : decode cL_law 662 = .ok (.invokevirtual 66, 3) := by decide +kernel
theorem dL_law_665 : decode cL_law 665 = .ok (.aload_n 2, 1) := by decide +kernel
theorem dL_law_666 : decode cL_law 666 = .ok (.aload_n 0, 1) := by decide +kernel
theorem dL_law_667 : decode cL_law 667 = .ok (.iload_n 3, 1) := by decide +kernel
theorem dL_law_668 : decode cL_law 668 = .ok (.iconst 1, 1) := by decide +kernel
theorem dL_law_669 : decode cL_law 669 = .ok (.iadd, 1) := by decide +kernel
theorem dL_law_670 : decode cL_law 670 = .ok (.iaload, 1) := by decide +kernel
theorem dL_law_671 : decode cL_law 671 = .ok (.aload_n 0, 1) := by decide +kernel
theorem dL_law_672 : decode cL_law 672 = .ok (.iload_n 3, 1) := by decide +kernel
theorem dL_law_673 : decode cL_law 673 = .ok (.iconst 2, 1) := by decide +kernel
theorem dL_law_674 : decode cL_law 674 = .ok (.iadd, 1) := by decide +kernel
theorem dL_law_675 : decode cL_law 675 = .ok (.iaload, 1) := by decide +kernel
theorem dL_law_676 : decode cL_law 676 = .ok (.aload_n 0, 1) := by decide +kernel
theorem dL_law_677 : decode cL_law 677 = .ok (.iload_n 3, 1) := by decide +kernel
theorem dL_law_678 : decode cL_law 678 = .ok (.iconst 3, 1) := by decide +kernel
theorem dL_law_679 : decode cL_law 679 = .ok (.iadd, 1) := by decide +kernel
theorem dL_law_680 : decode cL_law 680 = .ok (.iaload, 1) := by decide +kernel
theorem dL_law_681 : decode cL_law 681 = .ok (.aload_n 0, 1) := by decide +kernel
theorem dL_law_682 : decode cL_law 682 = .ok (.iload_n 3, 1) := by decide +kernel
theorem dL_law_683 : decode cL_law 683 = .ok (.iconst 4, 1) := by decide +kernel
theorem dL_law_684 : decode cL_law 684 = .ok (.iadd, 1) := by decide +kernel
theorem dL_law_685 : decode cL_law 685 = .ok (.iaload, 1) := by decide +kernel
theorem dL_law_686 : decode cL_law 686 = .ok (.i2l, 1) := by decide +kernel
theorem dL_law_687 : decode cL_law 687 = .ok (.bipush 32, 2) := by decide +kernel
theorem dL_law_689 : decode cL_law 689 = .ok (.lshl, 1) := by decide +kernel
theorem dL_law_690 : decode cL_law 690 = .ok (.aload_n 0, 1) := by decide +kernel
theorem dL_law_691 : decode cL_law 691 = .ok (.iload_n 3, 1) := by decide +kernel
theorem dL_law_692 : decode cL_law 692 = .ok (.iconst 5, 1) := by decide +kernel
theorem dL_law_693 : decode cL_law 693 = .ok (.iadd, 1) := by decide +kernel
theorem dL_law_694 : decode cL_law 694 = .ok (.iaload, 1) := by decide +kernel
theorem dL_law_695 : decode cL_law 695 = .ok (.i2l, 1) := by decide +kernel
theorem dL_law_696 : decode cL_law 696 = .ok (.ldc2_w 18, 3) := by decide +kernel
theorem dL_law_699 : decode cL_law 699 = .ok (.land, 1) := by decide +kernel
theorem dL_law_700 : decode cL_law 700 = .ok (.lor, 1) := by decide +kernel
theorem dL_law_701 : decode cL_law 701 = .ok (.invokevirtual 69, 3) := by decide +kernel
theorem dL_law_704 : decode cL_law 704 = .ok (.if_icmp .eq 710, 3) := by decide +kernel
theorem dL_law_707 : decode cL_law 707 = .ok (.iconst 0, 1) := by decide +kernel
theorem dL_law_708 : decode cL_law 708 = .ok (.ireturn, 1) := by decide +kernel
theorem dL_law_709 : decode cL_law 709 = .ok (.aload_n 1, 1) := by decide +kernel
theorem dL_law_710 : decode cL_law 710 = .ok (.aload_n 0, 1) := by decide +kernel
theorem dL_law_711 : decode cL_law 711 = .ok (.iload_n 3, 1) := by decide +kernel
theorem dL_law_712 : decode cL_law 712 = .ok (.iconst 1, 1) := by decide +kernel
theorem dL_law_713 : decode cL_law 713 = .ok (.iadd, 1) := by decide +kernel
theorem dL_law_714 : decode cL_law 714 = .ok (.iaload, 1) := by decide +kernel
theorem dL_law_715 : decode cL_law 715 = .ok (.aload_n 0, 1) := by decide +kernel
theorem dL_law_716 : decode cL_law 716 = .ok (.iload_n 3, 1) := by decide +kernel
theorem dL_law_717 : decode cL_law 717 = .ok (.iconst 2, 1) := by decide +kernel
theorem dL_law_718 : decode cL_law 718 = .ok (.iadd, 1) := by decide +kernel
theorem dL_law_719 : decode cL_law 719 = .ok (.iaload, 1) := by decide +kernel
theorem dL_law_720 : decode cL_law 720 = .ok (.aload_n 0, 1) := by decide +kernel
theorem dL_law_721 : decode cL_law 721 = .ok (.iload_n 3, 1) := by decide +kernel
theorem dL_law_722 : decode cL_law 722 = .ok (.iconst 3, 1) := by decide +kernel
theorem dL_law_723 : decode cL_law 723 = .ok (.iadd, 1) := by decide +kernel
theorem dL_law_724 : decode cL_law 724 = .ok (.iaload, 1) := by decide +kernel
theorem dL_law_725 : decode cL_law 725 = .ok (.aload_n 0, 1) := by decide +kernel
theorem dL_law_726 : decode cL_law 726 = .ok (.iload_n 3, 1) := by decide +kernel
theorem dL_law_727 : decode cL_law 727 = .ok (.iconst 4, 1) := by decide +kernel
theorem dL_law_728 : decode cL_law 728 = .ok (.iadd, 1) := by decide +kernel
theorem dL_law_729 : decode cL_law 729 = .ok (.iaload, 1) := by decide +kernel
theorem dL_law_730 : decode cL_law 730 = .ok (.i2l, 1) := by decide +kernel
theorem dL_law_731 : decode cL_law 731 = .ok (.bipush 32, 2) := by decide +kernel
theorem dL_law_733 : decode cL_law 733 = .ok (.lshl, 1) := by decide +kernel
theorem dL_law_734 : decode cL_law 734 = .ok (.aload_n 0, 1) := by decide +kernel
theorem dL_law_735 : decode cL_law 735 = .ok (.iload_n 3, 1) := by decide +kernel
theorem dL_law_736 : decode cL_law 736 = .ok (.iconst 5, 1) := by decide +kernel
theorem dL_law_737 : decode cL_law 737 = .ok (.iadd, 1) := by decide +kernel
theorem dL_law_738 : decode cL_law 738 = .ok (.iaload, 1) := by decide +kernel
theorem dL_law_739 : decode cL_law 739 = .ok (.i2l, 1) := by decide +kernel
theorem dL_law_740 : decode cL_law 740 = .ok (.ldc2_w 18, 3) := by decide +kernel
theorem dL_law_743 : decode cL_law 743 = .ok (.land, 1) := by decide +kernel
theorem dL_law_744 : decode cL_law 744 = .ok (.lor, 1) := by decide +kernel
theorem dL_law_745 : decode cL_law 745 = .ok (.aload_n 0, 1) := by decide +kernel
theorem dL_law_746 : decode cL_law 746 = .ok (.iload_n 3, 1) := by decide +kernel
theorem dL_law_747 : decode cL_law 747 = .ok (.bipush 6, 2) := by decide +kernel
theorem dL_law_749 : decode cL_law 749 = .ok (.iadd, 1) := by decide +kernel
theorem dL_law_750 : decode cL_law 750 = .ok (.iaload, 1) := by decide +kernel
theorem dL_law_751 : decode cL_law 751 = .ok (.i2l, 1) := by decide +kernel
theorem dL_law_752 : decode cL_law 752 = .ok (.bipush 32, 2) := by decide +kernel
theorem dL_law_754 : decode cL_law 754 = .ok (.lshl, 1) := by decide +kernel
theorem dL_law_755 : decode cL_law 755 = .ok (.aload_n 0, 1) := by decide +kernel
theorem dL_law_756 : decode cL_law 756 = .ok (.iload_n 3, 1) := by decide +kernel
theorem dL_law_757 : decode cL_law 757 = .ok (.bipush 7, 2) := by decide +kernel
theorem dL_law_759 : decode cL_law 759 = .ok (.iadd, 1) := by decide +kernel
theorem dL_law_760 : decode cL_law 760 = .ok (.iaload, 1) := by decide +kernel
theorem dL_law_761 : decode cL_law 761 = .ok (.i2l, 1) := by decide +kernel
theorem dL_law_762 : decode cL_law 762 = .ok (.ldc2_w 18, 3) := by decide +kernel
theorem dL_law_765 : decode cL_law 765 = .ok (.land, 1) := by decide +kernel
theorem dL_law_766 : decode cL_law 766 = .ok (.lor, 1) := by decide +kernel
theorem dL_law_767 : decode cL_law 767 = .ok (.invokevirtual 70, 3) := by decide +kernel
theorem dL_law_770 : decode cL_law 770 = .ok (.aload_n 2, 1) := by decide +kernel
theorem dL_law_771 : decode cL_law 771 = .ok (.aload_n 0, 1) := by decide +kernel
theorem dL_law_772 : decode cL_law 772 = .ok (.iload_n 3, 1) := by decide +kernel
theorem dL_law_773 : decode cL_law 773 = .ok (.iconst 1, 1) := by decide +kernel
theorem dL_law_774 : decode cL_law 774 = .ok (.iadd, 1) := by decide +kernel
theorem dL_law_775 : decode cL_law 775 = .ok (.iaload, 1) := by decide +kernel
theorem dL_law_776 : decode cL_law 776 = .ok (.aload_n 0, 1) := by decide +kernel
theorem dL_law_777 : decode cL_law 777 = .ok (.iload_n 3, 1) := by decide +kernel
theorem dL_law_778 : decode cL_law 778 = .ok (.iconst 2, 1) := by decide +kernel
theorem dL_law_779 : decode cL_law 779 = .ok (.iadd, 1) := by decide +kernel
theorem dL_law_780 : decode cL_law 780 = .ok (.iaload, 1) := by decide +kernel
theorem dL_law_781 : decode cL_law 781 = .ok (.aload_n 0, 1) := by decide +kernel
theorem dL_law_782 : decode cL_law 782 = .ok (.iload_n 3, 1) := by decide +kernel
theorem dL_law_783 : decode cL_law 783 = .ok (.iconst 3, 1) := by decide +kernel
theorem dL_law_784 : decode cL_law 784 = .ok (.iadd, 1) := by decide +kernel
theorem dL_law_785 : decode cL_law 785 = .ok (.iaload, 1) := by decide +kernel
theorem dL_law_786 : decode cL_law 786 = .ok (.aload_n 0, 1) := by decide +kernel
theorem dL_law_787 : decode cL_law 787 = .ok (.iload_n 3, 1) := by decide +kernel
theorem dL_law_788 : decode cL_law 788 = .ok (.iconst 4, 1) := by decide +kernel
theorem dL_law_789 : decode cL_law 789 = .ok (.iadd, 1) := by decide +kernel
theorem dL_law_790 : decode cL_law 790 = .ok (.iaload, 1) := by decide +kernel
theorem dL_law_791 : decode cL_law 791 = .ok (.i2l, 1) := by decide +kernel
theorem dL_law_792 : decode cL_law 792 = .ok (.bipush 32, 2) := by decide +kernel
theorem dL_law_794 : decode cL_law 794 = .ok (.lshl, 1) := by decide +kernel
theorem dL_law_795 : decode cL_law 795 = .ok (.aload_n 0, 1) := by decide +kernel
theorem dL_law_796 : decode cL_law 796 = .ok (.iload_n 3, 1) := by decide +kernel
theorem dL_law_797 : decode cL_law 797 = .ok (.iconst 5, 1) := by decide +kernel
theorem dL_law_798 : decode cL_law 798 = .ok (.iadd, 1) := by decide +kernel
theorem dL_law_799 : decode cL_law 799 = .ok (.iaload, 1) := by decide +kernel
theorem dL_law_800 : decode cL_law 800 = .ok (.i2l, 1) := by decide +kernel
theorem dL_law_801 : decode cL_law 801 = .ok (.ldc2_w 18, 3) := by decide +kernel
theorem dL_law_804 : decode cL_law 804 = .ok (.land, 1) := by decide +kernel
theorem dL_law_805 : decode cL_law 805 = .ok (.lor, 1) := by decide +kernel
theorem dL_law_806 : decode cL_law 806 = .ok (.aload_n 0, 1) := by decide +kernel
theorem dL_law_807 : decode cL_law 807 = .ok (.iload_n 3, 1) := by decide +kernel
theorem dL_law_808 : decode cL_law 808 = .ok (.bipush 6, 2) := by decide +kernel
theorem dL_law_810 : decode cL_law 810 = .ok (.iadd, 1) := by decide +kernel
theorem dL_law_811 : decode cL_law 811 = .ok (.iaload, 1) := by decide +kernel
theorem dL_law_812 : decode cL_law 812 = .ok (.i2l, 1) := by decide +kernel
theorem dL_law_813 : decode cL_law 813 = .ok (.bipush 32, 2) := by decide +kernel
theorem dL_law_815 : decode cL_law 815 = .ok (.lshl, 1) := by decide +kernel
theorem dL_law_816 : decode cL_law 816 = .ok (.aload_n 0, 1) := by decide +kernel
theorem dL_law_817 : decode cL_law 817 = .ok (.iload_n 3, 1) := by decide +kernel
theorem dL_law_818 : decode cL_law 818 = .ok (.bipush 7, 2) := by decide +kernel
theorem dL_law_820 : decode cL_law 820 = .ok (.iadd, 1) := by decide +kernel
theorem dL_law_821 : decode cL_law 821 = .ok (.iaload, 1) := by decide +kernel
theorem dL_law_822 : decode cL_law 822 = .ok (.i2l, 1) := by decide +kernel
theorem dL_law_823 : decode cL_law 823 = .ok (.ldc2_w 18, 3) := by decide +kernel
theorem dL_law_826 : decode cL_law 826 = .ok (.land, 1) := by decide +kernel
theorem dL_law_827 : decode cL_law 827 = .ok (.lor, 1) := by decide +kernel
theorem dL_law_828 : decode cL_law 828 = .ok (.invokevirtual 74, 3) := by decide +kernel
theorem dL_law_831 : decode cL_law 831 = .ok (.lcmp, 1) := by decide +kernel
theorem dL_law_832 : decode cL_law 832 = .ok (.ifCond .eq 582, 3) := by decide +kernel
theorem dL_law_835 : decode cL_law 835 = .ok (.iconst 0, 1) := by decide +kernel
theorem dL_law_836 : decode cL_law 836 = .ok (.ireturn, 1) := by decide +kernel
theorem dL_law_837 : decode cL_law 837 = .ok (.aload_n 1, 1) := by decide +kernel
theorem dL_law_838 : decode cL_law 838 = .ok (.aload_n 0, 1) := by decide +kernel
theorem dL_law_839 : decode cL_law 839 = .ok (.iload_n 3, 1) := by decide +kernel
theorem dL_law_840 : decode cL_law 840 = .ok (.iconst 1, 1) := by decide +kernel
theorem dL_law_841 : decode cL_law 841 = .ok (.iadd, 1) := by decide +kernel
theorem dL_law_842 : decode cL_law 842 = .ok (.iaload, 1) := by decide +kernel
theorem dL_law_843 : decode cL_law 843 = .ok (.aload_n 0, 1) := by decide +kernel
theorem dL_law_844 : decode cL_law 844 = .ok (.iload_n 3, 1) := by decide +kernel
theorem dL_law_845 : decode cL_law 845 = .ok (.iconst 2, 1) := by decide +kernel
theorem dL_law_846 : decode cL_law 846 = .ok (.iadd, 1) := by decide +kernel
theorem dL_law_847 : decode cL_law 847 = .ok (.iaload, 1) := by decide +kernel
theorem dL_law_848 : decode cL_law 848 = .ok (.i2l, 1) := by decide +kernel
theorem dL_law_849 : decode cL_law 849 = .ok (.bipush 32, 2) := by decide +kernel
theorem dL_law_851 : decode cL_law 851 = .ok (.lshl, 1) := by decide +kernel
theorem dL_law_852 : decode cL_law 852 = .ok (.aload_n 0, 1) := by decide +kernel
theorem dL_law_853 : decode cL_law 853 = .ok (.iload_n 3, 1) := by decide +kernel
theorem dL_law_854 : decode cL_law 854 = .ok (.iconst 3, 1) := by decide +kernel
theorem dL_law_855 : decode cL_law 855 = .ok (.iadd, 1) := by decide +kernel
theorem dL_law_856 : decode cL_law 856 = .ok (.iaload, 1) := by decide +kernel
theorem dL_law_857 : decode cL_law 857 = .ok (.i2l, 1) := by decide +kernel
theorem dL_law_858 : decode cL_law 858 = .ok (.ldc2_w 18, 3) := by decide +kernel
theorem dL_law_861 : decode cL_law 861 = .ok (.land, 1) := by decide +kernel
theorem dL_law_862 : decode cL_law 862 = .ok (.lor, 1) := by decide +kernel
theorem dL_law_863 : decode cL_law 863 = .ok (.aload_n 0, 1) := by decide +kernel
theorem dL_law_864 : decode cL_law 864 = .ok (.iload_n 3, 1) := by decide +kernel
theorem dL_law_865 : decode cL_law 865 = .ok (.iconst 4, 1) := by decide +kernel
theorem dL_law_866 : decode cL_law 866 = .ok (.iadd, 1) := by decide +kernel
theorem dL_law_867 : decode cL_law 867 = .ok (.iaload, 1) := by decide +kernel
theorem dL_law_868 : decode cL_law 868 = .ok (.invokevirtual 75, 3) := by decide +kernel
theorem dL_law_871 : decode cL_law 871 = .ok (.aload_n 2, 1) := by decide +kernel
theorem dL_law_872 : decode cL_law 872 = .ok (.aload_n 0, 1) := by decide +kernel
theorem dL_law_873 : decode cL_law 873 = .ok (.iload_n 3, 1) := by decide +kernel
theorem dL_law_874 : decode cL_law 874 = .ok (.iconst 1, 1) := by decide +kernel
theorem dL_law_875 : decode cL_law 875 = .ok (.iadd, 1) := by decide +kernel
theorem dL_law_876 : decode cL_law 876 = .ok (.iaload, 1) := by decide +kernel
theorem dL_law_877 : decode cL_law 877 = .ok (.aload_n 0, 1) := by decide +kernel
theorem dL_law_878 : decode cL_law 878 = .ok (.iload_n 3, 1) := by decide +kernel
theorem dL_law_879 : decode cL_law 879 = .ok (.iconst 2, 1) := by decide +kernel
theorem dL_law_880 : decode cL_law 880 = .ok (.iadd, 1) := by decide +kernel
theorem dL_law_881 : decode cL_law 881 = .ok (.iaload, 1) := by decide +kernel
theorem dL_law_882 : decode cL_law 882 = .ok (.i2l, 1) := by decide +kernel
theorem dL_law_883 : decode cL_law 883 = .ok (.bipush 32, 2) := by decide +kernel
theorem dL_law_885 : decode cL_law 885 = .ok (.lshl, 1) := by decide +kernel
theorem dL_law_886 : decode cL_law 886 = .ok (.aload_n 0, 1) := by decide +kernel
theorem dL_law_887 : decode cL_law 887 = .ok (.iload_n 3, 1) := by decide +kernel
theorem dL_law_888 : decode cL_law 888 = .ok (.iconst 3, 1) := by decide +kernel
theorem dL_law_889 : decode cL_law 889 = .ok (.iadd, 1) := by decide +kernel
theorem dL_law_890 : decode cL_law 890 = .ok (.iaload, 1) := by decide +kernel
theorem dL_law_891 : decode cL_law 891 = .ok (.i2l, 1) := by decide +kernel
theorem dL_law_892 : decode cL_law 892 = .ok (.ldc2_w 18, 3) := by decide +kernel
theorem dL_law_895 : decode cL_law 895 = .ok (.land, 1) := by decide +kernel
theorem dL_law_896 : decode cL_law 896 = .ok (.lor, 1) := by decide +kernel
theorem dL_law_897 : decode cL_law 897 = .ok (.aload_n 0, 1) := by decide +kernel
theorem dL_law_898 : decode cL_law 898 = .ok (.iload_n 3, 1) := by decide +kernel
theorem dL_law_899 : decode cL_law 899 = .ok (.iconst 4, 1) := by decide +kernel
theorem dL_law_900 : decode cL_law 900 = .ok (.iadd, 1) := by decide +kernel
theorem dL_law_901 : decode cL_law 901 = .ok (.iaload, 1) := by decide +kernel
theorem dL_law_902 : decode cL_law 902 = .ok (.invokevirtual 78, 3) := by decide +kernel
theorem dL_law_905 : decode cL_law 905 = .ok (.lcmp, 1) := by decide +kernel
theorem dL_law_906 : decode cL_law 906 = .ok (.ifCond .eq 508, 3) := by decide +kernel
theorem dL_law_909 : decode cL_law 909 = .ok (.iconst 0, 1) := by decide +kernel
theorem dL_law_910 : decode cL_law 910 = .ok (.ireturn, 1) := by decide +kernel
theorem dL_law_911 : decode cL_law 911 = .ok (.aload_n 1, 1) := by decide +kernel
theorem dL_law_912 : decode cL_law 912 = .ok (.aload_n 0, 1) := by decide +kernel
theorem dL_law_913 : decode cL_law 913 = .ok (.iload_n 3, 1) := by decide +kernel
theorem dL_law_914 : decode cL_law 914 = .ok (.iconst 1, 1) := by decide +kernel
theorem dL_law_915 : decode cL_law 915 = .ok (.iadd, 1) := by decide +kernel
theorem dL_law_916 : decode cL_law 916 = .ok (.iaload, 1) := by decide +kernel
theorem dL_law_917 : decode cL_law 917 = .ok (.aload_n 0, 1) := by decide +kernel
theorem dL_law_918 : decode cL_law 918 = .ok (.iload_n 3, 1) := by decide +kernel
theorem dL_law_919 : decode cL_law 919 = .ok (.iconst 2, 1) := by decide +kernel
theorem dL_law_920 : decode cL_law 920 = .ok (.iadd, 1) := by decide +kernel
theorem dL_law_921 : decode cL_law 921 = .ok (.iaload, 1) := by decide +kernel
theorem dL_law_922 : decode cL_law 922 = .ok (.i2l, 1) := by decide +kernel
theorem dL_law_923 : decode cL_law 923 = .ok (.bipush 32, 2) := by decide +kernel
theorem dL_law_925 : decode cL_law 925 = .ok (.lshl, 1) := by decide +kernel
theorem dL_law_926 : decode cL_law 926 = .ok (.aload_n 0, 1) := by decide +kernel
theorem dL_law_927 : decode cL_law 927 = .ok (.iload_n 3, 1) := by decide +kernel
theorem dL_law_928 : decode cL_law 928 = .ok (.iconst 3, 1) := by decide +kernel
theorem dL_law_929 : decode cL_law 929 = .ok (.iadd, 1) := by decide +kernel
theorem dL_law_930 : decode cL_law 930 = .ok (.iaload, 1) := by decide +kernel
theorem dL_law_931 : decode cL_law 931 = .ok (.i2l, 1) := by decide +kernel
theorem dL_law_932 : decode cL_law 932 = .ok (.ldc2_w 18, 3) := by decide +kernel
theorem dL_law_935 : decode cL_law 935 = .ok (.land, 1) := by decide +kernel
theorem dL_law_936 : decode cL_law 936 = .ok (.lor, 1) := by decide +kernel
theorem dL_law_937 : decode cL_law 937 = .ok (.aload_n 0, 1) := by decide +kernel
theorem dL_law_938 : decode cL_law 938 = .ok (.iload_n 3, 1) := by decide +kernel
theorem dL_law_939 : decode cL_law 939 = .ok (.iconst 4, 1) := by decide +kernel
theorem dL_law_940 : decode cL_law 940 = .ok (.iadd, 1) := by decide +kernel
theorem dL_law_941 : decode cL_law 941 = .ok (.iaload, 1) := by decide +kernel
theorem dL_law_942 : decode cL_law 942 = .ok (.aload_n 0, 1) := by decide +kernel
theorem dL_law_943 : decode cL_law 943 = .ok (.iload_n 3, 1) := by decide +kernel
theorem dL_law_944 : decode cL_law 944 = .ok (.iconst 5, 1) := by decide +kernel
theorem dL_law_945 : decode cL_law 945 = .ok (.iadd, 1) := by decide +kernel
theorem dL_law_946 : decode cL_law 946 = .ok (.iaload, 1) := by decide +kernel
theorem dL_law_947 : decode cL_law 947 = .ok (.i2l, 1) := by decide +kernel
theorem dL_law_948 : decode cL_law 948 = .ok (.bipush 32, 2) := by decide +kernel
theorem dL_law_950 : decode cL_law 950 = .ok (.lshl, 1) := by decide +kernel
theorem dL_law_951 : decode cL_law 951 = .ok (.aload_n 0, 1) := by decide +kernel
theorem dL_law_952 : decode cL_law 952 = .ok (.iload_n 3, 1) := by decide +kernel
theorem dL_law_953 : decode cL_law 953 = .ok (.bipush 6, 2) := by decide +kernel
theorem dL_law_955 : decode cL_law 955 = .ok (.iadd, 1) := by decide +kernel
theorem dL_law_956 : decode cL_law 956 = .ok (.iaload, 1) := by decide +kernel
theorem dL_law_957 : decode cL_law 957 = .ok (.i2l, 1) := by decide +kernel
theorem dL_law_958 : decode cL_law 958 = .ok (.ldc2_w 18, 3) := by decide +kernel
theorem dL_law_961 : decode cL_law 961 = .ok (.land, 1) := by decide +kernel
theorem dL_law_962 : decode cL_law 962 = .ok (.lor, 1) := by decide +kernel
theorem dL_law_963 : decode cL_law 963 = .ok (.aload_n 0, 1) := by decide +kernel
theorem dL_law_964 : decode cL_law 964 = .ok (.iload_n 3, 1) := by decide +kernel
theorem dL_law_965 : decode cL_law 965 = .ok (.bipush 7, 2) := by decide +kernel
theorem dL_law_967 : decode cL_law 967 = .ok (.iadd, 1) := by decide +kernel
theorem dL_law_968 : decode cL_law 968 = .ok (.iaload, 1) := by decide +kernel
theorem dL_law_969 : decode cL_law 969 = .ok (.invokevirtual 79, 3) := by decide +kernel
theorem dL_law_972 : decode cL_law 972 = .ok (.aload_n 2, 1) := by decide +kernel
theorem dL_law_973 : decode cL_law 973 = .ok (.aload_n 0, 1) := by decide +kernel
theorem dL_law_974 : decode cL_law 974 = .ok (.iload_n 3, 1) := by decide +kernel
theorem dL_law_975 : decode cL_law 975 = .ok (.iconst 1, 1) := by decide +kernel
theorem dL_law_976 : decode cL_law 976 = .ok (.iadd, 1) := by decide +kernel
theorem dL_law_977 : decode cL_law 977 = .ok (.iaload, 1) := by decide +kernel
theorem dL_law_978 : decode cL_law 978 = .ok (.aload_n 0, 1) := by decide +kernel
theorem dL_law_979 : decode cL_law 979 = .ok (.iload_n 3, 1) := by decide +kernel
theorem dL_law_980 : decode cL_law 980 = .ok (.iconst 2, 1) := by decide +kernel
theorem dL_law_981 : decode cL_law 981 = .ok (.iadd, 1) := by decide +kernel
theorem dL_law_982 : decode cL_law 982 = .ok (.iaload, 1) := by decide +kernel
theorem dL_law_983 : decode cL_law 983 = .ok (.i2l, 1) := by decide +kernel
theorem dL_law_984 : decode cL_law 984 = .ok (.bipush 32, 2) := by decide +kernel
theorem dL_law_986 : decode cL_law 986 = .ok (.lshl, 1) := by decide +kernel
theorem dL_law_987 : decode cL_law 987 = .ok (.aload_n 0, 1) := by decide +kernel
theorem dL_law_988 : decode cL_law 988 = .ok (.iload_n 3, 1) := by decide +kernel
theorem dL_law_989 : decode cL_law 989 = .ok (.iconst 3, 1) := by decide +kernel
theorem dL_law_990 : decode cL_law 990 = .ok (.iadd, 1) := by decide +kernel
theorem dL_law_991 : decode cL_law 991 = .ok (.iaload, 1) := by decide +kernel
theorem dL_law_992 : decode cL_law 992 = .ok (.i2l, 1) := by decide +kernel
theorem dL_law_993 : decode cL_law 993 = .ok (.ldc2_w 18, 3) := by decide +kernel
theorem dL_law_996 : decode cL_law 996 = .ok (.land, 1) := by decide +kernel
theorem dL_law_997 : decode cL_law 997 = .ok (.lor, 1) := by decide +kernel
theorem dL_law_998 : decode cL_law 998 = .ok (.aload_n 0, 1) := by decide +kernel
theorem dL_law_999 : decode cL_law 999 = .ok (.iload_n 3, 1) := by decide +kernel
theorem dL_law_1000 : decode cL_law 1000 = .ok (.iconst 4, 1) := by decide +kernel
theorem dL_law_1001 : decode cL_law 1001 = .ok (.iadd, 1) := by decide +kernel
theorem dL_law_1002 : decode cL_law 1002 = .ok (.iaload, 1) := by decide +kernel
theorem dL_law_1003 : decode cL_law 1003 = .ok (.aload_n 0, 1) := by decide +kernel
theorem dL_law_1004 : decode cL_law 1004 = .ok (.iload_n 3, 1) := by decide +kernel
theorem dL_law_1005 : decode cL_law 1005 = .ok (.iconst 5, 1) := by decide +kernel
theorem dL_law_1006 : decode cL_law 1006 = .ok (.iadd, 1) := by decide +kernel
theorem dL_law_1007 : decode cL_law 1007 = .ok (.iaload, 1) := by decide +kernel
theorem dL_law_1008 : decode cL_law 1008 = .ok (.i2l, 1) := by decide +kernel
theorem dL_law_1009 : decode cL_law 1009 = .ok (.bipush 32, 2) := by decide +kernel
theorem dL_law_1011 : decode cL_law 1011 = .ok (.lshl, 1) := by decide +kernel
theorem dL_law_1012 : decode cL_law 1012 = .ok (.aload_n 0, 1) := by decide +kernel
theorem dL_law_1013 : decode cL_law 1013 = .ok (.iload_n 3, 1) := by decide +kernel
theorem dL_law_1014 : decode cL_law 1014 = .ok (.bipush 6, 2) := by decide +kernel
theorem dL_law_1016 : decode cL_law 1016 = .ok (.iadd, 1) := by decide +kernel
theorem dL_law_1017 : decode cL_law 1017 = .ok (.iaload, 1) := by decide +kernel
theorem dL_law_1018 : decode cL_law 1018 = .ok (.i2l, 1) := by decide +kernel
theorem dL_law_1019 : decode cL_law 1019 = .ok (.ldc2_w 18, 3) := by decide +kernel
theorem dL_law_1022 : decode cL_law 1022 = .ok (.land, 1) := by decide +kernel
theorem dL_law_1023 : decode cL_law 1023 = .ok (.lor, 1) := by decide +kernel
theorem dL_law_1024 : decode cL_law 1024 = .ok (.aload_n 0, 1) := by decide +kernel
theorem dL_law_1025 : decode cL_law 1025 = .ok (.iload_n 3, 1) := by decide +kernel
theorem dL_law_1026 : decode cL_law 1026 = .ok (.bipush 7, 2) := by decide +kernel
theorem dL_law_1028 : decode cL_law 1028 = .ok (.iadd, 1) := by decide +kernel
theorem dL_law_1029 : decode cL_law 1029 = .ok (.iaload, 1) := by decide +kernel
theorem dL_law_1030 : decode cL_law 1030 = .ok (.invokevirtual 83, 3) := by decide +kernel
theorem dL_law_1033 : decode cL_law 1033 = .ok (.if_icmp .eq 381, 3) := by decide +kernel
theorem dL_law_1036 : decode cL_law 1036 = .ok (.iconst 0, 1) := by decide +kernel
theorem dL_law_1037 : decode cL_law 1037 = .ok (.ireturn, 1) := by decide +kernel
theorem dL_law_1038 : decode cL_law 1038 = .ok (.aload_n 1, 1) := by decide +kernel
theorem dL_law_1039 : decode cL_law 1039 = .ok (.aload_n 0, 1) := by decide +kernel
theorem dL_law_1040 : decode cL_law 1040 = .ok (.iload_n 3, 1) := by decide +kernel
theorem dL_law_1041 : decode cL_law 1041 = .ok (.iconst 1, 1) := by decide +kernel
theorem dL_law_1042 : decode cL_law 1042 = .ok (.iadd, 1) := by decide +kernel
theorem dL_law_1043 : decode cL_law 1043 = .ok (.iaload, 1) := by decide +kernel
theorem dL_law_1044 : decode cL_law 1044 = .ok (.aload_n 0, 1) := by decide +kernel
theorem dL_law_1045 : decode cL_law 1045 = .ok (.iload_n 3, 1) := by decide +kernel
theorem dL_law_1046 : decode cL_law 1046 = .ok (.iconst 2, 1) := by decide +kernel
theorem dL_law_1047 : decode cL_law 1047 = .ok (.iadd, 1) := by decide +kernel
theorem dL_law_1048 : decode cL_law 1048 = .ok (.iaload, 1) := by decide +kernel
theorem dL_law_1049 : decode cL_law 1049 = .ok (.i2l, 1) := by decide +kernel
theorem dL_law_1050 : decode cL_law 1050 = .ok (.bipush 32, 2) := by decide +kernel
theorem dL_law_1052 : decode cL_law 1052 = .ok (.lshl, 1) := by decide +kernel
theorem dL_law_1053 : decode cL_law 1053 = .ok (.aload_n 0, 1) := by decide +kernel
theorem dL_law_1054 : decode cL_law 1054 = .ok (.iload_n 3, 1) := by decide +kernel
theorem dL_law_1055 : decode cL_law 1055 = .ok (.iconst 3, 1) := by decide +kernel
theorem dL_law_1056 : decode cL_law 1056 = .ok (.iadd, 1) := by decide +kernel
theorem dL_law_1057 : decode cL_law 1057 = .ok (.iaload, 1) := by decide +kernel
theorem dL_law_1058 : decode cL_law 1058 = .ok (.i2l, 1) := by decide +kernel
theorem dL_law_1059 : decode cL_law 1059 = .ok (.ldc2_w 18, 3) := by decide +kernel
theorem dL_law_1062 : decode cL_law 1062 = .ok (.land, 1) := by decide +kernel
theorem dL_law_1063 : decode cL_law 1063 = .ok (.lor, 1) := by decide +kernel
theorem dL_law_1064 : decode cL_law 1064 = .ok (.invokevirtual 84, 3) := by decide +kernel
theorem dL_law_1067 : decode cL_law 1067 = .ok (.aload_n 2, 1) := by decide +kernel
theorem dL_law_1068 : decode cL_law 1068 = .ok (.aload_n 0, 1) := by decide +kernel
theorem dL_law_1069 : decode cL_law 1069 = .ok (.iload_n 3, 1) := by decide +kernel
theorem dL_law_1070 : decode cL_law 1070 = .ok (.iconst 1, 1) := by decide +kernel
theorem dL_law_1071 : decode cL_law 1071 = .ok (.iadd, 1) := by decide +kernel
theorem dL_law_1072 : decode cL_law 1072 = .ok (.iaload, 1) := by decide +kernel
theorem dL_law_1073 : decode cL_law 1073 = .ok (.aload_n 0, 1) := by decide +kernel
theorem dL_law_1074 : decode cL_law 1074 = .ok (.iload_n 3, 1) := by decide +kernel
theorem dL_law_1075 : decode cL_law 1075 = .ok (.iconst 2, 1) := by decide +kernel
theorem dL_law_1076 : decode cL_law 1076 = .ok (.iadd, 1) := by decide +kernel
theorem dL_law_1077 : decode cL_law 1077 = .ok (.iaload, 1) := by decide +kernel
theorem dL_law_1078 : decode cL_law 1078 = .ok (.i2l, 1) := by decide +kernel
theorem dL_law_1079 : decode cL_law 1079 = .ok (.bipush 32, 2) := by decide +kernel
theorem dL_law_1081 : decode cL_law 1081 = .ok (.lshl, 1) := by decide +kernel
theorem dL_law_1082 : decode cL_law 1082 = .ok (.aload_n 0, 1) := by decide +kernel
theorem dL_law_1083 : decode cL_law 1083 = .ok (.iload_n 3, 1) := by decide +kernel
theorem dL_law_1084 : decode cL_law 1084 = .ok (.iconst 3, 1) := by decide +kernel
theorem dL_law_1085 : decode cL_law 1085 = .ok (.iadd, 1) := by decide +kernel
theorem dL_law_1086 : decode cL_law 1086 = .ok (.iaload, 1) := by decide +kernel
theorem dL_law_1087 : decode cL_law 1087 = .ok (.i2l, 1) := by decide +kernel
theorem dL_law_1088 : decode cL_law 1088 = .ok (.ldc2_w 18, 3) := by decide +kernel
theorem dL_law_1091 : decode cL_law 1091 = .ok (.land, 1) := by decide +kernel
theorem dL_law_1092 : decode cL_law 1092 = .ok (.lor, 1) := by decide +kernel
theorem dL_law_1093 : decode cL_law 1093 = .ok (.invokevirtual 87, 3) := by decide +kernel
theorem dL_law_1096 : decode cL_law 1096 = .ok (.lcmp, 1) := by decide +kernel
theorem dL_law_1097 : decode cL_law 1097 = .ok (.ifCond .eq 317, 3) := by decide +kernel
theorem dL_law_1100 : decode cL_law 1100 = .ok (.iconst 0, 1) := by decide +kernel
theorem dL_law_1101 : decode cL_law 1101 = .ok (.ireturn, 1) := by decide +kernel
theorem dL_law_1102 : decode cL_law 1102 = .ok (.aload_n 1, 1) := by decide +kernel
theorem dL_law_1103 : decode cL_law 1103 = .ok (.aload_n 0, 1) := by decide +kernel
theorem dL_law_1104 : decode cL_law 1104 = .ok (.iload_n 3, 1) := by decide +kernel
theorem dL_law_1105 : decode cL_law 1105 = .ok (.iconst 1, 1) := by decide +kernel
theorem dL_law_1106 : decode cL_law 1106 = .ok (.iadd, 1) := by decide +kernel
theorem dL_law_1107 : decode cL_law 1107 = .ok (.iaload, 1) := by decide +kernel
theorem dL_law_1108 : decode cL_law 1108 = .ok (.aload_n 0, 1) := by decide +kernel
theorem dL_law_1109 : decode cL_law 1109 = .ok (.iload_n 3, 1) := by decide +kernel
theorem dL_law_1110 : decode cL_law 1110 = .ok (.iconst 2, 1) := by decide +kernel
theorem dL_law_1111 : decode cL_law 1111 = .ok (.iadd, 1) := by decide +kernel
theorem dL_law_1112 : decode cL_law 1112 = .ok (.iaload, 1) := by decide +kernel
theorem dL_law_1113 : decode cL_law 1113 = .ok (.i2l, 1) := by decide +kernel
theorem dL_law_1114 : decode cL_law 1114 = .ok (.bipush 32, 2) := by decide +kernel
theorem dL_law_1116 : decode cL_law 1116 = .ok (.lshl, 1) := by decide +kernel
theorem dL_law_1117 : decode cL_law 1117 = .ok (.aload_n 0, 1) := by decide +kernel
theorem dL_law_1118 : decode cL_law 1118 = .ok (.iload_n 3, 1) := by decide +kernel
theorem dL_law_1119 : decode cL_law 1119 = .ok (.iconst 3, 1) := by decide +kernel
theorem dL_law_1120 : decode cL_law 1120 = .ok (.iadd, 1) := by decide +kernel
theorem dL_law_1121 : decode cL_law 1121 = .ok (.iaload, 1) := by decide +kernel
theorem dL_law_1122 : decode cL_law 1122 = .ok (.i2l, 1) := by decide +kernel
theorem dL_law_1123 : decode cL_law 1123 = .ok (.ldc2_w 18, 3) := by decide +kernel
theorem dL_law_1126 : decode cL_law 1126 = .ok (.land, 1) := by decide +kernel
theorem dL_law_1127 : decode cL_law 1127 = .ok (.lor, 1) := by decide +kernel
theorem dL_law_1128 : decode cL_law 1128 = .ok (.invokevirtual 88, 3) := by decide +kernel
theorem dL_law_1131 : decode cL_law 1131 = .ok (.aload_n 2, 1) := by decide +kernel
theorem dL_law_1132 : decode cL_law 1132 = .ok (.aload_n 0, 1) := by decide +kernel
theorem dL_law_1133 : decode cL_law 1133 = .ok (.iload_n 3, 1) := by decide +kernel
theorem dL_law_1134 : decode cL_law 1134 = .ok (.iconst 1, 1) := by decide +kernel
theorem dL_law_1135 : decode cL_law 1135 = .ok (.iadd, 1) := by decide +kernel
theorem dL_law_1136 : decode cL_law 1136 = .ok (.iaload, 1) := by decide +kernel
theorem dL_law_1137 : decode cL_law 1137 = .ok (.aload_n 0, 1) := by decide +kernel
theorem dL_law_1138 : decode cL_law 1138 = .ok (.iload_n 3, 1) := by decide +kernel
theorem dL_law_1139 : decode cL_law 1139 = .ok (.iconst 2, 1) := by decide +kernel
theorem dL_law_1140 : decode cL_law 1140 = .ok (.iadd, 1) := by decide +kernel
theorem dL_law_1141 : decode cL_law 1141 = .ok (.iaload, 1) := by decide +kernel
theorem dL_law_1142 : decode cL_law 1142 = .ok (.i2l, 1) := by decide +kernel
theorem dL_law_1143 : decode cL_law 1143 = .ok (.bipush 32, 2) := by decide +kernel
theorem dL_law_1145 : decode cL_law 1145 = .ok (.lshl, 1) := by decide +kernel
theorem dL_law_1146 : decode cL_law 1146 = .ok (.aload_n 0, 1) := by decide +kernel
theorem dL_law_1147 : decode cL_law 1147 = .ok (.iload_n 3, 1) := by decide +kernel
theorem dL_law_1148 : decode cL_law 1148 = .ok (.iconst 3, 1) := by decide +kernel
theorem dL_law_1149 : decode cL_law 1149 = .ok (.iadd, 1) := by decide +kernel
theorem dL_law_1150 : decode cL_law 1150 = .ok (.iaload, 1) := by decide +kernel
theorem dL_law_1151 : decode cL_law 1151 = .ok (.i2l, 1) := by decide +kernel
theorem dL_law_1152 : decode cL_law 1152 = .ok (.ldc2_w 18, 3) := by decide +kernel
theorem dL_law_1155 : decode cL_law 1155 = .ok (.land, 1) := by decide +kernel
theorem dL_law_1156 : decode cL_law 1156 = .ok (.lor, 1) := by decide +kernel
theorem dL_law_1157 : decode cL_law 1157 = .ok (.invokevirtual 91, 3) := by decide +kernel
theorem dL_law_1160 : decode cL_law 1160 = .ok (.lcmp, 1) := by decide +kernel
theorem dL_law_1161 : decode cL_law 1161 = .ok (.ifCond .eq 253, 3) := by decide +kernel
theorem dL_law_1164 : decode cL_law 1164 = .ok (.iconst 0, 1) := by decide +kernel
theorem dL_law_1165 : decode cL_law 1165 = .ok (.ireturn, 1) := by decide +kernel
theorem dL_law_1166 : decode cL_law 1166 = .ok (.aload_n 1, 1) := by decide +kernel
theorem dL_law_1167 : decode cL_law 1167 = .ok (.aload_n 0, 1) := by decide +kernel
theorem dL_law_1168 : decode cL_law 1168 = .ok (.iload_n 3, 1) := by decide +kernel
theorem dL_law_1169 : decode cL_law 1169 = .ok (.iconst 1, 1) := by decide +kernel
theorem dL_law_1170 : decode cL_law 1170 = .ok (.iadd, 1) := by decide +kernel
theorem dL_law_1171 : decode cL_law 1171 = .ok (.iaload, 1) := by decide +kernel
theorem dL_law_1172 : decode cL_law 1172 = .ok (.aload_n 0, 1) := by decide +kernel
theorem dL_law_1173 : decode cL_law 1173 = .ok (.iload_n 3, 1) := by decide +kernel
theorem dL_law_1174 : decode cL_law 1174 = .ok (.iconst 2, 1) := by decide +kernel
theorem dL_law_1175 : decode cL_law 1175 = .ok (.iadd, 1) := by decide +kernel
theorem dL_law_1176 : decode cL_law 1176 = .ok (.iaload, 1) := by decide +kernel
theorem dL_law_1177 : decode cL_law 1177 = .ok (.aload_n 0, 1) := by decide +kernel
theorem dL_law_1178 : decode cL_law 1178 = .ok (.iload_n 3, 1) := by decide +kernel
theorem dL_law_1179 : decode cL_law 1179 = .ok (.iconst 3, 1) := by decide +kernel
theorem dL_law_1180 : decode cL_law 1180 = .ok (.iadd, 1) := by decide +kernel
theorem dL_law_1181 : decode cL_law 1181 = .ok (.iaload, 1) := by decide +kernel
theorem dL_law_1182 : decode cL_law 1182 = .ok (.i2l, 1) := by decide +kernel
theorem dL_law_1183 : decode cL_law 1183 = .ok (.bipush 32, 2) := by decide +kernel
theorem dL_law_1185 : decode cL_law 1185 = .ok (.lshl, 1) := by decide +kernel
theorem dL_law_1186 : decode cL_law 1186 = .ok (.aload_n 0, 1) := by decide +kernel
theorem dL_law_1187 : decode cL_law 1187 = .ok (.iload_n 3, 1) := by decide +kernel
theorem dL_law_1188 : decode cL_law 1188 = .ok (.iconst 4, 1) := by decide +kernel
theorem dL_law_1189 : decode cL_law 1189 = .ok (.iadd, 1) := by decide +kernel
theorem dL_law_1190 : decode cL_law 1190 = .ok (.iaload, 1) := by decide +kernel
theorem dL_law_1191 : decode cL_law 1191 = .ok (.i2l, 1) := by decide +kernel
theorem dL_law_1192 : decode cL_law 1192 = .ok (.ldc2_w 18, 3) := by decide +kernel
theorem dL_law_1195 : decode cL_law 1195 = .ok (.land, 1) := by decide +kernel
theorem dL_law_1196 : decode cL_law 1196 = .ok (.lor, 1) := by decide +kernel
theorem dL_law_1197 : decode cL_law 1197 = .ok (.aload_n 0, 1) := by decide +kernel
theorem dL_law_1198 : decode cL_law 1198 = .ok (.iload_n 3, 1) := by decide +kernel
theorem dL_law_1199 : decode cL_law 1199 = .ok (.iconst 5, 1) := by decide +kernel
theorem dL_law_1200 : decode cL_law 1200 = .ok (.iadd, 1) := by decide +kernel
theorem dL_law_1201 : decode cL_law 1201 = .ok (.iaload, 1) := by decide +kernel
theorem dL_law_1202 : decode cL_law 1202 = .ok (.invokevirtual 92, 3) := by decide +kernel
theorem dL_law_1205 : decode cL_law 1205 = .ok (.aload_n 2, 1) := by decide +kernel
theorem dL_law_1206 : decode cL_law 1206 = .ok (.aload_n 0, 1) := by decide +kernel
theorem dL_law_1207 : decode cL_law 1207 = .ok (.iload_n 3, 1) := by decide +kernel
theorem dL_law_1208 : decode cL_law 1208 = .ok (.iconst 1, 1) := by decide +kernel
theorem dL_law_1209 : decode cL_law 1209 = .ok (.iadd, 1) := by decide +kernel
theorem dL_law_1210 : decode cL_law 1210 = .ok (.iaload, 1) := by decide +kernel
theorem dL_law_1211 : decode cL_law 1211 = .ok (.aload_n 0, 1) := by decide +kernel
theorem dL_law_1212 : decode cL_law 1212 = .ok (.iload_n 3, 1) := by decide +kernel
theorem dL_law_1213 : decode cL_law 1213 = .ok (.iconst 2, 1) := by decide +kernel
theorem dL_law_1214 : decode cL_law 1214 = .ok (.iadd, 1) := by decide +kernel
theorem dL_law_1215 : decode cL_law 1215 = .ok (.iaload, 1) := by decide +kernel
theorem dL_law_1216 : decode cL_law 1216 = .ok (.aload_n 0, 1) := by decide +kernel
theorem dL_law_1217 : decode cL_law 1217 = .ok (.iload_n 3, 1) := by decide +kernel
theorem dL_law_1218 : decode cL_law 1218 = .ok (.iconst 3, 1) := by decide +kernel
theorem dL_law_1219 : decode cL_law 1219 = .ok (.iadd, 1) := by decide +kernel
theorem dL_law_1220 : decode cL_law 1220 = .ok (.iaload, 1) := by decide +kernel
theorem dL_law_1221 : decode cL_law 1221 = .ok (.i2l, 1) := by decide +kernel
theorem dL_law_1222 : decode cL_law 1222 = .ok (.bipush 32, 2) := by decide +kernel
theorem dL_law_1224 : decode cL_law 1224 = .ok (.lshl, 1) := by decide +kernel
theorem dL_law_1225 : decode cL_law 1225 = .ok (.aload_n 0, 1) := by decide +kernel
theorem dL_law_1226 : decode cL_law 1226 = .ok (.iload_n 3, 1) := by decide +kernel
theorem dL_law_1227 : decode cL_law 1227 = .ok (.iconst 4, 1) := by decide +kernel
theorem dL_law_1228 : decode cL_law 1228 = .ok (.iadd, 1) := by decide +kernel
theorem dL_law_1229 : decode cL_law 1229 = .ok (.iaload, 1) := by decide +kernel
theorem dL_law_1230 : decode cL_law 1230 = .ok (.i2l, 1) := by decide +kernel
theorem dL_law_1231 : decode cL_law 1231 = .ok (.ldc2_w 18, 3) := by decide +kernel
theorem dL_law_1234 : decode cL_law 1234 = .ok (.land, 1) := by decide +kernel
theorem dL_law_1235 : decode cL_law 1235 = .ok (.lor, 1) := by decide +kernel
theorem dL_law_1236 : decode cL_law 1236 = .ok (.aload_n 0, 1) := by decide +kernel
theorem dL_law_1237 : decode cL_law 1237 = .ok (.iload_n 3, 1) := by decide +kernel
theorem dL_law_1238 : decode cL_law 1238 = .ok (.iconst 5, 1) := by decide +kernel
theorem dL_law_1239 : decode cL_law 1239 = .ok (.iadd, 1) := by decide +kernel
theorem dL_law_1240 : decode cL_law 1240 = .ok (.iaload, 1) := by decide +kernel
theorem dL_law_1241 : decode cL_law 1241 = .ok (.invokevirtual 96, 3) := by decide +kernel
theorem dL_law_1244 : decode cL_law 1244 = .ok (.if_icmp .eq 170, 3) := by decide +kernel
theorem dL_law_1247 : decode cL_law 1247 = .ok (.iconst 0, 1) := by decide +kernel
theorem dL_law_1248 : decode cL_law 1248 = .ok (.ireturn, 1) := by decide +kernel
theorem dL_law_1249 : decode cL_law 1249 = .ok (.aload_n 1, 1) := by decide +kernel
theorem dL_law_1250 : decode cL_law 1250 = .ok (.aload_n 0, 1) := by decide +kernel
theorem dL_law_1251 : decode cL_law 1251 = .ok (.iload_n 3, 1) := by decide +kernel
theorem dL_law_1252 : decode cL_law 1252 = .ok (.iconst 1, 1) := by decide +kernel
theorem dL_law_1253 : decode cL_law 1253 = .ok (.iadd, 1) := by decide +kernel
theorem dL_law_1254 : decode cL_law 1254 = .ok (.iaload, 1) := by decide +kernel
theorem dL_law_1255 : decode cL_law 1255 = .ok (.invokevirtual 97, 3) := by decide +kernel
theorem dL_law_1258 : decode cL_law 1258 = .ok (.aload_n 2, 1) := by decide +kernel
theorem dL_law_1259 : decode cL_law 1259 = .ok (.aload_n 0, 1) := by decide +kernel
theorem dL_law_1260 : decode cL_law 1260 = .ok (.iload_n 3, 1) := by decide +kernel
theorem dL_law_1261 : decode cL_law 1261 = .ok (.iconst 1, 1) := by decide +kernel
theorem dL_law_1262 : decode cL_law 1262 = .ok (.iadd, 1) := by decide +kernel
theorem dL_law_1263 : decode cL_law 1263 = .ok (.iaload, 1) := by decide +kernel
theorem dL_law_1264 : decode cL_law 1264 = .ok (.invokevirtual 100, 3) := by decide +kernel
theorem dL_law_1267 : decode cL_law 1267 = .ok (.if_icmp .eq 147, 3) := by decide +kernel
theorem dL_law_1270 : decode cL_law 1270 = .ok (.iconst 0, 1) := by decide +kernel
theorem dL_law_1271 : decode cL_law 1271 = .ok (.ireturn, 1) := by decide +kernel
theorem dL_law_1272 : decode cL_law 1272 = .ok (.aload_n 1, 1) := by decide +kernel
theorem dL_law_1273 : decode cL_law 1273 = .ok (.invokevirtual 101, 3) := by decide +kernel
theorem dL_law_1276 : decode cL_law 1276 = .ok (.aload_n 2, 1) := by decide +kernel
theorem dL_law_1277 : decode cL_law 1277 = .ok (.invokevirtual 104, 3) := by decide +kernel
theorem dL_law_1280 : decode cL_law 1280 = .ok (.if_icmp .eq 134, 3) := by decide +kernel
theorem dL_law_1283 : decode cL_law 1283 = .ok (.iconst 0, 1) := by decide +kernel
theorem dL_law_1284 : decode cL_law 1284 = .ok (.ireturn, 1) := by decide +kernel
theorem dL_law_1285 : decode cL_law 1285 = .ok (.aload_n 1, 1) := by decide +kernel
theorem dL_law_1286 : decode cL_law 1286 = .ok (.aload_n 0, 1) := by decide +kernel
theorem dL_law_1287 : decode cL_law 1287 = .ok (.iload_n 3, 1) := by decide +kernel
theorem dL_law_1288 : decode cL_law 1288 = .ok (.iconst 1, 1) := by decide +kernel
theorem dL_law_1289 : decode cL_law 1289 = .ok (.iadd, 1) := by decide +kernel
theorem dL_law_1290 : decode cL_law 1290 = .ok (.iaload, 1) := by decide +kernel
theorem dL_law_1291 : decode cL_law 1291 = .ok (.aload_n 0, 1) := by decide +kernel
theorem dL_law_1292 : decode cL_law 1292 = .ok (.iload_n 3, 1) := by decide +kernel
theorem dL_law_1293 : decode cL_law 1293 = .ok (.iconst 2, 1) := by decide +kernel
theorem dL_law_1294 : decode cL_law 1294 = .ok (.iadd, 1) := by decide +kernel
theorem dL_law_1295 : decode cL_law 1295 = .ok (.iaload, 1) := by decide +kernel
theorem dL_law_1296 : decode cL_law 1296 = .ok (.aload_n 0, 1) := by decide +kernel
theorem dL_law_1297 : decode cL_law 1297 = .ok (.iload_n 3, 1) := by decide +kernel
theorem dL_law_1298 : decode cL_law 1298 = .ok (.iconst 3, 1) := by decide +kernel
theorem dL_law_1299 : decode cL_law 1299 = .ok (.iadd, 1) := by decide +kernel
theorem dL_law_1300 : decode cL_law 1300 = .ok (.iaload, 1) := by decide +kernel
theorem dL_law_1301 : decode cL_law 1301 = .ok (.aload_n 0, 1) := by decide +kernel
theorem dL_law_1302 : decode cL_law 1302 = .ok (.iload_n 3, 1) := by decide +kernel
theorem dL_law_1303 : decode cL_law 1303 = .ok (.iconst 4, 1) := by decide +kernel
theorem dL_law_1304 : decode cL_law 1304 = .ok (.iadd, 1) := by decide +kernel
theorem dL_law_1305 : decode cL_law 1305 = .ok (.iaload, 1) := by decide +kernel
theorem dL_law_1306 : decode cL_law 1306 = .ok (.invokevirtual 105, 3) := by decide +kernel
theorem dL_law_1309 : decode cL_law 1309 = .ok (.aload_n 2, 1) := by decide +kernel
theorem dL_law_1310 : decode cL_law 1310 = .ok (.aload_n 0, 1) := by decide +kernel
theorem dL_law_1311 : decode cL_law 1311 = .ok (.iload_n 3, 1) := by decide +kernel
theorem dL_law_1312 : decode cL_law 1312 = .ok (.iconst 1, 1) := by decide +kernel
theorem dL_law_1313 : decode cL_law 1313 = .ok (.iadd, 1) := by decide +kernel
theorem dL_law_1314 : decode cL_law 1314 = .ok (.iaload, 1) := by decide +kernel
theorem dL_law_1315 : decode cL_law 1315 = .ok (.aload_n 0, 1) := by decide +kernel
theorem dL_law_1316 : decode cL_law 1316 = .ok (.iload_n 3, 1) := by decide +kernel
theorem dL_law_1317 : decode cL_law 1317 = .ok (.iconst 2, 1) := by decide +kernel
theorem dL_law_1318 : decode cL_law 1318 = .ok (.iadd, 1) := by decide +kernel
theorem dL_law_1319 : decode cL_law 1319 = .ok (.iaload, 1) := by decide +kernel
theorem dL_law_1320 : decode cL_law 1320 = .ok (.aload_n 0, 1) := by decide +kernel
theorem dL_law_1321 : decode cL_law 1321 = .ok (.iload_n 3, 1) := by decide +kernel
theorem dL_law_1322 : decode cL_law 1322 = .ok (.iconst 3, 1) := by decide +kernel
theorem dL_law_1323 : decode cL_law 1323 = .ok (.iadd, 1) := by decide +kernel
theorem dL_law_1324 : decode cL_law 1324 = .ok (.iaload, 1) := by decide +kernel
theorem dL_law_1325 : decode cL_law 1325 = .ok (.aload_n 0, 1) := by decide +kernel
theorem dL_law_1326 : decode cL_law 1326 = .ok (.iload_n 3, 1) := by decide +kernel
theorem dL_law_1327 : decode cL_law 1327 = .ok (.iconst 4, 1) := by decide +kernel
theorem dL_law_1328 : decode cL_law 1328 = .ok (.iadd, 1) := by decide +kernel
theorem dL_law_1329 : decode cL_law 1329 = .ok (.iaload, 1) := by decide +kernel
theorem dL_law_1330 : decode cL_law 1330 = .ok (.invokevirtual 109, 3) := by decide +kernel
theorem dL_law_1333 : decode cL_law 1333 = .ok (.if_icmp .eq 81, 3) := by decide +kernel
theorem dL_law_1336 : decode cL_law 1336 = .ok (.iconst 0, 1) := by decide +kernel
theorem dL_law_1337 : decode cL_law 1337 = .ok (.ireturn, 1) := by decide +kernel
theorem dL_law_1338 : decode cL_law 1338 = .ok (.aload_n 1, 1) := by decide +kernel
theorem dL_law_1339 : decode cL_law 1339 = .ok (.aload_n 0, 1) := by decide +kernel
theorem dL_law_1340 : decode cL_law 1340 = .ok (.iload_n 3, 1) := by decide +kernel
theorem dL_law_1341 : decode cL_law 1341 = .ok (.iconst 1, 1) := by decide +kernel
theorem dL_law_1342 : decode cL_law 1342 = .ok (.iadd, 1) := by decide +kernel
theorem dL_law_1343 : decode cL_law 1343 = .ok (.iaload, 1) := by decide +kernel
theorem dL_law_1344 : decode cL_law 1344 = .ok (.invokevirtual 110, 3) := by decide +kernel
theorem dL_law_1347 : decode cL_law 1347 = .ok (.aload_n 2, 1) := by decide +kernel
theorem dL_law_1348 : decode cL_law 1348 = .ok (.aload_n 0, 1) := by decide +kernel
theorem dL_law_1349 : decode cL_law 1349 = .ok (.iload_n 3, 1) := by decide +kernel
theorem dL_law_1350 : decode cL_law 1350 = .ok (.iconst 1, 1) := by decide +kernel
theorem dL_law_1351 : decode cL_law 1351 = .ok (.iadd, 1) := by decide +kernel
theorem dL_law_1352 : decode cL_law 1352 = .ok (.iaload, 1) := by decide +kernel
theorem dL_law_1353 : decode cL_law 1353 = .ok (.invokevirtual 113, 3) := by decide +kernel
theorem dL_law_1356 : decode cL_law 1356 = .ok (.if_icmp .eq 58, 3) := by decide +kernel
theorem dL_law_1359 : decode cL_law 1359 = .ok (.iconst 0, 1) := by decide +kernel
theorem dL_law_1360 : decode cL_law 1360 = .ok (.ireturn, 1) := by decide +kernel
theorem dL_law_1361 : decode cL_law 1361 = .ok (.aload_n 1, 1) := by decide +kernel
theorem dL_law_1362 : decode cL_law 1362 = .ok (.aload_n 0, 1) := by decide +kernel
theorem dL_law_1363 : decode cL_law 1363 = .ok (.iload_n 3, 1) := by decide +kernel
theorem dL_law_1364 : decode cL_law 1364 = .ok (.iconst 1, 1) := by decide +kernel
theorem dL_law_1365 : decode cL_law 1365 = .ok (.iadd, 1) := by decide +kernel
theorem dL_law_1366 : decode cL_law 1366 = .ok (.iaload, 1) := by decide +kernel
theorem dL_law_1367 : decode cL_law 1367 = .ok (.aload_n 0, 1) := by decide +kernel
theorem dL_law_1368 : decode cL_law 1368 = .ok (.iload_n 3, 1) := by decide +kernel
theorem dL_law_1369 : decode cL_law 1369 = .ok (.iconst 2, 1) := by decide +kernel
theorem dL_law_1370 : decode cL_law 1370 = .ok (.iadd, 1) := by decide +kernel
theorem dL_law_1371 : decode cL_law 1371 = .ok (.iaload, 1) := by decide +kernel
theorem dL_law_1372 : decode cL_law 1372 = .ok (.aload_n 0, 1) := by decide +kernel
theorem dL_law_1373 : decode cL_law 1373 = .ok (.iload_n 3, 1) := by decide +kernel
theorem dL_law_1374 : decode cL_law 1374 = .ok (.iconst 3, 1) := by decide +kernel
theorem dL_law_1375 : decode cL_law 1375 = .ok (.iadd, 1) := by decide +kernel
theorem dL_law_1376 : decode cL_law 1376 = .ok (.iaload, 1) := by decide +kernel
theorem dL_law_1377 : decode cL_law 1377 = .ok (.aload_n 0, 1) := by decide +kernel
theorem dL_law_1378 : decode cL_law 1378 = .ok (.iload_n 3, 1) := by decide +kernel
theorem dL_law_1379 : decode cL_law 1379 = .ok (.iconst 4, 1) := by decide +kernel
theorem dL_law_1380 : decode cL_law 1380 = .ok (.iadd, 1) := by decide +kernel
theorem dL_law_1381 : decode cL_law 1381 = .ok (.iaload, 1) := by decide +kernel
theorem dL_law_1382 : decode cL_law 1382 = .ok (.invokevirtual 114, 3) := by decide +kernel
theorem dL_law_1385 : decode cL_law 1385 = .ok (.aload_n 2, 1) := by decide +kernel
theorem dL_law_1386 : decode cL_law 1386 = .ok (.aload_n 0, 1) := by decide +kernel
theorem dL_law_1387 : decode cL_law 1387 = .ok (.iload_n 3, 1) := by decide +kernel
theorem dL_law_1388 : decode cL_law 1388 = .ok (.iconst 1, 1) := by decide +kernel
theorem dL_law_1389 : decode cL_law 1389 = .ok (.iadd, 1) := by decide +kernel
theorem dL_law_1390 : decode cL_law 1390 = .ok (.iaload, 1) := by decide +kernel
theorem dL_law_1391 : decode cL_law 1391 = .ok (.aload_n 0, 1) := by decide +kernel
theorem dL_law_1392 : decode cL_law 1392 = .ok (.iload_n 3, 1) := by decide +kernel
theorem dL_law_1393 : decode cL_law 1393 = .ok (.iconst 2, 1) := by decide +kernel
theorem dL_law_1394 : decode cL_law 1394 = .ok (.iadd, 1) := by decide +kernel
theorem dL_law_1395 : decode cL_law 1395 = .ok (.iaload, 1) := by decide +kernel
theorem dL_law_1396 : decode cL_law 1396 = .ok (.aload_n 0, 1) := by decide +kernel
theorem dL_law_1397 : decode cL_law 1397 = .ok (.iload_n 3, 1) := by decide +kernel
theorem dL_law_1398 : decode cL_law 1398 = .ok (.iconst 3, 1) := by decide +kernel
theorem dL_law_1399 : decode cL_law 1399 = .ok (.iadd, 1) := by decide +kernel
theorem dL_law_1400 : decode cL_law 1400 = .ok (.iaload, 1) := by decide +kernel
theorem dL_law_1401 : decode cL_law 1401 = .ok (.aload_n 0, 1) := by decide +kernel
theorem dL_law_1402 : decode cL_law 1402 = .ok (.iload_n 3, 1) := by decide +kernel
theorem dL_law_1403 : decode cL_law 1403 = .ok (.iconst 4, 1) := by decide +kernel
theorem dL_law_1404 : decode cL_law 1404 = .ok (.iadd, 1) := by decide +kernel
theorem dL_law_1405 : decode cL_law 1405 = .ok (.iaload, 1) := by decide +kernel
theorem dL_law_1406 : decode cL_law 1406 = .ok (.invokevirtual 117, 3) := by decide +kernel
theorem dL_law_1409 : decode cL_law 1409 = .ok (.if_icmp .eq 5, 3) := by decide +kernel
theorem dL_law_1412 : decode cL_law 1412 = .ok (.iconst 0, 1) := by decide +kernel
theorem dL_law_1413 : decode cL_law 1413 = .ok (.ireturn, 1) := by decide +kernel
theorem dL_law_1414 : decode cL_law 1414 = .ok (.iinc 3 8, 3) := by decide +kernel
theorem dL_law_1417 : decode cL_law 1417 = .ok (.goto (-1399), 3) := by decide +kernel
theorem dL_law_1420 : decode cL_law 1420 = .ok (.iconst 1, 1) := by decide +kernel
theorem dL_law_1421 : decode cL_law 1421 = .ok (.ireturn, 1) := by decide +kernel
end
section
/-! the judgement G: one walk of a method over an abstract heap (an address, what its cell holds); its rules come from the kit's rows -/
abbrev gC : Type := (FieldType × vp_A) ⊕ (Nat × List Value)
abbrev gH : Type := Nat → Option gC
def gE (aC : FieldType → ClassId) (c : gC) : va_E := match c with
  | .inl x => .inl (aC x.1, x.2)
  | .inr x => .inr x
def su (σ : gH) (a : Nat) (c : gC) : gH := fun b => if b = a then some c else σ b
theorem su_self (σ : gH) (a : Nat) (c : gC) : su σ a c a = some c := by simp [su]
theorem su_ne (σ : gH) {a b : Nat} (c : gC) (h : b ≠ a) : su σ a c b = σ b := by simp [su, h]
theorem su_su (σ : gH) (a : Nat) (c c' : gC) : su (su σ a c) a c' = su σ a c' := by
  funext b
  by_cases h : b = a <;> simp [su, h]
theorem su_comm (σ : gH) {a b : Nat} (c c' : gC) (h : a ≠ b) : su (su σ a c) b c' = su (su σ b c') a c := by
  funext q
  by_cases h1 : q = a
  · subst h1
    simp [su, h]
  · by_cases h2 : q = b
    · subst h2
      simp [su, h1]
    · simp [su, h1, h2]
theorem su_id {σ : gH} {a : Nat} {c : gC} (h : σ a = some c) : su σ a c = σ := by
  funext b
  by_cases e : b = a
  · subst e; simp [su, h]
  · simp [su, e]
abbrev gM : Type := MethodName × ByteArray × Nat × Option FieldType
abbrev gAi (n : Nat) (f : Nat → Int32) : gC := .inl (.int, n, .inl f)
abbrev gAl (n : Nat) (f : Nat → Int64) : gC := .inl (.long, n, .inr (.inl f))
abbrev gAz (n : Nat) (f : Nat → Int32) : gC := .inl (.boolean, n, .inl f)
abbrev gAq (ty : FieldType) (n : Nat) (f : Nat → Option Nat) : gC := .inl (ty, n, .inr (.inr (.inr (.inr f))))
abbrev gO (ci : Nat) (fs : List Value) : gC := .inr (ci, fs)
def gcl : List vw_C := [(RX0, TX0, 5), (RX1, TX1, 4), (RX3, TX3, 5), (RX4, TX4, 2), (RX5, TX5, 4), (RX7, TX7, 4), (RX8, TX8, 14), (RX9, TX9, 6), (RX10, TX10, 10), (RX11, TX11, 40)]
def gTy : List FieldType := [.int, .long, .boolean, .object RX3, .object RX5, .object RX0, .array .long]
def gT (aC : FieldType → ClassId) : List (ClassId × FieldType) := gTy.map (fun ty => (aC ty, ty))
def gHold (D : va_G) (aC : FieldType → ClassId) (σ : gH) (A : Nat → Prop) (H : Heap) : Prop := ∀ (a : Nat) (c : gC), σ a = some c → va_at D gcl (a, gE aC c) H ∧ A a
def gA (σ : gH) (sz : Nat) : Nat → Prop := fun q => σ q ≠ none ∨ sz ≤ q
def gFP : Nat → Value := fun j => .int (([1, 1, 4, 4, 3, 1, 1, 1, 1, 1, 1, 1, 1] : List Int32).getD j 0)
def gTF : Nat → Value := fun j => .int (([1, 1, 2, 3, 4, 5, 2, 2, 3, 2] : List Int32).getD j 0)
def gSt (A : Nat → Prop) (U : State) (H : Heap) : Prop := ∃ t1 t2 : Nat, (va_Z RX10 "FIRST_PRICES" "[I" (.ref t1) A U H ∧ va_T .int t1 13 gFP A U H) ∧ (va_Z RX10 "TAKEN_FOR" "[I" (.ref t2) A U H ∧ va_T .int t2 10 gTF A U H)
theorem gSt.go {A B : Nat → Prop} {U V : State} {H H1 : Heap} (h : gSt A U H) (hvm : U.vm.Alike V.vm) (hq : ∀ a : Nat, a < H.size → ¬ A a → H1[a]? = H[a]?) (hAB : ∀ q, B q → A q) : gSt B V H1 := by
  obtain ⟨t1, t2, ⟨z1, y1⟩, z2, y2⟩ := h
  exact ⟨t1, t2, ⟨((z1.kept hq).narrow hAB).moved hvm, ((y1.kept hq).narrow hAB).moved hvm⟩, ((z2.kept hq).narrow hAB).moved hvm, ((y2.kept hq).narrow hAB).moved hvm⟩
def gLv : Nat → List (Option Value) → List (Nat × Value)
  | _, [] => []
  | k, none :: t => gLv (k + 1) t
  | k, some v :: t => (k, v) :: gLv (k + 1) t
theorem gLv_mem : ∀ (ls : List (Option Value)) (b k : Nat) (v : Value), (k, v) ∈ gLv b ls ↔ b ≤ k ∧ ls[k - b]? = some (some v)
  | [], b, k, v => by simp [gLv]
  | none :: t, b, k, v => by
    rw [gLv, gLv_mem t (b + 1) k v]
    constructor
    · rintro ⟨h1, h2⟩
      refine ⟨by omega, ?_⟩
      rw [show k - b = (k - (b + 1)) + 1 by omega]
      simpa using h2
    · rintro ⟨h1, h2⟩
      by_cases e : k = b
      · subst e; simp at h2
      · refine ⟨by omega, ?_⟩
        rw [show k - b = (k - (b + 1)) + 1 by omega] at h2
        simpa using h2
  | some w :: t, b, k, v => by
    rw [gLv, List.mem_cons, gLv_mem t (b + 1) k v]
    constructor
    · rintro (h | ⟨h1, h2⟩)
      · cases h
        simp
      · refine ⟨by omega, ?_⟩
        rw [show k - b = (k - (b + 1)) + 1 by omega]
        simpa using h2
    · rintro ⟨h1, h2⟩
      by_cases e : k = b
      · subst e
        simp at h2
        left
        rw [h2]
      · right
        refine ⟨by omega, ?_⟩
        rw [show k - b = (k - (b + 1)) + 1 by omega] at h2
        simpa using h2
theorem gLv_at {lsA : Array Slot} {nL : Nat} {ls : List (Option Value)} (h : lv_has lsA nL (gLv 0 ls)) {k : Nat} {v : Value} (hk : ls[k]? = some (some v)) : lsA[k]? = some (.val v) :=
  h.2.2 (k, v) ((gLv_mem ls 0 k v).mpr ⟨Nat.zero_le _, by simpa using hk⟩)
/-- nothing of two words just below place i -/
def gN2 (ls : List (Option Value)) (i : Nat) : Bool := match i with
  | 0 => true
  | j + 1 => match ls[j]? with
    | some (some v) => !(v.category == 2)
    | _ => true
theorem gN2_of {ls : List (Option Value)} {i k : Nat} {v : Value} (h : gN2 ls i = true) (hk : ls[k]? = some (some v)) (e : k + 1 = i) : ¬ v.category = 2 := by
  subst e
  simp [gN2, hk] at h
  exact h
theorem gLv_set1 {lsA : Array Slot} {nL i : Nat} {ls : List (Option Value)} {v : Value} (hn : gN2 ls i = true) (h : lv_has lsA nL ((i, v) :: (gLv 0 ls).filter (fun q => !(q.1 == i) && !(q.1 + 1 == i && q.2.category == 2)))) : lv_has lsA nL (gLv 0 (ls.set i (some v))) := by
  refine ⟨h.1, h.2.1, ?_⟩
  rintro ⟨k, w⟩ hq
  have h1 := ((gLv_mem _ 0 k w).mp hq).2
  simp only [Nat.sub_zero] at h1
  by_cases e : k = i
  · subst e
    rw [List.getElem?_set] at h1
    simp at h1
    refine h.2.2 (k, w) ?_
    rw [← h1.2]
    exact List.mem_cons_self
  · rw [List.getElem?_set_ne (Ne.symm e)] at h1
    refine h.2.2 (k, w) (List.mem_cons_of_mem _ (List.mem_filter.mpr ⟨(gLv_mem ls 0 k w).mpr ⟨Nat.zero_le _, by simpa using h1⟩, ?_⟩))
    simp only [Bool.and_eq_true, Bool.not_eq_true', beq_eq_false_iff_ne, ne_eq, Bool.and_eq_false_iff]
    refine ⟨e, ?_⟩
    by_cases e2 : k + 1 = i
    · exact Or.inr (gN2_of hn h1 e2)
    · exact Or.inl e2
theorem gLv_set2 {lsA : Array Slot} {nL i : Nat} {ls : List (Option Value)} {v : Value} (hn : gN2 ls i = true) (h : lv_has lsA nL ((i, v) :: (gLv 0 ls).filter (fun q => !(q.1 == i) && (!(q.1 == i + 1) && !(q.1 + 1 == i && q.2.category == 2))))) : lv_has lsA nL (gLv 0 ((ls.set i (some v)).set (i + 1) none)) := by
  refine ⟨h.1, h.2.1, ?_⟩
  rintro ⟨k, w⟩ hq
  have h1 := ((gLv_mem _ 0 k w).mp hq).2
  simp only [Nat.sub_zero] at h1
  by_cases e' : k = i + 1
  · subst e'
    rw [List.getElem?_set] at h1
    simp at h1
  · rw [List.getElem?_set_ne (Ne.symm e')] at h1
    by_cases e : k = i
    · subst e
      rw [List.getElem?_set] at h1
      simp at h1
      refine h.2.2 (k, w) ?_
      rw [← h1.2]
      exact List.mem_cons_self
    · rw [List.getElem?_set_ne (Ne.symm e)] at h1
      refine h.2.2 (k, w) (List.mem_cons_of_mem _ (List.mem_filter.mpr ⟨(gLv_mem ls 0 k w).mpr ⟨Nat.zero_le _, by simpa using h1⟩, ?_⟩))
      simp only [Bool.and_eq_true, Bool.not_eq_true', beq_eq_false_iff_ne, ne_eq, Bool.and_eq_false_iff]
      refine ⟨e, e', ?_⟩
      by_cases e2 : k + 1 = i
      · exact Or.inr (gN2_of hn h1 e2)
      · exact Or.inl e2
/-- the tables' words that stay true while the machine runs, and the few that are carried by themselves -/
def lw_g : List Cond := lw_tbl.filter goodWord
theorem gin {w : Cond} (i : Nat) (h : lw_tbl[i]? = some w) (hg : goodWord w = true) : w ∈ lw_g := List.mem_filter.mpr ⟨List.mem_of_getElem? h, hg⟩
def gOvA (U : State) : Prop := (Cond.arrayOver (.array .long)).before #[] U = true
theorem gOvA.moved {u U : State} (hvm : u.vm.Alike U.vm) (h : gOvA u) : gOvA U := by
  obtain ⟨comp, c, k, h1, h2, h3, h4, h5⟩ := arrayOverA_spec h
  obtain ⟨k', hk', he⟩ := hvm.2.2 _ _ h3
  have hi : (U.vm.classes.findIdx? fun (x : Class) => match x.kind with | .array component _ => component == comp | _ => false) = some c := by
    have e1 := va_idx_bare U.vm comp
    have e2 := va_idx_bare u.vm comp
    have e3 : U.vm.bare = u.vm.bare := by first | exact hvm.bare_eq | exact hvm.bare_eq.symm
    rw [e3] at e1
    exact e1.symm.trans (e2.trans h2)
  have hkind : k'.kind = .array comp (.array .long) := by rw [he]; exact h4
  have f1 : U.vm.findClass (FieldType.array .long).toString = some comp := by rw [hvm.findClass]; exact h1
  have f2 : U.vm.findClass ("[" ++ (FieldType.array .long).toString) = some c := by rw [hvm.findClass]; exact h5
  unfold gOvA Cond.before Cond.holds
  simp only [Cond.value]
  rw [f1, Option.bind_some]
  refine (congrArg (fun o : Option Nat => (o.bind (fun c => (U.vm.classes[c]?).map fun (k : Class) => match k.kind with | .array _ ty => decide (ty = FieldType.array .long) && decide (U.vm.findClass ("[" ++ (FieldType.array .long).toString) = some c) | _ => false) == some true)) hi).trans ?_
  simp [hk', hkind, f2]
def gNg (U : State) : Prop := (va_Nw (.methodLinkNest RX10 38 yX4_init RX10) U ∧ va_Nw (.methodLinkNest RX10 45 yX8_init RX10) U ∧ va_Nw (.methodLinkNest RX10 260 yX3_init RX10) U ∧ va_Nw (.methodLinkNest RX10 200 yX8_extend RX10) U ∧ va_Nw (.fieldLinkNest RX10 204 RX8 "bestLength" "I" RX10) U) ∧ (va_AO RX3 U ∧ va_AO RX5 U ∧ va_AO RX0 U ∧ gOvA U)
theorem gNg.warm {s U : State} (hW : s.WarmedH U.vm) (h : gNg s) : gNg U := ⟨⟨va_Nw.warmM hW h.1.1, va_Nw.warmM hW h.1.2.1, va_Nw.warmM hW h.1.2.2.1, va_Nw.warmM hW h.1.2.2.2.1, va_Nw.warmF hW h.1.2.2.2.2⟩, va_AO.moved hW.alike h.2.1, va_AO.moved hW.alike h.2.2.1, va_AO.moved hW.alike h.2.2.2.1, gOvA.moved hW.alike h.2.2.2.2⟩
theorem gNg.same {s U : State} (hW : s.vm = U.vm) (h : gNg s) : gNg U := ⟨⟨va_Nw.same rfl hW h.1.1, va_Nw.same rfl hW h.1.2.1, va_Nw.same rfl hW h.1.2.2.1, va_Nw.same rfl hW h.1.2.2.2.1, va_Nw.same rfl hW h.1.2.2.2.2⟩, va_AO.moved (hW ▸ Vm.Alike.refl s.vm) h.2.1, va_AO.moved (hW ▸ Vm.Alike.refl s.vm) h.2.2.1, va_AO.moved (hW ▸ Vm.Alike.refl s.vm) h.2.2.2.1, gOvA.moved (hW ▸ Vm.Alike.refl s.vm) h.2.2.2.2⟩
/-- the nest mates' links, as they are asked for -/
def gNk (w : Cond) : Prop := w.onTables = true ∧ ∀ U : State, gNg U → va_Nw w U
def gX (p : Program) (R : Room) (s : State) (m : MethodId) (args : Array Value) (meth : Method) (c : Code) (M : gM) (d : Nat) (D : va_G) (aC : FieldType → ClassId) (A : Nat → Prop) : Prop :=
  p.tables.exec = Jvm.exec ∧ c.code = M.2.1 ∧ c.maxLocals = M.2.2.1 ∧ s.vm.findClass M.1.cls = some m.cls ∧ (∀ w ∈ lw_g, w.before args s = true) ∧ meth.sig.returnType = M.2.2.2 ∧ meth.locks = false ∧ meth.name = M.1.name ∧ va_K D gcl (gT aC) s ∧ (∀ q, s.heap.size ≤ q → A q) ∧ gSt A s s.heap ∧ d ≤ R.frames ∧ 64 * d ≤ R.locals ∧ gNg s
def gQ (D : va_G) (aC : FieldType → ClassId) (A : Nat → Prop) (post : Option Value → gH → Prop) : Array Value → State → Outcome → State → Prop := fun _ st oc t => (∃ (v : Option Value) (σ : gH), oc = .returned v ∧ post v σ ∧ gHold D aC σ A t.heap) ∧ va_F A st t
def G (l : Launch) (M : gM) (d bc bs : Nat) (post : Option Value → gH → Prop) (σ : gH) (pc : Nat) (ls : List (Option Value)) (st : List Value) : Prop :=
  ∀ (p : Program) (e : Env) (R : Room) (s : State) (m : MethodId) (args : Array Value) (below : List Frame) (meth : Method) (c : Code) (D : va_G) (aC : FieldType → ClassId) (A : Nat → Prop) (k0 n0 : Nat), gX p R s m args meth c M d D aC A →
    ∀ (H : Heap) (locs : List Loc) (cells slots : Nat) (lsA : Array Slot), gHold D aC σ A H → va_S A s.heap H locs → cells + bc ≤ k0 → slots + bs ≤ n0 → k0 ≤ R.cells → n0 ≤ R.slots → lv_has lsA M.2.2.1 (gLv 0 ls) →
      W p l e R s m args below meth c H locs cells slots (MQ below (gQ D aC A post) args s k0 n0 A) (F0 m pc lsA st)
section GR
variable {l : Launch} {M : gM} {d bc bs : Nat} {post : Option Value → gH → Prop} {σ : gH} {pc : Nat} {ls : List (Option Value)} {rest : List Value}
theorem g_iadd {x y : Int32} (hd : decode M.2.1 pc = .ok (.iadd, 1)) (k : G l M d bc bs post σ (pc + 1) ls (.int (x + y) :: rest)) : G l M d bc bs post σ pc ls (.int y :: .int x :: rest) := by
  intro p e R s m args below meth c D aC A k0 n0 X H locs cells slots lsA hH hS h1 h2 h3 h4 hl
  exact lv_iadd X.1 X.2.1 hd (k p e R s m args below meth c D aC A k0 n0 X H locs cells slots lsA hH hS h1 h2 h3 h4 hl)
theorem g_isub {x y : Int32} (hd : decode M.2.1 pc = .ok (.isub, 1)) (k : G l M d bc bs post σ (pc + 1) ls (.int (x - y) :: rest)) : G l M d bc bs post σ pc ls (.int y :: .int x :: rest) := by
  intro p e R s m args below meth c D aC A k0 n0 X H locs cells slots lsA hH hS h1 h2 h3 h4 hl
  exact lv_isub X.1 X.2.1 hd (k p e R s m args below meth c D aC A k0 n0 X H locs cells slots lsA hH hS h1 h2 h3 h4 hl)
theorem g_imul {x y : Int32} (hd : decode M.2.1 pc = .ok (.imul, 1)) (k : G l M d bc bs post σ (pc + 1) ls (.int (x * y) :: rest)) : G l M d bc bs post σ pc ls (.int y :: .int x :: rest) := by
  intro p e R s m args below meth c D aC A k0 n0 X H locs cells slots lsA hH hS h1 h2 h3 h4 hl
  exact lv_imul X.1 X.2.1 hd (k p e R s m args below meth c D aC A k0 n0 X H locs cells slots lsA hH hS h1 h2 h3 h4 hl)
theorem g_iand {x y : Int32} (hd : decode M.2.1 pc = .ok (.iand, 1)) (k : G l M d bc bs post σ (pc + 1) ls (.int (x &&& y) :: rest)) : G l M d bc bs post σ pc ls (.int y :: .int x :: rest) := by
  intro p e R s m args below meth c D aC A k0 n0 X H locs cells slots lsA hH hS h1 h2 h3 h4 hl
  exact lv_iand X.1 X.2.1 hd (k p e R s m args below meth c D aC A k0 n0 X H locs cells slots lsA hH hS h1 h2 h3 h4 hl)
theorem g_ior {x y : Int32} (hd : decode M.2.1 pc = .ok (.ior, 1)) (k : G l M d bc bs post σ (pc + 1) ls (.int (x ||| y) :: rest)) : G l M d bc bs post σ pc ls (.int y :: .int x :: rest) := by
  intro p e R s m args below meth c D aC A k0 n0 X H locs cells slots lsA hH hS h1 h2 h3 h4 hl
  exact lv_ior X.1 X.2.1 hd (k p e R s m args below meth c D aC A k0 n0 X H locs cells slots lsA hH hS h1 h2 h3 h4 hl)
theorem g_ixor {x y : Int32} (hd : decode M.2.1 pc = .ok (.ixor, 1)) (k : G l M d bc bs post σ (pc + 1) ls (.int (x ^^^ y) :: rest)) : G l M d bc bs post σ pc ls (.int y :: .int x :: rest) := by
  intro p e R s m args below meth c D aC A k0 n0 X H locs cells slots lsA hH hS h1 h2 h3 h4 hl
  exact lv_ixor X.1 X.2.1 hd (k p e R s m args below meth c D aC A k0 n0 X H locs cells slots lsA hH hS h1 h2 h3 h4 hl)
theorem g_ishl {x y : Int32} (hd : decode M.2.1 pc = .ok (.ishl, 1)) (k : G l M d bc bs post σ (pc + 1) ls (.int (x <<< (y &&& 31)) :: rest)) : G l M d bc bs post σ pc ls (.int y :: .int x :: rest) := by
  intro p e R s m args below meth c D aC A k0 n0 X H locs cells slots lsA hH hS h1 h2 h3 h4 hl
  exact lv_ishl X.1 X.2.1 hd (k p e R s m args below meth c D aC A k0 n0 X H locs cells slots lsA hH hS h1 h2 h3 h4 hl)
theorem g_ishr {x y : Int32} (hd : decode M.2.1 pc = .ok (.ishr, 1)) (k : G l M d bc bs post σ (pc + 1) ls (.int (x >>> (y &&& 31)) :: rest)) : G l M d bc bs post σ pc ls (.int y :: .int x :: rest) := by
  intro p e R s m args below meth c D aC A k0 n0 X H locs cells slots lsA hH hS h1 h2 h3 h4 hl
  exact lv_ishr X.1 X.2.1 hd (k p e R s m args below meth c D aC A k0 n0 X H locs cells slots lsA hH hS h1 h2 h3 h4 hl)
theorem g_idiv {x y : Int32} (hd : decode M.2.1 pc = .ok (.idiv, 1)) (hne : ¬ y = 0) (k : G l M d bc bs post σ (pc + 1) ls (.int (x / y) :: rest)) : G l M d bc bs post σ pc ls (.int y :: .int x :: rest) := by
  intro p e R s m args below meth c D aC A k0 n0 X H locs cells slots lsA hH hS h1 h2 h3 h4 hl
  exact lv_idiv X.1 X.2.1 hd hne (k p e R s m args below meth c D aC A k0 n0 X H locs cells slots lsA hH hS h1 h2 h3 h4 hl)
theorem g_irem {x y : Int32} (hd : decode M.2.1 pc = .ok (.irem, 1)) (hne : ¬ y = 0) (k : G l M d bc bs post σ (pc + 1) ls (.int (x - x / y * y) :: rest)) : G l M d bc bs post σ pc ls (.int y :: .int x :: rest) := by
  intro p e R s m args below meth c D aC A k0 n0 X H locs cells slots lsA hH hS h1 h2 h3 h4 hl
  exact lv_irem X.1 X.2.1 hd hne (k p e R s m args below meth c D aC A k0 n0 X H locs cells slots lsA hH hS h1 h2 h3 h4 hl)
theorem g_ladd {x y : Int64} (hd : decode M.2.1 pc = .ok (.ladd, 1)) (k : G l M d bc bs post σ (pc + 1) ls (.long (x + y) :: rest)) : G l M d bc bs post σ pc ls (.long y :: .long x :: rest) := by
  intro p e R s m args below meth c D aC A k0 n0 X H locs cells slots lsA hH hS h1 h2 h3 h4 hl
  exact lv_ladd X.1 X.2.1 hd (k p e R s m args below meth c D aC A k0 n0 X H locs cells slots lsA hH hS h1 h2 h3 h4 hl)
theorem g_lsub {x y : Int64} (hd : decode M.2.1 pc = .ok (.lsub, 1)) (k : G l M d bc bs post σ (pc + 1) ls (.long (x - y) :: rest)) : G l M d bc bs post σ pc ls (.long y :: .long x :: rest) := by
  intro p e R s m args below meth c D aC A k0 n0 X H locs cells slots lsA hH hS h1 h2 h3 h4 hl
  exact lv_lsub X.1 X.2.1 hd (k p e R s m args below meth c D aC A k0 n0 X H locs cells slots lsA hH hS h1 h2 h3 h4 hl)
theorem g_lmul {x y : Int64} (hd : decode M.2.1 pc = .ok (.lmul, 1)) (k : G l M d bc bs post σ (pc + 1) ls (.long (x * y) :: rest)) : G l M d bc bs post σ pc ls (.long y :: .long x :: rest) := by
  intro p e R s m args below meth c D aC A k0 n0 X H locs cells slots lsA hH hS h1 h2 h3 h4 hl
  exact lv_lmul X.1 X.2.1 hd (k p e R s m args below meth c D aC A k0 n0 X H locs cells slots lsA hH hS h1 h2 h3 h4 hl)
theorem g_land {x y : Int64} (hd : decode M.2.1 pc = .ok (.land, 1)) (k : G l M d bc bs post σ (pc + 1) ls (.long (x &&& y) :: rest)) : G l M d bc bs post σ pc ls (.long y :: .long x :: rest) := by
  intro p e R s m args below meth c D aC A k0 n0 X H locs cells slots lsA hH hS h1 h2 h3 h4 hl
  exact lv_land X.1 X.2.1 hd (k p e R s m args below meth c D aC A k0 n0 X H locs cells slots lsA hH hS h1 h2 h3 h4 hl)
theorem g_lor {x y : Int64} (hd : decode M.2.1 pc = .ok (.lor, 1)) (k : G l M d bc bs post σ (pc + 1) ls (.long (x ||| y) :: rest)) : G l M d bc bs post σ pc ls (.long y :: .long x :: rest) := by
  intro p e R s m args below meth c D aC A k0 n0 X H locs cells slots lsA hH hS h1 h2 h3 h4 hl
  exact lv_lor X.1 X.2.1 hd (k p e R s m args below meth c D aC A k0 n0 X H locs cells slots lsA hH hS h1 h2 h3 h4 hl)
theorem g_lxor {x y : Int64} (hd : decode M.2.1 pc = .ok (.lxor, 1)) (k : G l M d bc bs post σ (pc + 1) ls (.long (x ^^^ y) :: rest)) : G l M d bc bs post σ pc ls (.long y :: .long x :: rest) := by
  intro p e R s m args below meth c D aC A k0 n0 X H locs cells slots lsA hH hS h1 h2 h3 h4 hl
  exact lv_lxor X.1 X.2.1 hd (k p e R s m args below meth c D aC A k0 n0 X H locs cells slots lsA hH hS h1 h2 h3 h4 hl)
theorem g_ldiv {x y : Int64} (hd : decode M.2.1 pc = .ok (.ldiv, 1)) (hne : ¬ y = 0) (k : G l M d bc bs post σ (pc + 1) ls (.long (x / y) :: rest)) : G l M d bc bs post σ pc ls (.long y :: .long x :: rest) := by
  intro p e R s m args below meth c D aC A k0 n0 X H locs cells slots lsA hH hS h1 h2 h3 h4 hl
  exact lv_ldiv X.1 X.2.1 hd hne (k p e R s m args below meth c D aC A k0 n0 X H locs cells slots lsA hH hS h1 h2 h3 h4 hl)
theorem g_lrem {x y : Int64} (hd : decode M.2.1 pc = .ok (.lrem, 1)) (hne : ¬ y = 0) (k : G l M d bc bs post σ (pc + 1) ls (.long (x - x / y * y) :: rest)) : G l M d bc bs post σ pc ls (.long y :: .long x :: rest) := by
  intro p e R s m args below meth c D aC A k0 n0 X H locs cells slots lsA hH hS h1 h2 h3 h4 hl
  exact lv_lrem X.1 X.2.1 hd hne (k p e R s m args below meth c D aC A k0 n0 X H locs cells slots lsA hH hS h1 h2 h3 h4 hl)
theorem g_lneg {x : Int64} (hd : decode M.2.1 pc = .ok (.lneg, 1)) (k : G l M d bc bs post σ (pc + 1) ls (.long (-x) :: rest)) : G l M d bc bs post σ pc ls (.long x :: rest) := by
  intro p e R s m args below meth c D aC A k0 n0 X H locs cells slots lsA hH hS h1 h2 h3 h4 hl
  exact lv_lneg X.1 X.2.1 hd (k p e R s m args below meth c D aC A k0 n0 X H locs cells slots lsA hH hS h1 h2 h3 h4 hl)
def gShl (x : Int64) (y : Int32) : Int64 := x <<< (y.toInt64 &&& 63)
def gShr (x : Int64) (y : Int32) : Int64 := x >>> (y.toInt64 &&& 63)
def gUshr (x : Int64) (y : Int32) : Int64 := (x.toUInt64 >>> (y.toInt64.toUInt64 &&& Int64.toUInt64 63)).toInt64
theorem g_lshl {x : Int64} {y : Int32} (hd : decode M.2.1 pc = .ok (.lshl, 1)) (k : G l M d bc bs post σ (pc + 1) ls (.long (gShl x y) :: rest)) : G l M d bc bs post σ pc ls (.int y :: .long x :: rest) := by
  intro p e R s m args below meth c D aC A k0 n0 X H locs cells slots lsA hH hS h1 h2 h3 h4 hl
  exact lv_lshl X.1 X.2.1 hd rfl (k p e R s m args below meth c D aC A k0 n0 X H locs cells slots lsA hH hS h1 h2 h3 h4 hl)
theorem g_lshr {x : Int64} {y : Int32} (hd : decode M.2.1 pc = .ok (.lshr, 1)) (k : G l M d bc bs post σ (pc + 1) ls (.long (gShr x y) :: rest)) : G l M d bc bs post σ pc ls (.int y :: .long x :: rest) := by
  intro p e R s m args below meth c D aC A k0 n0 X H locs cells slots lsA hH hS h1 h2 h3 h4 hl
  exact lv_lshr X.1 X.2.1 hd rfl (k p e R s m args below meth c D aC A k0 n0 X H locs cells slots lsA hH hS h1 h2 h3 h4 hl)
theorem g_lushr {x : Int64} {y : Int32} (hd : decode M.2.1 pc = .ok (.lushr, 1)) (k : G l M d bc bs post σ (pc + 1) ls (.long (gUshr x y) :: rest)) : G l M d bc bs post σ pc ls (.int y :: .long x :: rest) := by
  intro p e R s m args below meth c D aC A k0 n0 X H locs cells slots lsA hH hS h1 h2 h3 h4 hl
  exact lv_lushr X.1 X.2.1 hd rfl (k p e R s m args below meth c D aC A k0 n0 X H locs cells slots lsA hH hS h1 h2 h3 h4 hl)
theorem g_lcmp {x y : Int64} (hd : decode M.2.1 pc = .ok (.lcmp, 1)) (k : G l M d bc bs post σ (pc + 1) ls (.int (lg_cmp x y) :: rest)) : G l M d bc bs post σ pc ls (.long y :: .long x :: rest) := by
  intro p e R s m args below meth c D aC A k0 n0 X H locs cells slots lsA hH hS h1 h2 h3 h4 hl
  exact W.lcmp X.1 X.2.1 hd (k p e R s m args below meth c D aC A k0 n0 X H locs cells slots lsA hH hS h1 h2 h3 h4 hl)
theorem g_i2l {x : Int32} (hd : decode M.2.1 pc = .ok (.i2l, 1)) (k : G l M d bc bs post σ (pc + 1) ls (.long x.toInt64 :: rest)) : G l M d bc bs post σ pc ls (.int x :: rest) := by
  intro p e R s m args below meth c D aC A k0 n0 X H locs cells slots lsA hH hS h1 h2 h3 h4 hl
  exact lv_i2l X.1 X.2.1 hd rfl (k p e R s m args below meth c D aC A k0 n0 X H locs cells slots lsA hH hS h1 h2 h3 h4 hl)
theorem g_l2i {x : Int64} (hd : decode M.2.1 pc = .ok (.l2i, 1)) (k : G l M d bc bs post σ (pc + 1) ls (.int x.toInt32 :: rest)) : G l M d bc bs post σ pc ls (.long x :: rest) := by
  intro p e R s m args below meth c D aC A k0 n0 X H locs cells slots lsA hH hS h1 h2 h3 h4 hl
  exact lv_l2i X.1 X.2.1 hd rfl (k p e R s m args below meth c D aC A k0 n0 X H locs cells slots lsA hH hS h1 h2 h3 h4 hl)
theorem g_i2b {x : Int32} (hd : decode M.2.1 pc = .ok (.i2b, 1)) (k : G l M d bc bs post σ (pc + 1) ls (.int x.toInt8.toInt32 :: rest)) : G l M d bc bs post σ pc ls (.int x :: rest) := by
  intro p e R s m args below meth c D aC A k0 n0 X H locs cells slots lsA hH hS h1 h2 h3 h4 hl
  exact lv_i2b X.1 X.2.1 hd rfl (k p e R s m args below meth c D aC A k0 n0 X H locs cells slots lsA hH hS h1 h2 h3 h4 hl)
theorem g_i2s {x : Int32} (hd : decode M.2.1 pc = .ok (.i2s, 1)) (k : G l M d bc bs post σ (pc + 1) ls (.int x.toInt16.toInt32 :: rest)) : G l M d bc bs post σ pc ls (.int x :: rest) := by
  intro p e R s m args below meth c D aC A k0 n0 X H locs cells slots lsA hH hS h1 h2 h3 h4 hl
  exact lv_i2s X.1 X.2.1 hd rfl (k p e R s m args below meth c D aC A k0 n0 X H locs cells slots lsA hH hS h1 h2 h3 h4 hl)
theorem g_iconst {n : Int} {v : Int32} (hd : decode M.2.1 pc = .ok (.iconst n, 1)) (hv : Int32.ofInt n = v) (k : G l M d bc bs post σ (pc + 1) ls (.int v :: rest)) : G l M d bc bs post σ pc ls (rest) := by
  intro p e R s m args below meth c D aC A k0 n0 X H locs cells slots lsA hH hS h1 h2 h3 h4 hl
  exact lv_iconst X.1 X.2.1 hd hv (k p e R s m args below meth c D aC A k0 n0 X H locs cells slots lsA hH hS h1 h2 h3 h4 hl)
theorem g_bipush {n : Int} {v : Int32} (hd : decode M.2.1 pc = .ok (.bipush n, 2)) (hv : (Int8.ofInt n).toInt32 = v) (k : G l M d bc bs post σ (pc + 2) ls (.int v :: rest)) : G l M d bc bs post σ pc ls (rest) := by
  intro p e R s m args below meth c D aC A k0 n0 X H locs cells slots lsA hH hS h1 h2 h3 h4 hl
  exact lv_bipush X.1 X.2.1 hd hv (k p e R s m args below meth c D aC A k0 n0 X H locs cells slots lsA hH hS h1 h2 h3 h4 hl)
theorem g_sipush {n : Int} {v : Int32} (hd : decode M.2.1 pc = .ok (.sipush n, 3)) (hv : (Int16.ofInt n).toInt32 = v) (k : G l M d bc bs post σ (pc + 3) ls (.int v :: rest)) : G l M d bc bs post σ pc ls (rest) := by
  intro p e R s m args below meth c D aC A k0 n0 X H locs cells slots lsA hH hS h1 h2 h3 h4 hl
  exact lv_sipush X.1 X.2.1 hd hv (k p e R s m args below meth c D aC A k0 n0 X H locs cells slots lsA hH hS h1 h2 h3 h4 hl)
theorem g_lconst {n : Fin 2} {v : Int64} (hd : decode M.2.1 pc = .ok (.lconst n, 1)) (hv : Int64.ofNat (n : Nat) = v) (k : G l M d bc bs post σ (pc + 1) ls (.long v :: rest)) : G l M d bc bs post σ pc ls (rest) := by
  intro p e R s m args below meth c D aC A k0 n0 X H locs cells slots lsA hH hS h1 h2 h3 h4 hl
  exact lv_lconst X.1 X.2.1 hd hv (k p e R s m args below meth c D aC A k0 n0 X H locs cells slots lsA hH hS h1 h2 h3 h4 hl)
theorem g_null (hd : decode M.2.1 pc = .ok (.aconst_null, 1)) (k : G l M d bc bs post σ (pc + 1) ls (.null :: rest)) : G l M d bc bs post σ pc ls (rest) := by
  intro p e R s m args below meth c D aC A k0 n0 X H locs cells slots lsA hH hS h1 h2 h3 h4 hl
  exact lv_null X.1 X.2.1 hd (k p e R s m args below meth c D aC A k0 n0 X H locs cells slots lsA hH hS h1 h2 h3 h4 hl)
theorem g_ldc2 {idx : Nat} {v : Int64} (hd : decode M.2.1 pc = .ok (.ldc2_w idx, 3)) (hc : Cond.constantLong M.1.cls idx v ∈ lw_g) (k : G l M d bc bs post σ (pc + 3) ls (.long v :: rest)) : G l M d bc bs post σ pc ls (rest) := by
  intro p e R s m args below meth c D aC A k0 n0 X H locs cells slots lsA hH hS h1 h2 h3 h4 hl
  exact lv_ldc2 X.1 X.2.1 X.2.2.2.1 (X.2.2.2.2.1 _ hc) hd (k p e R s m args below meth c D aC A k0 n0 X H locs cells slots lsA hH hS h1 h2 h3 h4 hl)
theorem g_dup {va : Value} (hd : decode M.2.1 pc = .ok (.dup, 1)) (h : va.category = 1) (k : G l M d bc bs post σ (pc + 1) ls (va :: va :: rest)) : G l M d bc bs post σ pc ls (va :: rest) := by
  intro p e R s m args below meth c D aC A k0 n0 X H locs cells slots lsA hH hS h1 h2 h3 h4 hl
  exact lv_dup X.1 X.2.1 hd h (k p e R s m args below meth c D aC A k0 n0 X H locs cells slots lsA hH hS h1 h2 h3 h4 hl)
theorem g_pop {va : Value} (hd : decode M.2.1 pc = .ok (.pop, 1)) (h : va.category = 1) (k : G l M d bc bs post σ (pc + 1) ls (rest)) : G l M d bc bs post σ pc ls (va :: rest) := by
  intro p e R s m args below meth c D aC A k0 n0 X H locs cells slots lsA hH hS h1 h2 h3 h4 hl
  exact lv_pop X.1 X.2.1 hd h (k p e R s m args below meth c D aC A k0 n0 X H locs cells slots lsA hH hS h1 h2 h3 h4 hl)
theorem g_dup2 {va vb : Value} (hd : decode M.2.1 pc = .ok (.dup2, 1)) (h : va.category = 1) (h' : vb.category = 1) (k : G l M d bc bs post σ (pc + 1) ls (va :: vb :: va :: vb :: rest)) : G l M d bc bs post σ pc ls (va :: vb :: rest) := by
  intro p e R s m args below meth c D aC A k0 n0 X H locs cells slots lsA hH hS h1 h2 h3 h4 hl
  exact lv_dup2_11 X.1 X.2.1 hd h h' (k p e R s m args below meth c D aC A k0 n0 X H locs cells slots lsA hH hS h1 h2 h3 h4 hl)
theorem g_iload_n {j : Fin 4} {i : Nat} {x : Int32} (hd : decode M.2.1 pc = .ok (.iload_n j, 1)) (hi : (j : Nat) = i) (hv : ls[i]? = some (some (.int x))) (k : G l M d bc bs post σ (pc + 1) ls (.int x :: rest)) : G l M d bc bs post σ pc ls (rest) := by
  intro p e R s m args below meth c D aC A k0 n0 X H locs cells slots lsA hH hS h1 h2 h3 h4 hl
  exact lv_iload_n X.1 X.2.1 hd hi (gLv_at hl hv) (k p e R s m args below meth c D aC A k0 n0 X H locs cells slots lsA hH hS h1 h2 h3 h4 hl)
theorem g_iload {i : Nat} {x : Int32} (hd : decode M.2.1 pc = .ok (.iload i, 2)) (hv : ls[i]? = some (some (.int x))) (k : G l M d bc bs post σ (pc + 2) ls (.int x :: rest)) : G l M d bc bs post σ pc ls (rest) := by
  intro p e R s m args below meth c D aC A k0 n0 X H locs cells slots lsA hH hS h1 h2 h3 h4 hl
  exact lv_iload X.1 X.2.1 hd (gLv_at hl hv) (k p e R s m args below meth c D aC A k0 n0 X H locs cells slots lsA hH hS h1 h2 h3 h4 hl)
theorem g_lload_n {j : Fin 4} {i : Nat} {x : Int64} (hd : decode M.2.1 pc = .ok (.lload_n j, 1)) (hi : (j : Nat) = i) (hv : ls[i]? = some (some (.long x))) (k : G l M d bc bs post σ (pc + 1) ls (.long x :: rest)) : G l M d bc bs post σ pc ls (rest) := by
  intro p e R s m args below meth c D aC A k0 n0 X H locs cells slots lsA hH hS h1 h2 h3 h4 hl
  exact lv_lload_n X.1 X.2.1 hd hi (gLv_at hl hv) (k p e R s m args below meth c D aC A k0 n0 X H locs cells slots lsA hH hS h1 h2 h3 h4 hl)
theorem g_lload {i : Nat} {x : Int64} (hd : decode M.2.1 pc = .ok (.lload i, 2)) (hv : ls[i]? = some (some (.long x))) (k : G l M d bc bs post σ (pc + 2) ls (.long x :: rest)) : G l M d bc bs post σ pc ls (rest) := by
  intro p e R s m args below meth c D aC A k0 n0 X H locs cells slots lsA hH hS h1 h2 h3 h4 hl
  exact lv_lload X.1 X.2.1 hd (gLv_at hl hv) (k p e R s m args below meth c D aC A k0 n0 X H locs cells slots lsA hH hS h1 h2 h3 h4 hl)
theorem g_aload_n {j : Fin 4} {i : Nat} {x : Nat} (hd : decode M.2.1 pc = .ok (.aload_n j, 1)) (hi : (j : Nat) = i) (hv : ls[i]? = some (some (.ref x))) (k : G l M d bc bs post σ (pc + 1) ls (.ref x :: rest)) : G l M d bc bs post σ pc ls (rest) := by
  intro p e R s m args below meth c D aC A k0 n0 X H locs cells slots lsA hH hS h1 h2 h3 h4 hl
  exact lv_aload_n X.1 X.2.1 hd hi (gLv_at hl hv) (k p e R s m args below meth c D aC A k0 n0 X H locs cells slots lsA hH hS h1 h2 h3 h4 hl)
theorem g_aload {i : Nat} {x : Nat} (hd : decode M.2.1 pc = .ok (.aload i, 2)) (hv : ls[i]? = some (some (.ref x))) (k : G l M d bc bs post σ (pc + 2) ls (.ref x :: rest)) : G l M d bc bs post σ pc ls (rest) := by
  intro p e R s m args below meth c D aC A k0 n0 X H locs cells slots lsA hH hS h1 h2 h3 h4 hl
  exact lv_aload X.1 X.2.1 hd (gLv_at hl hv) (k p e R s m args below meth c D aC A k0 n0 X H locs cells slots lsA hH hS h1 h2 h3 h4 hl)
theorem g_aload_nN {j : Fin 4} {i : Nat} (hd : decode M.2.1 pc = .ok (.aload_n j, 1)) (hi : (j : Nat) = i) (hv : ls[i]? = some (some .null)) (k : G l M d bc bs post σ (pc + 1) ls (.null :: rest)) : G l M d bc bs post σ pc ls (rest) := by
  intro p e R s m args below meth c D aC A k0 n0 X H locs cells slots lsA hH hS h1 h2 h3 h4 hl
  exact lv_aload_nN X.1 X.2.1 hd hi (gLv_at hl hv) (k p e R s m args below meth c D aC A k0 n0 X H locs cells slots lsA hH hS h1 h2 h3 h4 hl)
theorem g_aloadN {i : Nat} (hd : decode M.2.1 pc = .ok (.aload i, 2)) (hv : ls[i]? = some (some .null)) (k : G l M d bc bs post σ (pc + 2) ls (.null :: rest)) : G l M d bc bs post σ pc ls (rest) := by
  intro p e R s m args below meth c D aC A k0 n0 X H locs cells slots lsA hH hS h1 h2 h3 h4 hl
  exact lv_aloadN X.1 X.2.1 hd (gLv_at hl hv) (k p e R s m args below meth c D aC A k0 n0 X H locs cells slots lsA hH hS h1 h2 h3 h4 hl)
theorem g_istore_n {j : Fin 4} {i : Nat} {x : Int32} {ls' : List (Option Value)} (hd : decode M.2.1 pc = .ok (.istore_n j, 1)) (hi : (j : Nat) = i) (hn : i < M.2.2.1) (h2 : gN2 ls i = true) (hs : ls.set i (some (.int x)) = ls') (k : G l M d bc bs post σ (pc + 1) ls' rest) : G l M d bc bs post σ pc ls (.int x :: rest) := by
  intro p e R s m args below meth c D aC A k0 n0 X H locs cells slots lsA hH hS h1 h2' h3 h4 hl
  subst hs
  exact lv_istore_n X.1 X.2.1 hd hi hl hn rfl (fun lsA' hl' => k p e R s m args below meth c D aC A k0 n0 X H locs cells slots lsA' hH hS h1 h2' h3 h4  (gLv_set1 h2 hl'))
theorem g_istore {i : Nat} {x : Int32} {ls' : List (Option Value)} (hd : decode M.2.1 pc = .ok (.istore i, 2)) (hn : i < M.2.2.1) (h2 : gN2 ls i = true) (hs : ls.set i (some (.int x)) = ls') (k : G l M d bc bs post σ (pc + 2) ls' rest) : G l M d bc bs post σ pc ls (.int x :: rest) := by
  intro p e R s m args below meth c D aC A k0 n0 X H locs cells slots lsA hH hS h1 h2' h3 h4 hl
  subst hs
  exact lv_istore X.1 X.2.1 hd hl hn rfl (fun lsA' hl' => k p e R s m args below meth c D aC A k0 n0 X H locs cells slots lsA' hH hS h1 h2' h3 h4  (gLv_set1 h2 hl'))
theorem g_lstore_n {j : Fin 4} {i : Nat} {x : Int64} {ls' : List (Option Value)} (hd : decode M.2.1 pc = .ok (.lstore_n j, 1)) (hi : (j : Nat) = i) (hn : i + 1 < M.2.2.1) (h2 : gN2 ls i = true) (hs : (ls.set i (some (.long x))).set (i + 1) none = ls') (k : G l M d bc bs post σ (pc + 1) ls' rest) : G l M d bc bs post σ pc ls (.long x :: rest) := by
  intro p e R s m args below meth c D aC A k0 n0 X H locs cells slots lsA hH hS h1 h2' h3 h4 hl
  subst hs
  exact lv_lstore_n X.1 X.2.1 hd hi hl hn rfl (fun lsA' hl' => k p e R s m args below meth c D aC A k0 n0 X H locs cells slots lsA' hH hS h1 h2' h3 h4  (gLv_set2 h2 hl'))
theorem g_lstore {i : Nat} {x : Int64} {ls' : List (Option Value)} (hd : decode M.2.1 pc = .ok (.lstore i, 2)) (hn : i + 1 < M.2.2.1) (h2 : gN2 ls i = true) (hs : (ls.set i (some (.long x))).set (i + 1) none = ls') (k : G l M d bc bs post σ (pc + 2) ls' rest) : G l M d bc bs post σ pc ls (.long x :: rest) := by
  intro p e R s m args below meth c D aC A k0 n0 X H locs cells slots lsA hH hS h1 h2' h3 h4 hl
  subst hs
  exact lv_lstore X.1 X.2.1 hd hl hn rfl (fun lsA' hl' => k p e R s m args below meth c D aC A k0 n0 X H locs cells slots lsA' hH hS h1 h2' h3 h4  (gLv_set2 h2 hl'))
theorem g_astore_n {j : Fin 4} {i : Nat} {x : Nat} {ls' : List (Option Value)} (hd : decode M.2.1 pc = .ok (.astore_n j, 1)) (hi : (j : Nat) = i) (hn : i < M.2.2.1) (h2 : gN2 ls i = true) (hs : ls.set i (some (.ref x)) = ls') (k : G l M d bc bs post σ (pc + 1) ls' rest) : G l M d bc bs post σ pc ls (.ref x :: rest) := by
  intro p e R s m args below meth c D aC A k0 n0 X H locs cells slots lsA hH hS h1 h2' h3 h4 hl
  subst hs
  exact lv_astore_n X.1 X.2.1 hd hi hl hn rfl (fun lsA' hl' => k p e R s m args below meth c D aC A k0 n0 X H locs cells slots lsA' hH hS h1 h2' h3 h4  (gLv_set1 h2 hl'))
theorem g_astore {i : Nat} {x : Nat} {ls' : List (Option Value)} (hd : decode M.2.1 pc = .ok (.astore i, 2)) (hn : i < M.2.2.1) (h2 : gN2 ls i = true) (hs : ls.set i (some (.ref x)) = ls') (k : G l M d bc bs post σ (pc + 2) ls' rest) : G l M d bc bs post σ pc ls (.ref x :: rest) := by
  intro p e R s m args below meth c D aC A k0 n0 X H locs cells slots lsA hH hS h1 h2' h3 h4 hl
  subst hs
  exact lv_astore X.1 X.2.1 hd hl hn rfl (fun lsA' hl' => k p e R s m args below meth c D aC A k0 n0 X H locs cells slots lsA' hH hS h1 h2' h3 h4  (gLv_set1 h2 hl'))
theorem g_astore_nN {j : Fin 4} {i : Nat} {ls' : List (Option Value)} (hd : decode M.2.1 pc = .ok (.astore_n j, 1)) (hi : (j : Nat) = i) (hn : i < M.2.2.1) (h2 : gN2 ls i = true) (hs : ls.set i (some .null) = ls') (k : G l M d bc bs post σ (pc + 1) ls' rest) : G l M d bc bs post σ pc ls (.null :: rest) := by
  intro p e R s m args below meth c D aC A k0 n0 X H locs cells slots lsA hH hS h1 h2' h3 h4 hl
  subst hs
  exact lv_astore_nN X.1 X.2.1 hd hi hl hn rfl (fun lsA' hl' => k p e R s m args below meth c D aC A k0 n0 X H locs cells slots lsA' hH hS h1 h2' h3 h4  (gLv_set1 h2 hl'))
theorem g_astoreN {i : Nat} {ls' : List (Option Value)} (hd : decode M.2.1 pc = .ok (.astore i, 2)) (hn : i < M.2.2.1) (h2 : gN2 ls i = true) (hs : ls.set i (some .null) = ls') (k : G l M d bc bs post σ (pc + 2) ls' rest) : G l M d bc bs post σ pc ls (.null :: rest) := by
  intro p e R s m args below meth c D aC A k0 n0 X H locs cells slots lsA hH hS h1 h2' h3 h4 hl
  subst hs
  exact lv_astoreN X.1 X.2.1 hd hl hn rfl (fun lsA' hl' => k p e R s m args below meth c D aC A k0 n0 X H locs cells slots lsA' hH hS h1 h2' h3 h4  (gLv_set1 h2 hl'))
theorem g_iinc {i : Nat} {n : Int} {x v : Int32} {ls' : List (Option Value)} (hd : decode M.2.1 pc = .ok (.iinc i n, 3)) (hv : ls[i]? = some (some (.int x))) (hx : x + Int32.ofInt n = v) (hn : i < M.2.2.1) (h2 : gN2 ls i = true) (hs : ls.set i (some (.int v)) = ls') (k : G l M d bc bs post σ (pc + 3) ls' rest) : G l M d bc bs post σ pc ls rest := by
  intro p e R s m args below meth c D aC A k0 n0 X H locs cells slots lsA hH hS h1 h2' h3 h4 hl
  subst hs
  obtain ⟨q, hq⟩ := List.getElem?_of_mem ((gLv_mem ls 0 i (.int x)).mpr ⟨Nat.zero_le _, by simpa using hv⟩)
  exact lv_iinc X.1 X.2.1 hd hl hq hx hn rfl (fun lsA' hl' => k p e R s m args below meth c D aC A k0 n0 X H locs cells slots lsA' hH hS h1 h2' h3 h4  (gLv_set1 h2 hl'))
theorem g_if_eq {x : Int32} {off : Int} {tgt : Nat} (hd : decode M.2.1 pc = .ok (.ifCond .eq off, 3)) (ht : (pc : Int) + off = (tgt : Int)) (kt : x = 0 → G l M d bc bs post σ tgt ls rest) (kf : ¬ x = 0 → G l M d bc bs post σ (pc + 3) ls rest) : G l M d bc bs post σ pc ls (.int x :: rest) := by
  intro p e R s m args below meth c D aC A k0 n0 X H locs cells slots lsA hH hS h1 h2 h3 h4 hl
  exact lv_if_eq X.1 X.2.1 hd ht (fun q => kt q p e R s m args below meth c D aC A k0 n0 X H locs cells slots lsA hH hS h1 h2 h3 h4 hl) (fun q => kf q p e R s m args below meth c D aC A k0 n0 X H locs cells slots lsA hH hS h1 h2 h3 h4 hl)
theorem g_icmp_eq {x y : Int32} {off : Int} {tgt : Nat} (hd : decode M.2.1 pc = .ok (.if_icmp .eq off, 3)) (ht : (pc : Int) + off = (tgt : Int)) (kt : x = y → G l M d bc bs post σ tgt ls rest) (kf : ¬ x = y → G l M d bc bs post σ (pc + 3) ls rest) : G l M d bc bs post σ pc ls (.int y :: .int x :: rest) := by
  intro p e R s m args below meth c D aC A k0 n0 X H locs cells slots lsA hH hS h1 h2 h3 h4 hl
  exact lv_icmp_eq X.1 X.2.1 hd ht (fun q => kt q p e R s m args below meth c D aC A k0 n0 X H locs cells slots lsA hH hS h1 h2 h3 h4 hl) (fun q => kf q p e R s m args below meth c D aC A k0 n0 X H locs cells slots lsA hH hS h1 h2 h3 h4 hl)
theorem g_if_ne {x : Int32} {off : Int} {tgt : Nat} (hd : decode M.2.1 pc = .ok (.ifCond .ne off, 3)) (ht : (pc : Int) + off = (tgt : Int)) (kt : ¬ x = 0 → G l M d bc bs post σ tgt ls rest) (kf : x = 0 → G l M d bc bs post σ (pc + 3) ls rest) : G l M d bc bs post σ pc ls (.int x :: rest) := by
  intro p e R s m args below meth c D aC A k0 n0 X H locs cells slots lsA hH hS h1 h2 h3 h4 hl
  exact lv_if_ne X.1 X.2.1 hd ht (fun q => kt q p e R s m args below meth c D aC A k0 n0 X H locs cells slots lsA hH hS h1 h2 h3 h4 hl) (fun q => kf q p e R s m args below meth c D aC A k0 n0 X H locs cells slots lsA hH hS h1 h2 h3 h4 hl)
theorem g_icmp_ne {x y : Int32} {off : Int} {tgt : Nat} (hd : decode M.2.1 pc = .ok (.if_icmp .ne off, 3)) (ht : (pc : Int) + off = (tgt : Int)) (kt : ¬ x = y → G l M d bc bs post σ tgt ls rest) (kf : x = y → G l M d bc bs post σ (pc + 3) ls rest) : G l M d bc bs post σ pc ls (.int y :: .int x :: rest) := by
  intro p e R s m args below meth c D aC A k0 n0 X H locs cells slots lsA hH hS h1 h2 h3 h4 hl
  exact lv_icmp_ne X.1 X.2.1 hd ht (fun q => kt q p e R s m args below meth c D aC A k0 n0 X H locs cells slots lsA hH hS h1 h2 h3 h4 hl) (fun q => kf q p e R s m args below meth c D aC A k0 n0 X H locs cells slots lsA hH hS h1 h2 h3 h4 hl)
theorem g_if_lt {x : Int32} {off : Int} {tgt : Nat} (hd : decode M.2.1 pc = .ok (.ifCond .lt off, 3)) (ht : (pc : Int) + off = (tgt : Int)) (kt : x < 0 → G l M d bc bs post σ tgt ls rest) (kf : ¬ x < 0 → G l M d bc bs post σ (pc + 3) ls rest) : G l M d bc bs post σ pc ls (.int x :: rest) := by
  intro p e R s m args below meth c D aC A k0 n0 X H locs cells slots lsA hH hS h1 h2 h3 h4 hl
  exact lv_if_lt X.1 X.2.1 hd ht (fun q => kt q p e R s m args below meth c D aC A k0 n0 X H locs cells slots lsA hH hS h1 h2 h3 h4 hl) (fun q => kf q p e R s m args below meth c D aC A k0 n0 X H locs cells slots lsA hH hS h1 h2 h3 h4 hl)
theorem g_icmp_lt {x y : Int32} {off : Int} {tgt : Nat} (hd : decode M.2.1 pc = .ok (.if_icmp .lt off, 3)) (ht : (pc : Int) + off = (tgt : Int)) (kt : x < y → G l M d bc bs post σ tgt ls rest) (kf : ¬ x < y → G l M d bc bs post σ (pc + 3) ls rest) : G l M d bc bs post σ pc ls (.int y :: .int x :: rest) := by
  intro p e R s m args below meth c D aC A k0 n0 X H locs cells slots lsA hH hS h1 h2 h3 h4 hl
  exact lv_icmp_lt X.1 X.2.1 hd ht (fun q => kt q p e R s m args below meth c D aC A k0 n0 X H locs cells slots lsA hH hS h1 h2 h3 h4 hl) (fun q => kf q p e R s m args below meth c D aC A k0 n0 X H locs cells slots lsA hH hS h1 h2 h3 h4 hl)
theorem g_if_ge {x : Int32} {off : Int} {tgt : Nat} (hd : decode M.2.1 pc = .ok (.ifCond .ge off, 3)) (ht : (pc : Int) + off = (tgt : Int)) (kt : 0 ≤ x → G l M d bc bs post σ tgt ls rest) (kf : ¬ 0 ≤ x → G l M d bc bs post σ (pc + 3) ls rest) : G l M d bc bs post σ pc ls (.int x :: rest) := by
  intro p e R s m args below meth c D aC A k0 n0 X H locs cells slots lsA hH hS h1 h2 h3 h4 hl
  exact lv_if_ge X.1 X.2.1 hd ht (fun q => kt q p e R s m args below meth c D aC A k0 n0 X H locs cells slots lsA hH hS h1 h2 h3 h4 hl) (fun q => kf q p e R s m args below meth c D aC A k0 n0 X H locs cells slots lsA hH hS h1 h2 h3 h4 hl)
theorem g_icmp_ge {x y : Int32} {off : Int} {tgt : Nat} (hd : decode M.2.1 pc = .ok (.if_icmp .ge off, 3)) (ht : (pc : Int) + off = (tgt : Int)) (kt : y ≤ x → G l M d bc bs post σ tgt ls rest) (kf : ¬ y ≤ x → G l M d bc bs post σ (pc + 3) ls rest) : G l M d bc bs post σ pc ls (.int y :: .int x :: rest) := by
  intro p e R s m args below meth c D aC A k0 n0 X H locs cells slots lsA hH hS h1 h2 h3 h4 hl
  exact lv_icmp_ge X.1 X.2.1 hd ht (fun q => kt q p e R s m args below meth c D aC A k0 n0 X H locs cells slots lsA hH hS h1 h2 h3 h4 hl) (fun q => kf q p e R s m args below meth c D aC A k0 n0 X H locs cells slots lsA hH hS h1 h2 h3 h4 hl)
theorem g_if_gt {x : Int32} {off : Int} {tgt : Nat} (hd : decode M.2.1 pc = .ok (.ifCond .gt off, 3)) (ht : (pc : Int) + off = (tgt : Int)) (kt : 0 < x → G l M d bc bs post σ tgt ls rest) (kf : ¬ 0 < x → G l M d bc bs post σ (pc + 3) ls rest) : G l M d bc bs post σ pc ls (.int x :: rest) := by
  intro p e R s m args below meth c D aC A k0 n0 X H locs cells slots lsA hH hS h1 h2 h3 h4 hl
  exact lv_if_gt X.1 X.2.1 hd ht (fun q => kt q p e R s m args below meth c D aC A k0 n0 X H locs cells slots lsA hH hS h1 h2 h3 h4 hl) (fun q => kf q p e R s m args below meth c D aC A k0 n0 X H locs cells slots lsA hH hS h1 h2 h3 h4 hl)
theorem g_icmp_gt {x y : Int32} {off : Int} {tgt : Nat} (hd : decode M.2.1 pc = .ok (.if_icmp .gt off, 3)) (ht : (pc : Int) + off = (tgt : Int)) (kt : y < x → G l M d bc bs post σ tgt ls rest) (kf : ¬ y < x → G l M d bc bs post σ (pc + 3) ls rest) : G l M d bc bs post σ pc ls (.int y :: .int x :: rest) := by
  intro p e R s m args below meth c D aC A k0 n0 X H locs cells slots lsA hH hS h1 h2 h3 h4 hl
  exact lv_icmp_gt X.1 X.2.1 hd ht (fun q => kt q p e R s m args below meth c D aC A k0 n0 X H locs cells slots lsA hH hS h1 h2 h3 h4 hl) (fun q => kf q p e R s m args below meth c D aC A k0 n0 X H locs cells slots lsA hH hS h1 h2 h3 h4 hl)
theorem g_if_le {x : Int32} {off : Int} {tgt : Nat} (hd : decode M.2.1 pc = .ok (.ifCond .le off, 3)) (ht : (pc : Int) + off = (tgt : Int)) (kt : x ≤ 0 → G l M d bc bs post σ tgt ls rest) (kf : ¬ x ≤ 0 → G l M d bc bs post σ (pc + 3) ls rest) : G l M d bc bs post σ pc ls (.int x :: rest) := by
  intro p e R s m args below meth c D aC A k0 n0 X H locs cells slots lsA hH hS h1 h2 h3 h4 hl
  exact lv_if_le X.1 X.2.1 hd ht (fun q => kt q p e R s m args below meth c D aC A k0 n0 X H locs cells slots lsA hH hS h1 h2 h3 h4 hl) (fun q => kf q p e R s m args below meth c D aC A k0 n0 X H locs cells slots lsA hH hS h1 h2 h3 h4 hl)
theorem g_icmp_le {x y : Int32} {off : Int} {tgt : Nat} (hd : decode M.2.1 pc = .ok (.if_icmp .le off, 3)) (ht : (pc : Int) + off = (tgt : Int)) (kt : x ≤ y → G l M d bc bs post σ tgt ls rest) (kf : ¬ x ≤ y → G l M d bc bs post σ (pc + 3) ls rest) : G l M d bc bs post σ pc ls (.int y :: .int x :: rest) := by
  intro p e R s m args below meth c D aC A k0 n0 X H locs cells slots lsA hH hS h1 h2 h3 h4 hl
  exact lv_icmp_le X.1 X.2.1 hd ht (fun q => kt q p e R s m args below meth c D aC A k0 n0 X H locs cells slots lsA hH hS h1 h2 h3 h4 hl) (fun q => kf q p e R s m args below meth c D aC A k0 n0 X H locs cells slots lsA hH hS h1 h2 h3 h4 hl)
theorem g_goto {off : Int} {tgt : Nat} (hd : decode M.2.1 pc = .ok (.goto off, 3)) (ht : (pc : Int) + off = (tgt : Int)) (k : G l M d bc bs post σ tgt ls rest) : G l M d bc bs post σ pc ls rest := by
  intro p e R s m args below meth c D aC A k0 n0 X H locs cells slots lsA hH hS h1 h2 h3 h4 hl
  exact lv_goto X.1 X.2.1 hd ht (k p e R s m args below meth c D aC A k0 n0 X H locs cells slots lsA hH hS h1 h2 h3 h4 hl)
theorem g_ifnull {x : Nat} {off : Int} (hd : decode M.2.1 pc = .ok (.ifnull off, 3)) (k : G l M d bc bs post σ (pc + 3) ls rest) : G l M d bc bs post σ pc ls (.ref x :: rest) := by
  intro p e R s m args below meth c D aC A k0 n0 X H locs cells slots lsA hH hS h1 h2 h3 h4 hl
  exact lv_ifnull X.1 X.2.1 hd (k p e R s m args below meth c D aC A k0 n0 X H locs cells slots lsA hH hS h1 h2 h3 h4 hl)
theorem g_ifnullN {off : Int} {tgt : Nat} (hd : decode M.2.1 pc = .ok (.ifnull off, 3)) (ht : (pc : Int) + off = (tgt : Int)) (k : G l M d bc bs post σ tgt ls rest) : G l M d bc bs post σ pc ls (.null :: rest) := by
  intro p e R s m args below meth c D aC A k0 n0 X H locs cells slots lsA hH hS h1 h2 h3 h4 hl
  exact lv_ifnullN X.1 X.2.1 hd ht (k p e R s m args below meth c D aC A k0 n0 X H locs cells slots lsA hH hS h1 h2 h3 h4 hl)
theorem g_ifnonnull {x : Nat} {off : Int} {tgt : Nat} (hd : decode M.2.1 pc = .ok (.ifnonnull off, 3)) (ht : (pc : Int) + off = (tgt : Int)) (k : G l M d bc bs post σ tgt ls rest) : G l M d bc bs post σ pc ls (.ref x :: rest) := by
  intro p e R s m args below meth c D aC A k0 n0 X H locs cells slots lsA hH hS h1 h2 h3 h4 hl
  exact lv_ifnonnull X.1 X.2.1 hd ht (k p e R s m args below meth c D aC A k0 n0 X H locs cells slots lsA hH hS h1 h2 h3 h4 hl)
theorem g_ifnonnullN {off : Int} (hd : decode M.2.1 pc = .ok (.ifnonnull off, 3)) (k : G l M d bc bs post σ (pc + 3) ls rest) : G l M d bc bs post σ pc ls (.null :: rest) := by
  intro p e R s m args below meth c D aC A k0 n0 X H locs cells slots lsA hH hS h1 h2 h3 h4 hl
  exact lv_ifnonnullN X.1 X.2.1 hd (k p e R s m args below meth c D aC A k0 n0 X H locs cells slots lsA hH hS h1 h2 h3 h4 hl)
theorem g_tableIn {dflt lo hi : Int} {offs : Array Int} {len : Nat} {x : Int32} {off : Int} {tgt : Nat} (hd : decode M.2.1 pc = .ok (.tableswitch dflt lo hi offs, len)) (q1 : ¬ x.toInt < lo) (q2 : ¬ hi < x.toInt) (ho : offs[(x.toInt - lo).toNat]? = some off) (ht : (pc : Int) + off = (tgt : Int)) (k : G l M d bc bs post σ tgt ls rest) : G l M d bc bs post σ pc ls (.int x :: rest) := by
  intro p e R s m args below meth c D aC A k0 n0 X H locs cells slots lsA hH hS h1 h2 h3 h4 hl
  exact lv_tableIn X.1 X.2.1 hd q1 q2 ho ht (k p e R s m args below meth c D aC A k0 n0 X H locs cells slots lsA hH hS h1 h2 h3 h4 hl)
theorem g_tableOut {dflt lo hi : Int} {offs : Array Int} {len : Nat} {x : Int32} {tgt : Nat} (hd : decode M.2.1 pc = .ok (.tableswitch dflt lo hi offs, len)) (q : x.toInt < lo ∨ hi < x.toInt) (ht : (pc : Int) + dflt = (tgt : Int)) (k : G l M d bc bs post σ tgt ls rest) : G l M d bc bs post σ pc ls (.int x :: rest) := by
  intro p e R s m args below meth c D aC A k0 n0 X H locs cells slots lsA hH hS h1 h2 h3 h4 hl
  exact lv_tableOut X.1 X.2.1 hd q ht (k p e R s m args below meth c D aC A k0 n0 X H locs cells slots lsA hH hS h1 h2 h3 h4 hl)
theorem g_cs {st st' : List Value} (e : st = st') (k : G l M d bc bs post σ pc ls st') : G l M d bc bs post σ pc ls st := e ▸ k
theorem g_cl {st : List Value} {ls' : List (Option Value)} (e : ls = ls') (k : G l M d bc bs post σ pc ls' st) : G l M d bc bs post σ pc ls st := e ▸ k
theorem g_ch {st : List Value} {σ' : gH} (e : σ = σ') (k : G l M d bc bs post σ' pc ls st) : G l M d bc bs post σ pc ls st := e ▸ k
theorem g_topi {x : Int32} (k : ∀ y : Int32, y = x → G l M d bc bs post σ pc ls (.int y :: rest)) : G l M d bc bs post σ pc ls (.int x :: rest) := k x rfl
theorem g_topl {x : Int64} (k : ∀ y : Int64, y = x → G l M d bc bs post σ pc ls (.long y :: rest)) : G l M d bc bs post σ pc ls (.long x :: rest) := k x rfl
theorem g_toi {x : Int32} (y : Int32) (e : x = y) (k : G l M d bc bs post σ pc ls (.int y :: rest)) : G l M d bc bs post σ pc ls (.int x :: rest) := e ▸ k
theorem g_tol {x : Int64} (y : Int64) (e : x = y) (k : G l M d bc bs post σ pc ls (.long y :: rest)) : G l M d bc bs post σ pc ls (.long x :: rest) := e ▸ k
theorem g_mono {post' : Option Value → gH → Prop} {st : List Value} (h : ∀ v σ, post' v σ → post v σ) (k : G l M d bc bs post' σ pc ls st) : G l M d bc bs post σ pc ls st := by
  intro p e R s m args below meth c D aC A k0 n0 X H locs cells slots lsA hH hS h1 h2 h3 h4 hl
  intro T hT Xs
  obtain ⟨t, a1, o, b1, b2, ⟨⟨v, σ1, c1, c2, c3⟩, c4⟩, b4⟩ := k p e R s m args below meth c D aC A k0 n0 X H locs cells slots lsA hH hS h1 h2 h3 h4 hl T hT Xs
  exact ⟨t, a1, o, b1, b2, ⟨⟨v, σ1, c1, h v σ1 c2, c3⟩, c4⟩, b4⟩
theorem g_ret0 {p : Program} {e : Env} {R : Room} {s : State} {m : MethodId} {args : Array Value} {below : List Frame} {meth : Method} {c : Code} {D : va_G} {aC : FieldType → ClassId} {A : Nat → Prop} {H : Heap} {locs : List Loc} {v : Option Value} (hH : gHold D aC σ A H) (hS : va_S A s.heap H locs) (hp : post v σ) : ∀ t : State, t.heap = H → s.WarmedH t.vm → gQ D aC A post args s (.returned v) t := fun t ht _ => ⟨⟨v, σ, rfl, hp, by rw [ht]; exact hH⟩, hS.F ht⟩
theorem g_iret {x : Int32} (hd : decode M.2.1 pc = .ok (.ireturn, 1)) (hr : M.2.2.2 = some .int) (hp : post (some (.int x)) σ) : G l M d bc bs post σ pc ls [.int x] := by
  intro p e R s m args below meth c D aC A k0 n0 X H locs cells slots lsA hH hS h1 h2 h3 h4 hl
  refine W.widen (k := k0) (n := n0) (by omega) (by omega) ?_
  exact W.iret X.1 X.2.1 (X.2.2.2.2.2.1.trans hr) (g_ret0 (p := p) (e := e) (R := R) (m := m) (below := below) (meth := meth) (c := c) hH hS hp) hS.2.2 hd X.2.2.2.2.2.2.1
theorem g_lret {x : Int64} (hd : decode M.2.1 pc = .ok (.lreturn, 1)) (hr : M.2.2.2 = some .long) (hp : post (some (.long x)) σ) : G l M d bc bs post σ pc ls [.long x] := by
  intro p e R s m args below meth c D aC A k0 n0 X H locs cells slots lsA hH hS h1 h2 h3 h4 hl
  refine W.widen (k := k0) (n := n0) (by omega) (by omega) ?_
  exact W.lret X.1 X.2.1 (X.2.2.2.2.2.1.trans hr) (g_ret0 (p := p) (e := e) (R := R) (m := m) (below := below) (meth := meth) (c := c) hH hS hp) hS.2.2 hd X.2.2.2.2.2.2.1
theorem g_vret (hd : decode M.2.1 pc = .ok (.return_, 1)) (hr : M.2.2.2 = none) (hp : post (none) σ) : G l M d bc bs post σ pc ls [] := by
  intro p e R s m args below meth c D aC A k0 n0 X H locs cells slots lsA hH hS h1 h2 h3 h4 hl
  refine W.widen (k := k0) (n := n0) (by omega) (by omega) ?_
  exact W.vret X.1 X.2.1 (X.2.2.2.2.2.1.trans hr) (g_ret0 (p := p) (e := e) (R := R) (m := m) (below := below) (meth := meth) (c := c) hH hS hp) hS.2.2 hd X.2.2.2.2.2.2.1
theorem g_zret {x : Int32} (hd : decode M.2.1 pc = .ok (.ireturn, 1)) (hr : M.2.2.2 = some .boolean) (hx : narrow .boolean (.int x) = .int x) (hp : post (some (.int x)) σ) : G l M d bc bs post σ pc ls [.int x] := by
  intro p e R s m args below meth c D aC A k0 n0 X H locs cells slots lsA hH hS h1 h2 h3 h4 hl
  refine W.widen (k := k0) (n := n0) (by omega) (by omega) ?_
  exact W.zret X.1 X.2.1 (X.2.2.2.2.2.1.trans hr) hx (g_ret0 (p := p) (e := e) (R := R) (m := m) (below := below) (meth := meth) (c := c) hH hS hp) hS.2.2 hd X.2.2.2.2.2.2.1
theorem g_aret {r : Option Nat} {C : String} (hd : decode M.2.1 pc = .ok (.areturn, 1)) (hr : M.2.2.2 = some (.object C)) (hp : post (some (va_rf r)) σ) : G l M d bc bs post σ pc ls [va_rf r] := by
  intro p e R s m args below meth c D aC A k0 n0 X H locs cells slots lsA hH hS h1 h2 h3 h4 hl
  refine W.widen (k := k0) (n := n0) (by omega) (by omega) ?_
  exact W.aret X.1 X.2.1 (X.2.2.2.2.2.1.trans hr) (Or.inl ⟨_, rfl⟩) (va_rf_or r) (g_ret0 (p := p) (e := e) (R := R) (m := m) (below := below) (meth := meth) (c := c) hH hS hp) hS.2.2 hd X.2.2.2.2.2.2.1
end GR
end
section
/-! G: fields, arrays, making, calls -/
theorem gHold.set {D : va_G} {aC : FieldType → ClassId} {σ : gH} {A : Nat → Prop} {H H1 : Heap} {a : Nat} {c : gC} (h : gHold D aC σ A H) (ha : A a) (h1 : va_at D gcl (a, gE aC c) H1) (ho : ∀ q, q ≠ a → H1[q]? = H[q]?) : gHold D aC (su σ a c) A H1 := by
  intro b x hb
  by_cases e : b = a
  · subst e
    rw [su_self] at hb
    cases hb
    exact ⟨h1, ha⟩
  · rw [su_ne _ _ e] at hb
    exact ⟨(h b x hb).1.kept (ho b e), (h b x hb).2⟩
theorem gP1 {D : va_G} {a : Nat} {x : va_E} {H : Heap} (h : va_at D gcl (a, x) H) : va_P D gcl [(a, x)] H := by
  intro k q hk
  match k, hk with
  | 0, hk => cases hk; exact h
  | k + 1, hk => simp at hk
theorem gHold.fresh {D : va_G} {aC : FieldType → ClassId} {σ : gH} {A : Nat → Prop} {H : Heap} (h : gHold D aC σ A H) {q : Nat} (hq : H.size ≤ q) : σ q = none := by
  cases e : σ q with
  | none => rfl
  | some c =>
    have := (h q c e).1.lt
    exact absurd this (Nat.not_lt.mpr hq)
def gFl (own : String) (idx ci k : Nat) : Prop := ∃ (C : String) (T : u_T) (N : Nat) (ty0 : Nat → FieldType), gcl[ci]? = some (C, T, N) ∧ k < N ∧ (∀ w ∈ u_ws C T N, w ∈ lw_g) ∧ (∀ k, k < N → parseFieldDescriptor (T k).2.2.1 = some (ty0 k)) ∧ (∀ a, a < N → ∀ b, b < N → a ≠ b → (T a).2.1 ≠ (T b).2.1) ∧ (T k).1 = C ∧ ((Cond.fieldLink own idx C (T k).2.1 (T k).2.2.1 ∈ lw_g) ∨ ∃ host, gNk (Cond.fieldLinkNest own idx C (T k).2.1 (T k).2.2.1 host))
def gFp (ci k : Nat) (ty : FieldType) (fin : Bool) : Prop := ∃ (C : String) (T : u_T) (N : Nat), gcl[ci]? = some (C, T, N) ∧ (T k).2.2.2 = fin ∧ parseFieldDescriptor (T k).2.2.1 = some ty
def gNw (own : String) (idx ci N : Nat) (fs : List Value) : Prop := ∃ (C : String) (T : u_T) (ty : Nat → FieldType), gcl[ci]? = some (C, T, N) ∧ (∀ w ∈ u_ws C T N, w ∈ lw_g) ∧ (∀ k, k < N → parseFieldDescriptor (T k).2.2.1 = some (ty k)) ∧ Cond.classLink own idx C ∈ lw_g ∧ Cond.instantiable C N ∈ lw_g ∧ Cond.initialized C ∈ lw_g ∧ (∀ j, j < N → defaultValue (ty j) = vp_V fs j)
section GH
variable {l : Launch} {M : gM} {d bc bs : Nat} {post : Option Value → gH → Prop} {σ : gH} {pc : Nat} {ls : List (Option Value)} {rest : List Value}
theorem g_getf {idx ci k a : Nat} {fs : List Value} {v : Value} (hd : decode M.2.1 pc = .ok (.getfield idx, 3)) (hf : gFl M.1.cls idx ci k) (ha : σ a = some (.inr (ci, fs))) (hv : fs[k]? = some v) (kk : G l M d bc bs post σ (pc + 3) ls (v :: rest)) : G l M d bc bs post σ pc ls (.ref a :: rest) := by
  intro p e R s m args below meth c D aC A k0 n0 X H locs cells slots lsA hH hS h1 h2 h3 h4 hl
  obtain ⟨C, T, N, ty0, hc, hk, hin, -, -, hT, hlk⟩ := hf
  have hts := X.2.2.2.2.1
  have hK := X.2.2.2.2.2.2.2.2.1
  have hP := gP1 (hH a _ ha).1
  rcases hlk with hlk | ⟨host, hlk⟩
  · exact va_get X.1 X.2.1 hts hin X.2.2.2.1 hK hP 0 (fs := fs) rfl hc k hk (hts _ hlk) (fun x h => by rw [hT] at h; exact h) hv hd (kk p e R s m args below meth c D aC A k0 n0 X H locs cells slots lsA hH hS h1 h2 h3 h4 hl)
  · exact va_getN X.1 X.2.1 hts hin X.2.2.2.1 hK hP 0 (fs := fs) rfl hc k hk (va_Nw.use hlk.1 (hlk.2 _ X.2.2.2.2.2.2.2.2.2.2.2.2.2)) (fun x h => by rw [hT] at h; exact h) hv hd (kk p e R s m args below meth c D aC A k0 n0 X H locs cells slots lsA hH hS h1 h2 h3 h4 hl)
theorem g_putf {idx ci k a : Nat} {fs fs' : List Value} {v : Value} {ty : FieldType} (hd : decode M.2.1 pc = .ok (.putfield idx, 3)) (hf : gFl M.1.cls idx ci k) (hp : gFp ci k ty false) (ha : σ a = some (.inr (ci, fs))) (hn : narrow ty v = v) (hfit : fits ty v = true) (hlen : k < fs.length) (hs : fs.set k v = fs') (kk : G l M d bc bs post (su σ a (.inr (ci, fs'))) (pc + 3) ls rest) : G l M d bc bs post σ pc ls (v :: .ref a :: rest) := by
  intro p e R s m args below meth c D aC A k0 n0 X H locs cells slots lsA hH hS h1 h2 h3 h4 hl
  subst hs
  obtain ⟨C, T, N, ty0, hc, hk, hin, hty, hnm, hT, hlk⟩ := hf
  obtain ⟨C', T', N', hc', hfin, hdd⟩ := hp
  cases hc.symm.trans hc'
  have hts := X.2.2.2.2.1
  have hK := X.2.2.2.2.2.2.2.2.1
  have hap := va_apart (own := M.1.cls) hts hin ty0 hty hnm hK hc
  obtain ⟨r, g1, cell, q1, q2, q3, q4⟩ := (hH a _ ha).1
  have hr : r = (C, T, N) := Option.some.inj (g1.symm.trans hc)
  subst hr
  obtain ⟨hSl, hfc, kC, hkC, hkind⟩ := hK.1 ci _ hc
  obtain ⟨cf, kf, fi, f, hi, hsl⟩ := hSl k hk
  have hlay := hts _ (hin _ (u_in_lay hk))
  unfold u_lay at hlay
  rw [if_neg (by rw [hfin]; decide)] at hlay
  have hst := (u_facts hfc hkC (u_lays hts hin hk) hi).1
  have h6 := u_store hfc hkC hkind hlay hi hdd hn hfit
  have fin : ∀ H' : Heap, H'[a]? = some (cell.setSlot f.slot v) → H'.size = H.size → (∀ q, q ≠ a → H'[q]? = H[q]?) → W p l e R s m args below meth c H' (locs ++ [⟨a, f.slot⟩]) cells slots (MQ below (gQ D aC A post) args s k0 n0 A) (F0 m (pc + 3) lsA rest) := by
    intro H' e1 e2 e3
    rw [hsl] at e1 ⊢
    exact kk p e R s m args below meth c D aC A k0 n0 X H' _ cells slots lsA (hH.set (hH a _ ha).2 ⟨_, hc, t_OB.to (V := updV (vp_V fs) k v) ⟨_, e1, q2, q3, t_set q4 hap hk v⟩ (fun j _ => vp_updV_set hlen v j)⟩ e3) (hS.put e2 e3 (hH a _ ha).2) h1 h2 h3 h4 hl
  rcases hlk with hlk | ⟨host, hlk⟩
  · exact W.putK X.1 X.2.1 (f := f) ⟨X.2.2.2.1, hts _ hlk, ⟨_, _, _, by rw [hT] at hi; exact hi⟩, hst⟩ (by rw [q2]; exact h6) q1 q3 (by rw [hsl]; exact k2_hasslot (q4 k hk)) rfl rfl hd fin
  · exact va_WputK X.1 X.2.1 (f := f) X.2.2.2.1 (va_Nw.use hlk.1 (hlk.2 _ X.2.2.2.2.2.2.2.2.2.2.2.2.2)) (by rw [hT] at hi; exact hi) hst (by rw [q2]; exact h6) q1 q3 (by rw [hsl]; exact k2_hasslot (q4 k hk)) rfl rfl hd fin
theorem g_putF {idx ci k a : Nat} {fs fs' : List Value} {v : Value} {ty : FieldType} (hd : decode M.2.1 pc = .ok (.putfield idx, 3)) (hf : gFl M.1.cls idx ci k) (hp : gFp ci k ty true) (hin1 : M.1.name = "<init>") (hown : (gcl[ci]?).map (fun q => q.1) = some M.1.cls) (ha : σ a = some (.inr (ci, fs))) (hn : narrow ty v = v) (hfit : fits ty v = true) (hlen : k < fs.length) (hs : fs.set k v = fs') (hlk : ∃ C T N, gcl[ci]? = some (C, T, N) ∧ Cond.fieldLink M.1.cls idx C (T k).2.1 (T k).2.2.1 ∈ lw_g) (kk : G l M d bc bs post (su σ a (.inr (ci, fs'))) (pc + 3) ls rest) : G l M d bc bs post σ pc ls (v :: .ref a :: rest) := by
  intro p e R s m args below meth c D aC A k0 n0 X H locs cells slots lsA hH hS h1 h2 h3 h4 hl
  subst hs
  obtain ⟨C, T, N, ty0, hc, hk, hin, hty, hnm, hT, -⟩ := hf
  obtain ⟨C', T', N', hc', hfin, hdd⟩ := hp
  cases hc.symm.trans hc'
  obtain ⟨C', T', N', hc', hlk⟩ := hlk
  cases hc.symm.trans hc'
  have hown' : C = M.1.cls := by rw [hc] at hown; exact Option.some.inj hown
  have hts := X.2.2.2.2.1
  have hK := X.2.2.2.2.2.2.2.2.1
  have hap := va_apart (own := M.1.cls) hts hin ty0 hty hnm hK hc
  obtain ⟨r, g1, cell, q1, q2, q3, q4⟩ := (hH a _ ha).1
  have hr : r = (C, T, N) := Option.some.inj (g1.symm.trans hc)
  subst hr
  obtain ⟨hSl, hfc, kC, hkC, hkind⟩ := hK.1 ci _ hc
  obtain ⟨cf, kf, fi, f, hi, hsl⟩ := hSl k hk
  have hlay := hts _ (hin _ (u_in_lay hk))
  unfold u_lay at hlay
  rw [if_pos hfin] at hlay
  have hst := (u_facts hfc hkC (u_lays hts hin hk) hi).1
  have hcf : m.cls = cf := by
    obtain ⟨_, _, c', _, _, _, -, -, hf', -, -, -, hown2, -⟩ := Cond.laysFinal_spec hlay
    have e1 : c' = cf := by have := hi.symm.trans hf'; simp at this; exact this.1.symm
    rw [hT, hown'] at hown2
    rw [← e1]; exact Option.some.inj (X.2.2.2.1.symm.trans hown2)
  have h6 := u_fits hfc hkC hkind (Or.inr hlay) hi hdd hn hfit
  have hi2 : s.fieldFound? C (T k).2.1 (T k).2.2.1 = some (cf, kf, fi, f) := by rw [hT] at hi; exact hi
  refine W.putFinK X.1 X.2.1 X.2.2.2.1 (hts _ hlk) hi2 hst hcf (X.2.2.2.2.2.2.2.1.trans hin1) (by rw [q2]; exact h6) q1 q3 (by rw [hsl]; exact k2_hasslot (q4 k hk)) rfl rfl hd fun H' e1 e2 e3 => ?_
  rw [hsl] at e1 ⊢
  exact kk p e R s m args below meth c D aC A k0 n0 X H' _ cells slots lsA (hH.set (hH a _ ha).2 ⟨_, hc, t_OB.to (V := updV (vp_V fs) k v) ⟨_, e1, q2, q3, t_set q4 hap hk v⟩ (fun j _ => vp_updV_set hlen v j)⟩ e3) (hS.put e2 e3 (hH a _ ha).2) h1 h2 h3 h4 hl
theorem g_iald {a n : Nat} {f : Nat → Int32} {i : Int32} (hd : decode M.2.1 pc = .ok (.iaload, 1)) (ha : σ a = some (gAi n f)) (hin : vp_in i n) (kk : G l M d bc bs post σ (pc + 1) ls (.int (f i.toNatClampNeg) :: rest)) : G l M d bc bs post σ pc ls (.int i :: .ref a :: rest) := by
  intro p e R s m args below meth c D aC A k0 n0 X H locs cells slots lsA hH hS h1 h2 h3 h4 hl
  exact va_iald X.1 X.2.1 X.2.2.2.2.2.2.2.2.1 (gP1 (hH a _ ha).1) 0 0 (f := f) rfl rfl hin hd (kk p e R s m args below meth c D aC A k0 n0 X H locs cells slots lsA hH hS h1 h2 h3 h4 hl)
theorem g_zald {a n : Nat} {f : Nat → Int32} {i : Int32} (hd : decode M.2.1 pc = .ok (.baload, 1)) (ha : σ a = some (gAz n f)) (hin : vp_in i n) (kk : G l M d bc bs post σ (pc + 1) ls (.int (f i.toNatClampNeg) :: rest)) : G l M d bc bs post σ pc ls (.int i :: .ref a :: rest) := by
  intro p e R s m args below meth c D aC A k0 n0 X H locs cells slots lsA hH hS h1 h2 h3 h4 hl
  exact va_zald X.1 X.2.1 X.2.2.2.2.2.2.2.2.1 (gP1 (hH a _ ha).1) 0 2 (f := f) rfl rfl hin hd (kk p e R s m args below meth c D aC A k0 n0 X H locs cells slots lsA hH hS h1 h2 h3 h4 hl)
theorem g_lald {a n : Nat} {f : Nat → Int64} {i : Int32} (hd : decode M.2.1 pc = .ok (.laload, 1)) (ha : σ a = some (gAl n f)) (hin : vp_in i n) (kk : G l M d bc bs post σ (pc + 1) ls (.long (f i.toNatClampNeg) :: rest)) : G l M d bc bs post σ pc ls (.int i :: .ref a :: rest) := by
  intro p e R s m args below meth c D aC A k0 n0 X H locs cells slots lsA hH hS h1 h2 h3 h4 hl
  exact va_lald X.1 X.2.1 X.2.2.2.2.2.2.2.2.1 (gP1 (hH a _ ha).1) 0 1 (f := f) rfl rfl hin hd (kk p e R s m args below meth c D aC A k0 n0 X H locs cells slots lsA hH hS h1 h2 h3 h4 hl)
theorem g_alen {a : Nat} {ty : FieldType} {x : vp_A} {v : Int32} (hd : decode M.2.1 pc = .ok (.arraylength, 1)) (ha : σ a = some (.inl (ty, x))) (hty : ty ∈ gTy) (hv : Int32.ofNat x.1 = v) (kk : G l M d bc bs post σ (pc + 1) ls (.int v :: rest)) : G l M d bc bs post σ pc ls (.ref a :: rest) := by
  intro p e R s m args below meth c D aC A k0 n0 X H locs cells slots lsA hH hS h1 h2 h3 h4 hl
  obtain ⟨t, ht⟩ := List.getElem?_of_mem hty
  exact va_alen X.1 X.2.1 X.2.2.2.2.2.2.2.2.1 (gP1 (hH a _ ha).1) 0 t rfl (ty := ty) (by unfold gT; rw [List.getElem?_map, ht]; rfl) hv hd (kk p e R s m args below meth c D aC A k0 n0 X H locs cells slots lsA hH hS h1 h2 h3 h4 hl)
theorem g_aald {a n : Nat} {C : String} {f : Nat → Option Nat} {i : Int32} (hd : decode M.2.1 pc = .ok (.aaload, 1)) (ha : σ a = some (gAq (.object C) n f)) (hty : FieldType.object C ∈ gTy) (hin : vp_in i n) (kk : G l M d bc bs post σ (pc + 1) ls (va_rf (f i.toNatClampNeg) :: rest)) : G l M d bc bs post σ pc ls (.int i :: .ref a :: rest) := by
  intro p e R s m args below meth c D aC A k0 n0 X H locs cells slots lsA hH hS h1 h2 h3 h4 hl
  obtain ⟨t, ht⟩ := List.getElem?_of_mem hty
  exact va_aldq X.1 X.2.1 X.2.2.2.2.2.2.2.2.1 (gP1 (hH a _ ha).1) 0 t (C := C) (f := f) rfl (by unfold gT; rw [List.getElem?_map, ht]; rfl) hin hd (kk p e R s m args below meth c D aC A k0 n0 X H locs cells slots lsA hH hS h1 h2 h3 h4 hl)
theorem g_iast {a n : Nat} {f : Nat → Int32} {i x : Int32} (hd : decode M.2.1 pc = .ok (.iastore, 1)) (ha : σ a = some (gAi n f)) (hin : vp_in i n) (kk : G l M d bc bs post (su σ a (gAi n (upd f i.toNatClampNeg x))) (pc + 1) ls rest) : G l M d bc bs post σ pc ls (.int x :: .int i :: .ref a :: rest) := by
  intro p e R s m args below meth c D aC A k0 n0 X H locs cells slots lsA hH hS h1 h2 h3 h4 hl
  have hK := X.2.2.2.2.2.2.2.2.1
  refine W.iast X.1 X.2.1 (hH a _ ha).1 ((hK.2 0 _ rfl).1 n (fun j => .int (f j))) (fun q => by cases q) (by show ¬ (i < 0 ∨ (arrV _ _ _).slots.size ≤ _); rw [arrV_size]; exact hin) rfl rfl hd fun H1 e1 z oq => ?_
  refine kk p e R s m args below meth c D aC A k0 n0 X H1 _ cells slots lsA (hH.set (hH a _ ha).2 ?_ oq) (hS.put z oq (hH a _ ha).2) h1 h2 h3 h4 hl
  show H1[a]? = some (vp_cell _ _)
  rw [e1, vp_cell_i, vp_cell_i, arrV_store]
  congr 2
  funext q
  by_cases hq : q = i.toNatClampNeg
  · subst hq; simp [updV, upd]
  · simp [updV, upd, hq]
theorem g_zast {a n : Nat} {f : Nat → Int32} {i x : Int32} (hd : decode M.2.1 pc = .ok (.bastore, 1)) (ha : σ a = some (gAz n f)) (hin : vp_in i n) (kk : G l M d bc bs post (su σ a (gAz n (upd f i.toNatClampNeg (vp_nar .boolean x)))) (pc + 1) ls rest) : G l M d bc bs post σ pc ls (.int x :: .int i :: .ref a :: rest) := by
  intro p e R s m args below meth c D aC A k0 n0 X H locs cells slots lsA hH hS h1 h2 h3 h4 hl
  have hK := X.2.2.2.2.2.2.2.2.1
  refine W.zast X.1 X.2.1 (hH a _ ha).1 ((hK.2 2 _ rfl).1 n (fun j => .int (f j))) (fun q => by cases q) (by show ¬ (i < 0 ∨ (arrV _ _ _).slots.size ≤ _); rw [arrV_size]; exact hin) rfl rfl hd fun H1 e1 z oq => ?_
  refine kk p e R s m args below meth c D aC A k0 n0 X H1 _ cells slots lsA (hH.set (hH a _ ha).2 ?_ oq) (hS.put z oq (hH a _ ha).2) h1 h2 h3 h4 hl
  show H1[a]? = some (vp_cell _ _)
  rw [e1, vp_cell_i, vp_cell_i, arrV_store]
  congr 2
  funext q
  by_cases hq : q = i.toNatClampNeg
  · subst hq
    simp [updV, upd, vp_nar]
    try rfl
  · simp [updV, upd, hq]
theorem g_last {a n : Nat} {f : Nat → Int64} {i : Int32} {x : Int64} (hd : decode M.2.1 pc = .ok (.lastore, 1)) (ha : σ a = some (gAl n f)) (hin : vp_in i n) (kk : G l M d bc bs post (su σ a (gAl n (vp_updL f i.toNatClampNeg x))) (pc + 1) ls rest) : G l M d bc bs post σ pc ls (.long x :: .int i :: .ref a :: rest) := by
  intro p e R s m args below meth c D aC A k0 n0 X H locs cells slots lsA hH hS h1 h2 h3 h4 hl
  have hK := X.2.2.2.2.2.2.2.2.1
  refine W.last X.1 X.2.1 (hH a _ ha).1 ((hK.2 1 _ rfl).1 n (fun j => .long (f j))) (fun q => by cases q) (by show ¬ (i < 0 ∨ (arrV _ _ _).slots.size ≤ _); rw [arrV_size]; exact hin) rfl rfl hd fun H1 e1 z oq => ?_
  refine kk p e R s m args below meth c D aC A k0 n0 X H1 _ cells slots lsA (hH.set (hH a _ ha).2 ?_ oq) (hS.put z oq (hH a _ ha).2) h1 h2 h3 h4 hl
  show H1[a]? = some (vp_cell _ _)
  rw [e1, vp_cell_l, vp_cell_l, arrV_store]
  congr 2
  funext q
  by_cases hq : q = i.toNatClampNeg
  · subst hq; simp [updV, vp_updL]
  · simp [updV, vp_updL, hq]
theorem g_aast {a n ci b : Nat} {C : String} {T : u_T} {N : Nat} {vs : List Value} {f : Nat → Option Nat} {i : Int32} (hd : decode M.2.1 pc = .ok (.aastore, 1)) (ha : σ a = some (gAq (.object C) n f)) (hty : FieldType.object C ∈ gTy) (hb : σ b = some (gO ci vs)) (hc : gcl[ci]? = some (C, T, N)) (hin : vp_in i n) (kk : G l M d bc bs post (su σ a (gAq (.object C) n (va_up f i.toNatClampNeg (some b)))) (pc + 1) ls rest) : G l M d bc bs post σ pc ls (.ref b :: .int i :: .ref a :: rest) := by
  intro p e R s m args below meth c D aC A k0 n0 X H locs cells slots lsA hH hS h1 h2 h3 h4 hl
  have hK := X.2.2.2.2.2.2.2.2.1
  obtain ⟨t0, ht⟩ := List.getElem?_of_mem hty
  have ht' : (gT aC)[t0]? = some (aC (.object C), .object C) := by unfold gT; rw [List.getElem?_map, ht]; rfl
  have hlt : i.toNatClampNeg < n := Nat.not_le.mp fun q => hin (Or.inr q)
  have h0 : ¬ i < 0 := fun q => hin (Or.inl q)
  obtain ⟨r', hr', cellV, g1, g2, g3, -⟩ := (hH b _ hb).1
  have hcls := (hK.1 ci _ hc).2
  obtain ⟨kA, comp, k1, k2, k3, -⟩ := (hK.2 t0 _ ht').2
  have hcomp : comp = D.1 ci := Option.some.inj (k3.symm.trans hcls.1)
  subst hcomp
  obtain ⟨kC, hkC, -⟩ := hcls.2
  refine W.aast X.1 X.2.1 (hH a _ ha).1 (fun q h => by cases h) (fun h => by cases h) k1 k2 rfl hkC ⟨h0, by show _ < (arrV _ _ _).slots.size; rw [arrV_size]; exact hlt⟩ g1 (fun q h => by rw [g3] at h; cases h) (by rw [g2]; exact hkC) (by rw [g2]; exact va_assign hcls) rfl rfl hd fun H1 e1 z oq => ?_
  refine kk p e R s m args below meth c D aC A k0 n0 X H1 _ cells slots lsA (hH.set (hH a _ ha).2 ?_ oq) (hS.put z oq (hH a _ ha).2) h1 h2 h3 h4 hl
  show H1[a]? = some (vp_cell _ _)
  rw [e1, vp_cell_q, vp_cell_q, arrV_store]
  congr 2
  funext q
  by_cases hq : q = i.toNatClampNeg
  · subst hq; simp [updV, va_up, va_rf]
  · simp [updV, va_up, hq]
theorem g_aastN {a n : Nat} {C : String} {f : Nat → Option Nat} {i : Int32} (hd : decode M.2.1 pc = .ok (.aastore, 1)) (ha : σ a = some (gAq (.object C) n f)) (hty : FieldType.object C ∈ gTy) (hin : vp_in i n) (kk : G l M d bc bs post (su σ a (gAq (.object C) n (va_up f i.toNatClampNeg none))) (pc + 1) ls rest) : G l M d bc bs post σ pc ls (.null :: .int i :: .ref a :: rest) := by
  intro p e R s m args below meth c D aC A k0 n0 X H locs cells slots lsA hH hS h1 h2 h3 h4 hl
  have hK := X.2.2.2.2.2.2.2.2.1
  obtain ⟨t0, ht⟩ := List.getElem?_of_mem hty
  have ht' : (gT aC)[t0]? = some (aC (.object C), .object C) := by unfold gT; rw [List.getElem?_map, ht]; rfl
  refine va_WaastN (C := C) X.1 X.2.1 (hH a _ ha).1 ((hK.2 t0 _ ht').1 n (fun j => va_rf (f j))) (fun h => by cases h) (by show ¬ (i < 0 ∨ (arrV _ _ _).slots.size ≤ _); rw [arrV_size]; exact hin) rfl rfl hd fun H1 e1 z oq => ?_
  refine kk p e R s m args below meth c D aC A k0 n0 X H1 _ cells slots lsA (hH.set (hH a _ ha).2 ?_ oq) (hS.put z oq (hH a _ ha).2) h1 h2 h3 h4 hl
  show H1[a]? = some (vp_cell _ _)
  rw [e1, vp_cell_q, vp_cell_q, arrV_store]
  congr 2
  funext q
  by_cases hq : q = i.toNatClampNeg
  · subst hq; simp [updV, va_up, va_rf]
  · simp [updV, va_up, hq]
theorem gHold.push {D : va_G} {aC : FieldType → ClassId} {A : Nat → Prop} {H H1 : Heap} {c : gC} {locs : List Loc} {H0 : Heap} (hH : gHold D aC σ A H) (hS : va_S A H0 H locs) (hA : ∀ q, H0.size ≤ q → A q) (h1 : va_at D gcl (H.size, gE aC c) H1) (z1 : H1.size = H.size + 1) (o1 : ∀ q, q < H.size → H1[q]? = H[q]?) : gHold D aC (su σ H.size c) A H1 ∧ va_S A H0 H1 locs := by
  refine ⟨fun b x hb => ?_, Nat.le_trans hS.1 (by omega), fun x g1 g2 => (o1 x (Nat.lt_of_lt_of_le g1 hS.1)).trans (hS.2.1 x g1 g2), hS.2.2⟩
  by_cases e : b = H.size
  · subst e
    rw [su_self] at hb
    cases hb
    exact ⟨h1, hA _ hS.1⟩
  · rw [su_ne _ _ e] at hb
    exact ⟨(hH b x hb).1.kept (o1 b (hH b x hb).1.lt), (hH b x hb).2⟩
theorem g_new {idx ci N : Nat} {fs : List Value} (hd : decode M.2.1 pc = .ok (.new idx, 3)) (hw : gNw M.1.cls idx ci N fs) (hbc : 1 ≤ bc) (hbs : N ≤ bs) (kk : ∀ q, σ q = none → G l M d (bc - 1) (bs - N) post (su σ q (gO ci fs)) (pc + 3) ls (.ref q :: rest)) : G l M d bc bs post σ pc ls rest := by
  intro p e R s m args below meth c D aC A k0 n0 X H locs cells slots lsA hH hS h1 h2 h3 h4 hl
  obtain ⟨C, T, ty, hc, hin, hty, hcl, hinst, hini, hfs⟩ := hw
  have hts := X.2.2.2.2.1
  have hK := X.2.2.2.2.2.2.2.2.1
  have hKn := hK.1 ci _ hc
  refine W.newcK X.1 X.2.1 X.2.2.2.1 (hts _ hcl) (hts _ hinst) (hts _ hini) rfl hd (by omega) (by omega) hKn.2.1 rfl fun H1 kC hkC e1 z1 o1 => ?_
  obtain ⟨g1, g2⟩ := gHold.push (c := gO ci fs) hH hS X.2.2.2.2.2.2.2.2.2.1 ⟨_, hc, (u_born ty hts hin hKn hkC e1 hty).to hfs⟩ z1 o1
  exact kk H.size (hH.fresh (Nat.le_refl _)) p e R s m args below meth c D aC A k0 n0 X H1 locs _ _ lsA g1 g2 (by omega) (by omega) h3 h4 hl
theorem g_newa {at0 : ArrayType} {ty : FieldType} {n : Int32} {N : Nat} {a0 : vp_A} (t0 : Nat) (hd : decode M.2.1 pc = .ok (.newarray at0, 2)) (hty : newarray.typeOf at0 = ty) (ht : gTy[t0]? = some ty) (hra : ∀ (U : State) (cA : ClassId), va_RA U cA ty → U.vm.findClass ("[" ++ ty.toString) = some cA) (harr : Cond.arrayClass ty ∈ lw_g) (ha : ∀ cA : ClassId, vp_cell cA a0 = arrV cA N (fun _ => defaultValue ty)) (hn : ¬ n < 0) (hN : n.toNatClampNeg = N) (hbytes : N * componentBytes ty ≤ 536870912) (hbc : 1 ≤ bc) (hbs : N ≤ bs)
    (kk : ∀ q, σ q = none → G l M d (bc - 1) (bs - N) post (su σ q (.inl (ty, a0))) (pc + 2) ls (.ref q :: rest)) : G l M d bc bs post σ pc ls (.int n :: rest) := by
  intro p e R s m args below meth c D aC A k0 n0 X H locs cells slots lsA hH hS h1 h2 h3 h4 hl
  subst hty
  have hts := X.2.2.2.2.1
  have hK := X.2.2.2.2.2.2.2.2.1
  refine va_newaK X.1 X.2.1 (hts _ harr) rfl hd rfl hn hN hbytes (by omega) (by omega) rfl fun H1 cA e1 z1 o1 hAr hNm => ?_
  have ht' : (gT aC)[t0]? = some (aC (newarray.typeOf at0), newarray.typeOf at0) := by unfold gT; rw [List.getElem?_map, ht]; rfl
  have hcA : cA = aC (newarray.typeOf at0) := Option.some.inj (hNm.symm.trans (hra _ _ (hK.2 t0 _ ht').2))
  subst hcA
  obtain ⟨g1, g2⟩ := gHold.push (c := .inl (newarray.typeOf at0, a0)) hH hS X.2.2.2.2.2.2.2.2.2.1 (by show H1[H.size]? = some (vp_cell _ _); rw [ha]; exact e1) z1 o1
  exact kk H.size (hH.fresh (Nat.le_refl _)) p e R s m args below meth c D aC A k0 n0 X H1 locs _ _ lsA g1 g2 (by omega) (by omega) h3 h4 hl
theorem g_newi {n : Int32} {N : Nat} (hd : decode M.2.1 pc = .ok (.newarray .int, 2)) (harr : Cond.arrayClass .int ∈ lw_g) (hn : ¬ n < 0) (hN : n.toNatClampNeg = N) (hbytes : N * 4 ≤ 536870912) (hbc : 1 ≤ bc) (hbs : N ≤ bs) (kk : ∀ q, σ q = none → G l M d (bc - 1) (bs - N) post (su σ q (gAi N (fun _ => 0))) (pc + 2) ls (.ref q :: rest)) : G l M d bc bs post σ pc ls (.int n :: rest) :=
  g_newa 0 hd rfl rfl (fun _ _ h => h) harr (fun _ => rfl) hn hN hbytes hbc hbs kk
theorem g_newl {n : Int32} {N : Nat} (hd : decode M.2.1 pc = .ok (.newarray .long, 2)) (harr : Cond.arrayClass .long ∈ lw_g) (hn : ¬ n < 0) (hN : n.toNatClampNeg = N) (hbytes : N * 8 ≤ 536870912) (hbc : 1 ≤ bc) (hbs : N ≤ bs) (kk : ∀ q, σ q = none → G l M d (bc - 1) (bs - N) post (su σ q (gAl N (fun _ => 0))) (pc + 2) ls (.ref q :: rest)) : G l M d bc bs post σ pc ls (.int n :: rest) :=
  g_newa 1 hd rfl rfl (fun _ _ h => h) harr (fun _ => rfl) hn hN hbytes hbc hbs kk
theorem g_newz {n : Int32} {N : Nat} (hd : decode M.2.1 pc = .ok (.newarray .boolean, 2)) (harr : Cond.arrayClass .boolean ∈ lw_g) (hn : ¬ n < 0) (hN : n.toNatClampNeg = N) (hbytes : N * 1 ≤ 536870912) (hbc : 1 ≤ bc) (hbs : N ≤ bs) (kk : ∀ q, σ q = none → G l M d (bc - 1) (bs - N) post (su σ q (gAz N (fun _ => 0))) (pc + 2) ls (.ref q :: rest)) : G l M d bc bs post σ pc ls (.int n :: rest) :=
  g_newa 2 hd rfl rfl (fun _ _ h => h) harr (fun _ => rfl) hn hN hbytes hbc hbs kk
theorem g_newq {idx : Nat} {C : String} {n : Int32} {N : Nat} (hd : decode M.2.1 pc = .ok (.anewarray idx, 3)) (hcl : Cond.classLink M.1.cls idx C ∈ lw_g) (hov : ∀ U : State, gNg U → va_AO C U) (hty : FieldType.object C ∈ gTy) (hn : ¬ n < 0) (hN : n.toNatClampNeg = N) (hbytes : N * 4 ≤ 536870912) (hbc : 1 ≤ bc) (hbs : N ≤ bs) (kk : ∀ q, σ q = none → G l M d (bc - 1) (bs - N) post (su σ q (gAq (.object C) N (fun _ => none))) (pc + 3) ls (.ref q :: rest)) : G l M d bc bs post σ pc ls (.int n :: rest) := by
  intro p e R s m args below meth c D aC A k0 n0 X H locs cells slots lsA hH hS h1 h2 h3 h4 hl
  subst hN
  have hts := X.2.2.2.2.1
  have hK := X.2.2.2.2.2.2.2.2.1
  obtain ⟨t0, ht⟩ := List.getElem?_of_mem hty
  have ht' : (gT aC)[t0]? = some (aC (.object C), .object C) := by unfold gT; rw [List.getElem?_map, ht]; rfl
  refine W.anew X.1 X.2.1 X.2.2.2.1 (hts _ hcl) (va_AO.use (hov _ X.2.2.2.2.2.2.2.2.2.2.2.2.2)) rfl hd rfl hn hbytes (by omega) (by omega) fun cA kA comp f1 f2 f3 f4 => ?_
  obtain ⟨kA', comp', y1, y2, y3, y4⟩ := (hK.2 t0 _ ht').2
  have hcA : cA = aC (.object C) := Option.some.inj (f1.symm.trans y4)
  subst hcA
  generalize hH1 : H.push ({ cls := aC (.object C), slots := Array.replicate n.toNatClampNeg .null, vm := .none } : Cell) = H1
  have z1 : H1.size = H.size + 1 := by rw [← hH1, Array.size_push]
  have e1 : H1[H.size]? = some (arrV (aC (.object C)) n.toNatClampNeg (fun _ => .null)) := by rw [← hH1, Array.getElem?_push_size, ← arrV_new]
  have o1 : ∀ q : Nat, q < H.size → H1[q]? = H[q]? := fun q hq => by rw [← hH1, Array.getElem?_push, if_neg (Nat.ne_of_lt hq)]
  obtain ⟨g1, g2⟩ := gHold.push (c := gAq (.object C) n.toNatClampNeg (fun _ => none)) hH hS X.2.2.2.2.2.2.2.2.2.1 (by show H1[H.size]? = some (vp_cell _ _); rw [vp_cell_q]; exact e1) z1 o1
  exact kk H.size (hH.fresh (Nat.le_refl _)) p e R s m args below meth c D aC A k0 n0 X H1 locs _ _ lsA g1 g2 (by omega) (by omega) h3 h4 hl
theorem g_objInit {idx a : Nat} (hd : decode M.2.1 pc = .ok (.invokespecial idx, 3)) (hlk : Cond.methodLink M.1.cls idx Lib.objectInit ∈ lw_g) (hin : Cond.instanceMethod Lib.objectInit ∈ lw_g) (hco : Cond.code Lib.objectInit ⟨#[0xb1]⟩ 1 none ∈ lw_g) (hd1 : 1 ≤ d) (hcat : (rest.map fun v => v.category).sum ≤ 8) (kk : G l M d bc bs post σ (pc + 3) ls rest) : G l M d bc bs post σ pc ls (.ref a :: rest) := by
  intro p e R s m args below meth c D aC A k0 n0 X H locs cells slots lsA hH hS h1 h2 h3 h4 hl
  have hts := X.2.2.2.2.1
  have hfr := X.2.2.2.2.2.2.2.2.2.2.2.1
  have hlo := X.2.2.2.2.2.2.2.2.2.2.2.2.1
  refine W.objInit X.1 X.2.1 X.2.2.2.1 (hts _ hlk) (hts _ hin) (hts _ hco) rfl (hl.1.trans X.2.2.1.symm) rfl hd (by omega) ?_ (kk p e R s m args below meth c D aC A k0 n0 X H locs cells slots lsA hH hS h1 h2 h3 h4 hl)
  have := lv_room (m := m) (pc := pc) (ls := lsA) (rest := .ref a :: rest) hcat
  omega
end GH
end
section
/-! G: contracts and calls -/
def gLk (own : String) (idx : Nat) (y : MethodName) : Prop := Cond.methodLink own idx y ∈ lw_g ∨ ∃ host, gNk (Cond.methodLinkNest own idx y host)
def gMo (M : gM) (n : Nat) : Prop := Cond.code M.1 M.2.1 M.2.2.1 M.2.2.2 ∈ lw_g ∧ Cond.initialized M.1.cls ∈ lw_g ∧ (M.1.cls ≠ "java/lang/invoke/MethodHandle" ∧ M.1.cls ≠ "java/lang/invoke/VarHandle" ∧ (parseMethodDescriptor M.1.desc).map (fun d => d.parameters.length) = some n) ∧ M.2.2.1 ≤ 45 ∧ plainName M.1.cls = true
def gMv (M : gM) (n : Nat) : Prop := gMo M n ∧ Cond.instanceMethod M.1 ∈ lw_g ∧ Cond.selects M.1.cls M.1 M.1 ∈ lw_g
def gMs (M : gM) (n : Nat) : Prop := gMo M n ∧ Cond.static M.1 ∈ lw_g
def gMi (M : gM) (n : Nat) : Prop := gMo M n ∧ Cond.instanceMethod M.1 ∈ lw_g ∧ M.1.name = "<init>" ∧ M.2.2.2 = none
def gWs (M : gM) : List Cond := .code M.1 M.2.1 M.2.2.1 M.2.2.2 :: lw_g
theorem gGood {M : gM} {n : Nat} (h : gMo M n) : GoodIn lw_g (gWs M) := by
  intro w hw
  have hm : w ∈ lw_g := by
    rcases List.mem_cons.mp hw with e | e
    · rw [e]; exact h.1
    · exact e
  exact ⟨hm, good_of_word (List.mem_filter.mp hm).2⟩
def gRm (d mc ms : Nat) : Room := { frames := d, cells := mc, slots := ms, locals := 64 * d }
def gB (D : va_G) (aC : FieldType → ClassId) (σ : gH) (sz : Nat) (U : State) : Prop := U.heap.size = sz ∧ gHold D aC σ (gA σ sz) U.heap ∧ va_K D gcl (gT aC) U ∧ gSt (gA σ sz) U U.heap ∧ gNg U
/-- a method's contract: from a heap that holds σ it returns v, the heap then holds σ', and post v σ' -/
def Ct (l : Launch) (M : gM) (d mc ms : Nat) (as : List Value) (σ : gH) (post : Option Value → gH → Prop) : Prop :=
  ∀ (D : va_G) (aC : FieldType → ClassId) (sz : Nat), Met l M.1 (gWs M) (gRm d mc ms) (va_Pc as (gB D aC σ sz)) (gQ D aC (gA σ sz) post) mc ms (gA σ sz)
theorem Ct.mono {l : Launch} {M : gM} {d mc ms : Nat} {as : List Value} {σ : gH} {post post' : Option Value → gH → Prop} (h : Ct l M d mc ms as σ post') (hp : ∀ v σ', post' v σ' → post v σ') : Ct l M d mc ms as σ post := by
  intro D aC sz
  have hM := h D aC sz
  unfold Met at hM ⊢
  intro p e ha hc hk s m args below hf happ hP hk'
  obtain ⟨k, o, h1, h2, h3, ⟨⟨⟨v, σ1, c1, c2, c3⟩, c4⟩, h5⟩⟩ := hM p e ha hc hk s m args below hf happ hP hk'
  exact ⟨k, o, h1, h2, h3, ⟨⟨⟨v, σ1, c1, hp v σ1 c2, c3⟩, c4⟩, h5⟩⟩
theorem gHold.self {D : va_G} {aC : FieldType → ClassId} {σ : gH} {A : Nat → Prop} {H : Heap} (h : gHold D aC σ A H) (sz : Nat) : gHold D aC σ (gA σ sz) H := fun a c hc => ⟨(h a c hc).1, Or.inl (by rw [hc]; exact fun q => by cases q)⟩
theorem Ct_of {l : Launch} {M : gM} {d mc ms n : Nat} {as : List Value} {σ : gH} {post : Option Value → gH → Prop} (hm : gMo M n) (ls : List (Option Value)) (hls : gLv 0 ls = lv_args 0 as) (hle : (lg_sl as).length ≤ M.2.2.1) (h : G l M d mc ms post σ 0 ls []) : Ct l M d mc ms as σ post := by
  intro D aC sz
  refine Met.ofW (cc := M.2.1) (maxL := M.2.2.1) (ret := M.2.2.2) hm.2.2.2.2 rfl ?_
  intro p e s m args below meth c s₁ B hml hv
  obtain ⟨rfl, hsz, hH, hK, hSt, hNg⟩ := hv
  subst hsz
  have hts : ∀ w ∈ lw_g, w.before as.toArray s = true := fun w hw => atoms_spec (ws := gWs M) B.pre w (List.mem_cons_of_mem _ hw)
  have hl := lv_entry as (n := M.2.2.1) hle
  rw [lg_entry_eq]
  generalize (lg_sl as ++ List.replicate (M.2.2.1 - (lg_sl as).length) Slot.unset).toArray = lsA at hl ⊢
  rw [← hls] at hl
  exact h p e _ s m as.toArray below meth c D aC (gA σ s.heap.size) mc ms ⟨B.exec, B.bytes, hml, findClass_of_methodNamed B.named, hts, B.returns, B.notSynchronized, (name_of_methodNamed B.named B.method).1, hK, fun q hq => Or.inr hq, hSt, Nat.le_refl _, Nat.le_refl _, hNg⟩ s.heap [] 0 0 lsA hH va_S.rf (by omega) (by omega) (Nat.le_refl _) (Nat.le_refl _) hl
section GCall
variable {l : Launch} {M : gM} {d bc bs : Nat} {post : Option Value → gH → Prop} {σ : gH} {pc : Nat} {ls : List (Option Value)} {rest : List Value}
/-- what a caller gives to a callee whose world σ₁ is a part of the caller's -/
theorem gPre {D : va_G} {aC : FieldType → ClassId} {σ₁ : gH} {A : Nat → Prop} {s : State} {H : Heap} {locs : List Loc} (hH : gHold D aC σ₁ A H) (hK : va_K D gcl (gT aC) s) (hA : ∀ q, s.heap.size ≤ q → A q) (hSt : gSt A s s.heap) (hNg : gNg s) (hS : va_S A s.heap H locs) (as : List Value) :
    FrameBlind (va_Pc as (gB D aC σ₁ H.size)) ∧ ∀ U : State, U.heap = H → s.WarmedH U.vm → va_Pc as (gB D aC σ₁ H.size) as.toArray U := by
  refine ⟨fun a U g mk q => ?_, fun U hU hW => ⟨rfl, by rw [hU], by rw [hU]; exact hH.self _, va_K.moved hW.alike hK, ?_, hNg.warm hW⟩⟩
  · obtain ⟨q0, q1, q2, q3, q4, q5⟩ := q
    exact ⟨q0, q1, q2, va_K.moved (u := U) (U := U.calling g mk a) (Vm.Alike.refl U.vm) q3, q4.go (V := U.calling g mk a) (Vm.Alike.refl U.vm) (fun _ _ _ => rfl) (fun _ h => h), q5.same rfl⟩
  · rw [hU]
    refine hSt.go hW.alike hS.2.1 (fun q hq => ?_)
    rcases hq with hq | hq
    · cases e : σ₁ q with
      | none => exact absurd e hq
      | some x => exact (hH q x e).2
    · exact hA q (Nat.le_trans hS.1 hq)
/-- two worlds beside each other: the first one's cells go first -/
def gU (σ₁ σ₂ : gH) : gH := fun a => match σ₁ a with
  | some c => some c
  | none => σ₂ a
theorem gU_none (σ : gH) : gU σ (fun _ => none) = σ := by
  funext a
  unfold gU
  cases σ a <;> rfl
def gDj (σ₁ σ₂ : gH) : Prop := ∀ b, σ₁ b ≠ none → σ₂ b = none
theorem g_run {p : Program} {e : Env} {R : Room} {s : State} {m : MethodId} {args : Array Value} {below : List Frame} {meth : Method} {c : Code} {D : va_G} {aC : FieldType → ClassId} {A : Nat → Prop} {k0 n0 mc ms : Nat} {σ₁ σ₂ : gH} {H : Heap} {locs : List Loc} {cells slots : Nat} {lsA : Array Slot} {post' : Option Value → gH → Prop} {a : Array Value} {st : List Value}
    (X : gX p R s m args meth c M d D aC A) (hdj : gDj σ₁ σ₂) (hH : gHold D aC (gU σ₁ σ₂) A H) (hS : va_S A s.heap H locs) (h1 : cells + bc ≤ k0) (h2 : slots + bs ≤ n0) (h3 : k0 ≤ R.cells) (h4 : n0 ≤ R.slots) (hl : lv_has lsA M.2.2.1 (gLv 0 ls)) (hmc : mc ≤ bc) (hms : ms ≤ bs)
    (hr : va_Run p l e R s m args below meth c H locs cells slots mc ms (F0 m pc lsA st) rest (gQ D aC (gA σ₁ H.size) post' a) (gA σ₁ H.size))
    (kk : ∀ v σ', post' v σ' → gDj σ' σ₂ → G l M d (bc - mc) (bs - ms) post (gU σ' σ₂) (pc + 3) ls (v.toList ++ rest)) : W p l e R s m args below meth c H locs cells slots (MQ below (gQ D aC A post) args s k0 n0 A) (F0 m pc lsA st) := by
  have hA1 : ∀ q, gA σ₁ H.size q → A q := by
    intro q hq
    rcases hq with hq | hq
    · cases e1 : σ₁ q with
      | none => exact absurd e1 hq
      | some x => exact (hH q x (by simp [gU, e1])).2
    · exact X.2.2.2.2.2.2.2.2.2.1 q (Nat.le_trans hS.1 hq)
  intro T hT Xs
  obtain ⟨v, st₀, t, T', L, h0, X', hL, e1, e2, ⟨⟨v', σ', hv, hp, hH1⟩, hz, hk⟩, st'⟩ := hr T hT Xs
  cases hv
  rw [h0] at hz hk
  rw [← e1] at hH1 hz hk
  have hS' : va_S A s.heap T'.heap (locs ++ L) := ⟨Nat.le_trans hS.1 hz, fun q g1 g2 => by rw [hk q (Nat.lt_of_lt_of_le g1 hS.1) (fun z => g2 (hA1 q z))]; exact hS.2.1 q g1 g2, fun q hq => by
    rcases List.mem_append.mp hq with h | h
    · exact hS.2.2 q h
    · exact hA1 _ (hL q h)⟩
  have hout : ∀ b x, σ₂ b = some x → σ₁ b = none ∧ va_at D gcl (b, gE aC x) H ∧ A b := by
    intro b x hb
    have h5 : σ₁ b = none := by
      cases e4 : σ₁ b with
      | none => rfl
      | some y => rw [hdj b (by rw [e4]; exact fun q => by cases q)] at hb; cases hb
    exact ⟨h5, hH b x (by simp [gU, h5, hb])⟩
  have hdj' : gDj σ' σ₂ := by
    intro b hb
    cases e3 : σ' b with
    | none => exact absurd e3 hb
    | some y =>
      cases e5 : σ₂ b with
      | none => rfl
      | some x =>
        obtain ⟨g1, g2, -⟩ := hout b x e5
        rcases (hH1 b y e3).2 with z | z
        · exact absurd g1 z
        · exact absurd g2.lt (Nat.not_lt.mpr z)
  have hH' : gHold D aC (gU σ' σ₂) A T'.heap := by
    intro b x hb
    cases e3 : σ' b with
    | some y =>
      simp only [gU, e3] at hb
      cases hb
      exact ⟨(hH1 b _ e3).1, hA1 _ (hH1 b _ e3).2⟩
    | none =>
      simp only [gU, e3] at hb
      obtain ⟨g1, g2, g3⟩ := hout b x hb
      refine ⟨g2.kept (hk b g2.lt (fun z => ?_)), g3⟩
      rcases z with z | z
      · exact z g1
      · exact absurd g2.lt (Nat.not_lt.mpr z)
  obtain ⟨t2, a1, b1⟩ := kk v σ' hp hdj' p e R s m args below meth c D aC A k0 n0 X T'.heap (locs ++ L) (cells + mc) (slots + ms) lsA hH' hS' (by omega) (by omega) h3 h4 hl T' rfl X'
  exact ⟨t2, st' t2 a1, b1⟩
theorem gHold.left {D : va_G} {aC : FieldType → ClassId} {σ₁ σ₂ : gH} {A : Nat → Prop} {H : Heap} (h : gHold D aC (gU σ₁ σ₂) A H) : gHold D aC σ₁ A H := fun a c hc => h a c (by simp [gU, hc])
theorem g_fix {p : Program} {R : Room} {s : State} {m : MethodId} {args : Array Value} {meth : Method} {c : Code} {D : va_G} {aC : FieldType → ClassId} {A : Nat → Prop} (X : gX p R s m args meth c M d D aC A) : CallFix p m c M.2.1 M.2.2.1 s args lw_g M.1.cls := ⟨X.1, X.2.1, X.2.2.1, X.2.2.2.1, X.2.2.2.2.1⟩
theorem g_rm {R : Room} {My : gM} {d' mc ms n : Nat} (hm : gMo My n) (hd1 : d ≤ R.frames) (hd2 : 64 * d ≤ R.locals) (hdd : d' + 1 ≤ d) : (gRm d' mc ms).frames + 1 ≤ R.frames ∧ 8 + (My.2.2.1 + 11) + (gRm d' mc ms).locals ≤ R.locals := by
  have := hm.2.2.2.1
  refine ⟨Nat.le_trans hdd hd1, ?_⟩
  show 8 + (My.2.2.1 + 11) + 64 * d' ≤ R.locals
  omega
/-- invokevirtual, the callee's world a part of the caller's -/
theorem g_callVf {My : gM} {idx n d' mc ms b ci : Nat} {fs : List Value} {σ₁ σ₂ : gH} {post' : Option Value → gH → Prop} {st : List Value} (As : List Value) (hd : decode M.2.1 pc = .ok (.invokevirtual idx, 3)) (hk : gLk M.1.cls idx My.1) (hm : gMv My n) (hn : As.length = n) (hb : σ₁ b = some (gO ci fs)) (hc : (gcl[ci]?).map (fun q => q.1) = some My.1.cls) (hdj : gDj σ₁ σ₂) (ct : Ct l My d' mc ms (.ref b :: As) σ₁ post') (hdd : d' + 1 ≤ d) (hmc : mc ≤ bc) (hms : ms ≤ bs) (hst : st = As.reverse ++ .ref b :: rest) (hcat : (rest.map fun v => v.category).sum ≤ 8)
    (kk : ∀ v σ', post' v σ' → gDj σ' σ₂ → G l M d (bc - mc) (bs - ms) post (gU σ' σ₂) (pc + 3) ls (v.toList ++ rest)) : G l M d bc bs post (gU σ₁ σ₂) pc ls st := by
  intro p e R s m args below meth c D aC A k0 n0 X H locs cells slots lsA hH hS h1 h2 h3 h4 hl
  have hts := X.2.2.2.2.1
  have hK := X.2.2.2.2.2.2.2.2.1
  obtain ⟨q, hq, hq1⟩ := Option.map_eq_some_iff.mp hc
  have hrm := g_rm (mc := mc) (ms := ms) hm.1 X.2.2.2.2.2.2.2.2.2.2.2.1 X.2.2.2.2.2.2.2.2.2.2.2.2.1 hdd
  have hH1 := hH.left
  have hpre := gPre hH1 hK X.2.2.2.2.2.2.2.2.2.1 X.2.2.2.2.2.2.2.2.2.2.1 X.2.2.2.2.2.2.2.2.2.2.2.2.2 hS (.ref b :: As)
  have hrec := va_recv hK (gP1 (hH1 b _ hb).1) hq (q0 := 0) rfl
  rw [hq1] at hrec
  have hPV : PreV s H My.1.cls b (va_Pc (.ref b :: As) (gB D aC σ₁ H.size)) As := ⟨hpre.1, hrec, hpre.2⟩
  refine g_run (a := (Value.ref b :: As).toArray) X hdj hH hS h1 h2 h3 h4 hl hmc hms ?_ kk
  rcases hk with hk | ⟨host, hk⟩
  · exact va_runV (g_fix X) (ct D aC H.size) ⟨callB_of (ws' := lw_g) n hts (gGood hm.1) rfl rfl rfl (hts _ hm.1.2.1) (hts _ hk) hm.1.2.2.1 hrm, hts _ hm.2.1, hts _ hm.2.2⟩ hPV rfl hn hl.1 hst (lv_room hcat) hd ⟨by omega, by omega⟩
  · exact va_runVN (host := host) (g_fix X) (ct D aC H.size) ⟨va_cnB (ws' := lw_g) n hts (gGood hm.1) rfl rfl rfl (hk.2 _ X.2.2.2.2.2.2.2.2.2.2.2.2.2) (hts _ hm.1.2.1) hm.1.2.2.1 hrm, hts _ hm.2.1, hts _ hm.2.2⟩ hPV rfl hn hl.1 hst (lv_room hcat) hd ⟨by omega, by omega⟩
theorem g_callV {My : gM} {idx n d' mc ms b ci : Nat} {fs : List Value} {post' : Option Value → gH → Prop} {st : List Value} (As : List Value) (hd : decode M.2.1 pc = .ok (.invokevirtual idx, 3)) (hk : gLk M.1.cls idx My.1) (hm : gMv My n) (hn : As.length = n) (hb : σ b = some (gO ci fs)) (hc : (gcl[ci]?).map (fun q => q.1) = some My.1.cls) (ct : Ct l My d' mc ms (.ref b :: As) σ post') (hdd : d' + 1 ≤ d) (hmc : mc ≤ bc) (hms : ms ≤ bs) (hst : st = As.reverse ++ .ref b :: rest) (hcat : (rest.map fun v => v.category).sum ≤ 8)
    (kk : ∀ v σ', post' v σ' → G l M d (bc - mc) (bs - ms) post σ' (pc + 3) ls (v.toList ++ rest)) : G l M d bc bs post σ pc ls st := by
  have h := g_callVf (l := l) (M := M) (d := d) (bc := bc) (bs := bs) (post := post) (pc := pc) (ls := ls) (σ₁ := σ) (σ₂ := fun _ => none) As hd hk hm hn hb hc (fun _ _ => rfl) ct hdd hmc hms hst hcat (fun v σ' hp _ => by rw [gU_none]; exact kk v σ' hp)
  rw [gU_none] at h
  exact h
theorem g_callS {My : gM} {idx n d' mc ms : Nat} {post' : Option Value → gH → Prop} {st : List Value} (As : List Value) (hd : decode M.2.1 pc = .ok (.invokestatic idx, 3)) (hk : gLk M.1.cls idx My.1) (hm : gMs My n) (hn : As.length = n) (ct : Ct l My d' mc ms As σ post') (hdd : d' + 1 ≤ d) (hmc : mc ≤ bc) (hms : ms ≤ bs) (hst : st = As.reverse ++ rest) (hcat : (rest.map fun v => v.category).sum ≤ 8)
    (kk : ∀ v σ', post' v σ' → G l M d (bc - mc) (bs - ms) post σ' (pc + 3) ls (v.toList ++ rest)) : G l M d bc bs post σ pc ls st := by
  intro p e R s m args below meth c D aC A k0 n0 X H locs cells slots lsA hH hS h1 h2 h3 h4 hl
  have hts := X.2.2.2.2.1
  have hK := X.2.2.2.2.2.2.2.2.1
  have hrm := g_rm (mc := mc) (ms := ms) hm.1 X.2.2.2.2.2.2.2.2.2.2.2.1 X.2.2.2.2.2.2.2.2.2.2.2.2.1 hdd
  have hpre := gPre hH hK X.2.2.2.2.2.2.2.2.2.1 X.2.2.2.2.2.2.2.2.2.2.1 X.2.2.2.2.2.2.2.2.2.2.2.2.2 hS As
  refine g_run (a := As.toArray) (σ₁ := σ) (σ₂ := fun _ => none) X (fun _ _ => rfl) (by rw [gU_none]; exact hH) hS h1 h2 h3 h4 hl hmc hms ?_ (fun v σ' hp _ => by rw [gU_none]; exact kk v σ' hp)
  rcases hk with hk | ⟨host, hk⟩
  · exact va_runS (g_fix X) (ct D aC H.size) ⟨callB_of (ws' := lw_g) n hts (gGood hm.1) rfl rfl rfl (hts _ hm.1.2.1) (hts _ hk) hm.1.2.2.1 hrm, hts _ hm.2⟩ hpre rfl hn hl.1 hst (lv_room hcat) hd ⟨by omega, by omega⟩
  · exact va_runSN (host := host) (g_fix X) (ct D aC H.size) ⟨va_cnB (ws' := lw_g) n hts (gGood hm.1) rfl rfl rfl (hk.2 _ X.2.2.2.2.2.2.2.2.2.2.2.2.2) (hts _ hm.1.2.1) hm.1.2.2.1 hrm, hts _ hm.2, trivial⟩ hpre rfl hn hl.1 hst (lv_room hcat) hd ⟨by omega, by omega⟩
theorem g_callIf {My : gM} {idx n d' mc ms b : Nat} {σ₁ σ₂ : gH} {post' : Option Value → gH → Prop} {st : List Value} (As : List Value) (hd : decode M.2.1 pc = .ok (.invokespecial idx, 3)) (hk : gLk M.1.cls idx My.1) (hm : gMi My n) (hn : As.length = n) (hdj : gDj σ₁ σ₂) (ct : Ct l My d' mc ms (.ref b :: As) σ₁ post') (hdd : d' + 1 ≤ d) (hmc : mc ≤ bc) (hms : ms ≤ bs) (hst : st = As.reverse ++ .ref b :: rest) (hcat : (rest.map fun v => v.category).sum ≤ 8)
    (kk : ∀ v σ', post' v σ' → gDj σ' σ₂ → G l M d (bc - mc) (bs - ms) post (gU σ' σ₂) (pc + 3) ls (v.toList ++ rest)) : G l M d bc bs post (gU σ₁ σ₂) pc ls st := by
  intro p e R s m args below meth c D aC A k0 n0 X H locs cells slots lsA hH hS h1 h2 h3 h4 hl
  have hts := X.2.2.2.2.1
  have hK := X.2.2.2.2.2.2.2.2.1
  have hrm := g_rm (mc := mc) (ms := ms) hm.1 X.2.2.2.2.2.2.2.2.2.2.2.1 X.2.2.2.2.2.2.2.2.2.2.2.2.1 hdd
  have hH1 := hH.left
  have hpre := gPre hH1 hK X.2.2.2.2.2.2.2.2.2.1 X.2.2.2.2.2.2.2.2.2.2.1 X.2.2.2.2.2.2.2.2.2.2.2.2.2 hS (.ref b :: As)
  have hw : gWs My = Cond.code My.1 My.2.1 My.2.2.1 none :: lw_g := by unfold gWs; rw [hm.2.2.2]
  refine g_run (a := (Value.ref b :: As).toArray) X hdj hH hS h1 h2 h3 h4 hl hmc hms ?_ kk
  rcases hk with hk | ⟨host, hk⟩
  · exact va_runI (g_fix X) (ct D aC H.size) ⟨callB_of (ws' := lw_g) n hts (gGood hm.1) hw rfl rfl (hts _ hm.1.2.1) (hts _ hk) hm.1.2.2.1 hrm, hm.2.2.1, hts _ hm.2.1⟩ hpre rfl hn hl.1 hst (lv_room hcat) hd ⟨by omega, by omega⟩
  · exact va_runIN (host := host) (g_fix X) (ct D aC H.size) ⟨va_cnB (ws' := lw_g) n hts (gGood hm.1) hw rfl rfl (hk.2 _ X.2.2.2.2.2.2.2.2.2.2.2.2.2) (hts _ hm.1.2.1) hm.1.2.2.1 hrm, hm.2.2.1, hts _ hm.2.1⟩ hpre rfl hn hl.1 hst (lv_room hcat) hd ⟨by omega, by omega⟩
theorem g_callI {My : gM} {idx n d' mc ms b : Nat} {post' : Option Value → gH → Prop} {st : List Value} (As : List Value) (hd : decode M.2.1 pc = .ok (.invokespecial idx, 3)) (hk : gLk M.1.cls idx My.1) (hm : gMi My n) (hn : As.length = n) (ct : Ct l My d' mc ms (.ref b :: As) σ post') (hdd : d' + 1 ≤ d) (hmc : mc ≤ bc) (hms : ms ≤ bs) (hst : st = As.reverse ++ .ref b :: rest) (hcat : (rest.map fun v => v.category).sum ≤ 8)
    (kk : ∀ v σ', post' v σ' → G l M d (bc - mc) (bs - ms) post σ' (pc + 3) ls (v.toList ++ rest)) : G l M d bc bs post σ pc ls st := by
  have h := g_callIf (l := l) (M := M) (d := d) (bc := bc) (bs := bs) (post := post) (pc := pc) (ls := ls) (σ₁ := σ) (σ₂ := fun _ => none) As hd hk hm hn (fun _ _ => rfl) ct hdd hmc hms hst hcat (fun v σ' hp _ => by rw [gU_none]; exact kk v σ' hp)
  rw [gU_none] at h
  exact h
end GCall
/-! typed ends of contracts -/
def pI (f : Int32 → gH → Prop) : Option Value → gH → Prop := fun v σ => ∃ r, v = some (.int r) ∧ f r σ
def pL (f : Int64 → gH → Prop) : Option Value → gH → Prop := fun v σ => ∃ r, v = some (.long r) ∧ f r σ
def pV (f : gH → Prop) : Option Value → gH → Prop := fun v σ => v = none ∧ f σ
def pQ (f : Option Nat → gH → Prop) : Option Value → gH → Prop := fun v σ => ∃ r, v = some (va_rf r) ∧ f r σ
section GTyped
variable {l : Launch} {M : gM} {d bc bs : Nat} {post : Option Value → gH → Prop} {σ : gH} {pc : Nat} {ls : List (Option Value)} {rest : List Value}
theorem g_callVi {My : gM} {idx n d' mc ms b ci : Nat} {fs : List Value} {f : Int32 → gH → Prop} {st : List Value} (As : List Value) (hd : decode M.2.1 pc = .ok (.invokevirtual idx, 3)) (hk : gLk M.1.cls idx My.1) (hm : gMv My n) (hn : As.length = n) (hb : σ b = some (gO ci fs)) (hc : (gcl[ci]?).map (fun q => q.1) = some My.1.cls) (ct : Ct l My d' mc ms (.ref b :: As) σ (pI f)) (hdd : d' + 1 ≤ d) (hmc : mc ≤ bc) (hms : ms ≤ bs) (hst : st = As.reverse ++ .ref b :: rest) (hcat : (rest.map fun v => v.category).sum ≤ 8)
    (kk : ∀ r σ', f r σ' → G l M d (bc - mc) (bs - ms) post σ' (pc + 3) ls (.int r :: rest)) : G l M d bc bs post σ pc ls st := by
  refine g_callV As hd hk hm hn hb hc ct hdd hmc hms hst hcat (fun v σ' hp => ?_)
  obtain ⟨r, rfl, h⟩ := hp
  exact kk r σ' h
theorem g_callVl {My : gM} {idx n d' mc ms b ci : Nat} {fs : List Value} {f : Int64 → gH → Prop} {st : List Value} (As : List Value) (hd : decode M.2.1 pc = .ok (.invokevirtual idx, 3)) (hk : gLk M.1.cls idx My.1) (hm : gMv My n) (hn : As.length = n) (hb : σ b = some (gO ci fs)) (hc : (gcl[ci]?).map (fun q => q.1) = some My.1.cls) (ct : Ct l My d' mc ms (.ref b :: As) σ (pL f)) (hdd : d' + 1 ≤ d) (hmc : mc ≤ bc) (hms : ms ≤ bs) (hst : st = As.reverse ++ .ref b :: rest) (hcat : (rest.map fun v => v.category).sum ≤ 8)
    (kk : ∀ r σ', f r σ' → G l M d (bc - mc) (bs - ms) post σ' (pc + 3) ls (.long r :: rest)) : G l M d bc bs post σ pc ls st := by
  refine g_callV As hd hk hm hn hb hc ct hdd hmc hms hst hcat (fun v σ' hp => ?_)
  obtain ⟨r, rfl, h⟩ := hp
  exact kk r σ' h
theorem g_callVv {My : gM} {idx n d' mc ms b ci : Nat} {fs : List Value} {f : gH → Prop} {st : List Value} (As : List Value) (hd : decode M.2.1 pc = .ok (.invokevirtual idx, 3)) (hk : gLk M.1.cls idx My.1) (hm : gMv My n) (hn : As.length = n) (hb : σ b = some (gO ci fs)) (hc : (gcl[ci]?).map (fun q => q.1) = some My.1.cls) (ct : Ct l My d' mc ms (.ref b :: As) σ (pV f)) (hdd : d' + 1 ≤ d) (hmc : mc ≤ bc) (hms : ms ≤ bs) (hst : st = As.reverse ++ .ref b :: rest) (hcat : (rest.map fun v => v.category).sum ≤ 8)
    (kk : ∀ σ', f σ' → G l M d (bc - mc) (bs - ms) post σ' (pc + 3) ls rest) : G l M d bc bs post σ pc ls st := by
  refine g_callV As hd hk hm hn hb hc ct hdd hmc hms hst hcat (fun v σ' hp => ?_)
  obtain ⟨rfl, h⟩ := hp
  exact kk σ' h
theorem g_callVq {My : gM} {idx n d' mc ms b ci : Nat} {fs : List Value} {f : Option Nat → gH → Prop} {st : List Value} (As : List Value) (hd : decode M.2.1 pc = .ok (.invokevirtual idx, 3)) (hk : gLk M.1.cls idx My.1) (hm : gMv My n) (hn : As.length = n) (hb : σ b = some (gO ci fs)) (hc : (gcl[ci]?).map (fun q => q.1) = some My.1.cls) (ct : Ct l My d' mc ms (.ref b :: As) σ (pQ f)) (hdd : d' + 1 ≤ d) (hmc : mc ≤ bc) (hms : ms ≤ bs) (hst : st = As.reverse ++ .ref b :: rest) (hcat : (rest.map fun v => v.category).sum ≤ 8)
    (kk : ∀ r σ', f r σ' → G l M d (bc - mc) (bs - ms) post σ' (pc + 3) ls (va_rf r :: rest)) : G l M d bc bs post σ pc ls st := by
  refine g_callV As hd hk hm hn hb hc ct hdd hmc hms hst hcat (fun v σ' hp => ?_)
  obtain ⟨r, rfl, h⟩ := hp
  exact kk r σ' h
theorem g_callSi {My : gM} {idx n d' mc ms : Nat} {f : Int32 → gH → Prop} {st : List Value} (As : List Value) (hd : decode M.2.1 pc = .ok (.invokestatic idx, 3)) (hk : gLk M.1.cls idx My.1) (hm : gMs My n) (hn : As.length = n) (ct : Ct l My d' mc ms As σ (pI f)) (hdd : d' + 1 ≤ d) (hmc : mc ≤ bc) (hms : ms ≤ bs) (hst : st = As.reverse ++ rest) (hcat : (rest.map fun v => v.category).sum ≤ 8)
    (kk : ∀ r σ', f r σ' → G l M d (bc - mc) (bs - ms) post σ' (pc + 3) ls (.int r :: rest)) : G l M d bc bs post σ pc ls st := by
  refine g_callS As hd hk hm hn ct hdd hmc hms hst hcat (fun v σ' hp => ?_)
  obtain ⟨r, rfl, h⟩ := hp
  exact kk r σ' h
theorem g_callSl {My : gM} {idx n d' mc ms : Nat} {f : Int64 → gH → Prop} {st : List Value} (As : List Value) (hd : decode M.2.1 pc = .ok (.invokestatic idx, 3)) (hk : gLk M.1.cls idx My.1) (hm : gMs My n) (hn : As.length = n) (ct : Ct l My d' mc ms As σ (pL f)) (hdd : d' + 1 ≤ d) (hmc : mc ≤ bc) (hms : ms ≤ bs) (hst : st = As.reverse ++ rest) (hcat : (rest.map fun v => v.category).sum ≤ 8)
    (kk : ∀ r σ', f r σ' → G l M d (bc - mc) (bs - ms) post σ' (pc + 3) ls (.long r :: rest)) : G l M d bc bs post σ pc ls st := by
  refine g_callS As hd hk hm hn ct hdd hmc hms hst hcat (fun v σ' hp => ?_)
  obtain ⟨r, rfl, h⟩ := hp
  exact kk r σ' h
theorem g_callSv {My : gM} {idx n d' mc ms : Nat} {f : gH → Prop} {st : List Value} (As : List Value) (hd : decode M.2.1 pc = .ok (.invokestatic idx, 3)) (hk : gLk M.1.cls idx My.1) (hm : gMs My n) (hn : As.length = n) (ct : Ct l My d' mc ms As σ (pV f)) (hdd : d' + 1 ≤ d) (hmc : mc ≤ bc) (hms : ms ≤ bs) (hst : st = As.reverse ++ rest) (hcat : (rest.map fun v => v.category).sum ≤ 8)
    (kk : ∀ σ', f σ' → G l M d (bc - mc) (bs - ms) post σ' (pc + 3) ls rest) : G l M d bc bs post σ pc ls st := by
  refine g_callS As hd hk hm hn ct hdd hmc hms hst hcat (fun v σ' hp => ?_)
  obtain ⟨rfl, h⟩ := hp
  exact kk σ' h
theorem g_callSq {My : gM} {idx n d' mc ms : Nat} {f : Option Nat → gH → Prop} {st : List Value} (As : List Value) (hd : decode M.2.1 pc = .ok (.invokestatic idx, 3)) (hk : gLk M.1.cls idx My.1) (hm : gMs My n) (hn : As.length = n) (ct : Ct l My d' mc ms As σ (pQ f)) (hdd : d' + 1 ≤ d) (hmc : mc ≤ bc) (hms : ms ≤ bs) (hst : st = As.reverse ++ rest) (hcat : (rest.map fun v => v.category).sum ≤ 8)
    (kk : ∀ r σ', f r σ' → G l M d (bc - mc) (bs - ms) post σ' (pc + 3) ls (va_rf r :: rest)) : G l M d bc bs post σ pc ls st := by
  refine g_callS As hd hk hm hn ct hdd hmc hms hst hcat (fun v σ' hp => ?_)
  obtain ⟨r, rfl, h⟩ := hp
  exact kk r σ' h
theorem g_callIv {My : gM} {idx n d' mc ms b : Nat} {f : gH → Prop} {st : List Value} (As : List Value) (hd : decode M.2.1 pc = .ok (.invokespecial idx, 3)) (hk : gLk M.1.cls idx My.1) (hm : gMi My n) (hn : As.length = n) (ct : Ct l My d' mc ms (.ref b :: As) σ (pV f)) (hdd : d' + 1 ≤ d) (hmc : mc ≤ bc) (hms : ms ≤ bs) (hst : st = As.reverse ++ .ref b :: rest) (hcat : (rest.map fun v => v.category).sum ≤ 8)
    (kk : ∀ σ', f σ' → G l M d (bc - mc) (bs - ms) post σ' (pc + 3) ls rest) : G l M d bc bs post σ pc ls st := by
  refine g_callI As hd hk hm hn ct hdd hmc hms hst hcat (fun v σ' hp => ?_)
  obtain ⟨rfl, h⟩ := hp
  exact kk σ' h
end GTyped
end
section
theorem iX0 : ∀ q ∈ u_ws RX0 TX0 5, q ∈ lw_g := by decide +kernel
theorem iX1 : ∀ q ∈ u_ws RX1 TX1 4, q ∈ lw_g := by decide +kernel
theorem iX3 : ∀ q ∈ u_ws RX3 TX3 5, q ∈ lw_g := by decide +kernel
theorem iX4 : ∀ q ∈ u_ws RX4 TX4 2, q ∈ lw_g := by decide +kernel
theorem iX5 : ∀ q ∈ u_ws RX5 TX5 4, q ∈ lw_g := by decide +kernel
theorem iX7 : ∀ q ∈ u_ws RX7 TX7 4, q ∈ lw_g := by decide +kernel
theorem iX8 : ∀ q ∈ u_ws RX8 TX8 14, q ∈ lw_g := by decide +kernel
theorem iX9 : ∀ q ∈ u_ws RX9 TX9 6, q ∈ lw_g := by decide +kernel
theorem iX10 : ∀ q ∈ u_ws RX10 TX10 10, q ∈ lw_g := by decide +kernel
theorem iX11 : ∀ q ∈ u_ws RX11 TX11 40, q ∈ lw_g := by decide +kernel
abbrev mX0_init : gM := (yX0_init, cX0_init, 7, none)
theorem moX0_init : gMo mX0_init 5 := ⟨gin 253 (by decide +kernel) rfl, gin 62 (by decide +kernel) rfl, ⟨by decide +kernel, by decide +kernel, by decide +kernel⟩, by decide, by decide +kernel⟩
theorem mvX0_init : gMi mX0_init 5 := ⟨moX0_init, gin 252 (by decide +kernel) rfl, rfl, rfl⟩
abbrev mX0_isOnForm : gM := (yX0_isOnForm, cX0_isOnForm, 2, some .boolean)
theorem moX0_isOnForm : gMo mX0_isOnForm 1 := ⟨gin 475 (by decide +kernel) rfl, gin 62 (by decide +kernel) rfl, ⟨by decide +kernel, by decide +kernel, by decide +kernel⟩, by decide, by decide +kernel⟩
theorem mvX0_isOnForm : gMv mX0_isOnForm 1 := ⟨moX0_isOnForm, gin 473 (by decide +kernel) rfl, gin 474 (by decide +kernel) rfl⟩
abbrev mX1_init : gM := (yX1_init, cX1_init, 6, none)
theorem moX1_init : gMo mX1_init 4 := ⟨gin 325 (by decide +kernel) rfl, gin 64 (by decide +kernel) rfl, ⟨by decide +kernel, by decide +kernel, by decide +kernel⟩, by decide, by decide +kernel⟩
theorem mvX1_init : gMi mX1_init 4 := ⟨moX1_init, gin 324 (by decide +kernel) rfl, rfl, rfl⟩
abbrev mX1_isAsking : gM := (yX1_isAsking, cX1_isAsking, 8, some .boolean)
theorem moX1_isAsking : gMo mX1_isAsking 4 := ⟨gin 314 (by decide +kernel) rfl, gin 64 (by decide +kernel) rfl, ⟨by decide +kernel, by decide +kernel, by decide +kernel⟩, by decide, by decide +kernel⟩
theorem mvX1_isAsking : gMs mX1_isAsking 4 := ⟨moX1_isAsking, gin 313 (by decide +kernel) rfl⟩
abbrev mX1_asksOf : gM := (yX1_asksOf, cX1_asksOf, 5, some .boolean)
theorem moX1_asksOf : gMo mX1_asksOf 1 := ⟨gin 552 (by decide +kernel) rfl, gin 64 (by decide +kernel) rfl, ⟨by decide +kernel, by decide +kernel, by decide +kernel⟩, by decide, by decide +kernel⟩
theorem mvX1_asksOf : gMv mX1_asksOf 1 := ⟨moX1_asksOf, gin 550 (by decide +kernel) rfl, gin 551 (by decide +kernel) rfl⟩
abbrev mX1_answer : gM := (yX1_answer, cX1_answer, 9, some .long)
theorem moX1_answer : gMo mX1_answer 1 := ⟨gin 539 (by decide +kernel) rfl, gin 64 (by decide +kernel) rfl, ⟨by decide +kernel, by decide +kernel, by decide +kernel⟩, by decide, by decide +kernel⟩
theorem mvX1_answer : gMv mX1_answer 1 := ⟨moX1_answer, gin 537 (by decide +kernel) rfl, gin 538 (by decide +kernel) rfl⟩
abbrev mX1_numberOf : gM := (yX1_numberOf, cX1_numberOf, 3, some .long)
theorem moX1_numberOf : gMo mX1_numberOf 1 := ⟨gin 543 (by decide +kernel) rfl, gin 64 (by decide +kernel) rfl, ⟨by decide +kernel, by decide +kernel, by decide +kernel⟩, by decide, by decide +kernel⟩
theorem mvX1_numberOf : gMv mX1_numberOf 1 := ⟨moX1_numberOf, gin 542 (by decide +kernel) rfl, gin 11 (by decide +kernel) rfl⟩
abbrev mX1_towardsZero : gM := (yX1_towardsZero, cX1_towardsZero, 3, some .long)
theorem moX1_towardsZero : gMo mX1_towardsZero 1 := ⟨gin 547 (by decide +kernel) rfl, gin 64 (by decide +kernel) rfl, ⟨by decide +kernel, by decide +kernel, by decide +kernel⟩, by decide, by decide +kernel⟩
theorem mvX1_towardsZero : gMv mX1_towardsZero 1 := ⟨moX1_towardsZero, gin 546 (by decide +kernel) rfl, gin 12 (by decide +kernel) rfl⟩
abbrev mX2_isWidth : gM := (yX2_isWidth, cX2_isWidth, 1, some .boolean)
theorem moX2_isWidth : gMo mX2_isWidth 1 := ⟨gin 214 (by decide +kernel) rfl, gin 60 (by decide +kernel) rfl, ⟨by decide +kernel, by decide +kernel, by decide +kernel⟩, by decide, by decide +kernel⟩
theorem mvX2_isWidth : gMs mX2_isWidth 1 := ⟨moX2_isWidth, gin 213 (by decide +kernel) rfl⟩
abbrev mX2_mask : gM := (yX2_mask, cX2_mask, 1, some .long)
theorem moX2_mask : gMo mX2_mask 1 := ⟨gin 302 (by decide +kernel) rfl, gin 60 (by decide +kernel) rfl, ⟨by decide +kernel, by decide +kernel, by decide +kernel⟩, by decide, by decide +kernel⟩
theorem mvX2_mask : gMs mX2_mask 1 := ⟨moX2_mask, gin 301 (by decide +kernel) rfl⟩
abbrev mX2_signedOf : gM := (yX2_signedOf, cX2_signedOf, 3, some .long)
theorem moX2_signedOf : gMo mX2_signedOf 2 := ⟨gin 318 (by decide +kernel) rfl, gin 60 (by decide +kernel) rfl, ⟨by decide +kernel, by decide +kernel, by decide +kernel⟩, by decide, by decide +kernel⟩
theorem mvX2_signedOf : gMs mX2_signedOf 2 := ⟨moX2_signedOf, gin 317 (by decide +kernel) rfl⟩
abbrev mX2_below : gM := (yX2_below, cX2_below, 4, some .boolean)
theorem moX2_below : gMo mX2_below 2 := ⟨gin 404 (by decide +kernel) rfl, gin 60 (by decide +kernel) rfl, ⟨by decide +kernel, by decide +kernel, by decide +kernel⟩, by decide, by decide +kernel⟩
theorem mvX2_below : gMs mX2_below 2 := ⟨moX2_below, gin 403 (by decide +kernel) rfl⟩
abbrev mX2_quotient : gM := (yX2_quotient, cX2_quotient, 6, some .long)
theorem moX2_quotient : gMo mX2_quotient 2 := ⟨gin 401 (by decide +kernel) rfl, gin 60 (by decide +kernel) rfl, ⟨by decide +kernel, by decide +kernel, by decide +kernel⟩, by decide, by decide +kernel⟩
theorem mvX2_quotient : gMs mX2_quotient 2 := ⟨moX2_quotient, gin 400 (by decide +kernel) rfl⟩
abbrev mX2_highPlain : gM := (yX2_highPlain, cX2_highPlain, 5, some .long)
theorem moX2_highPlain : gMo mX2_highPlain 3 := ⟨gin 518 (by decide +kernel) rfl, gin 60 (by decide +kernel) rfl, ⟨by decide +kernel, by decide +kernel, by decide +kernel⟩, by decide, by decide +kernel⟩
theorem mvX2_highPlain : gMs mX2_highPlain 3 := ⟨moX2_highPlain, gin 517 (by decide +kernel) rfl⟩
abbrev mX2_highSigned : gM := (yX2_highSigned, cX2_highSigned, 5, some .long)
theorem moX2_highSigned : gMo mX2_highSigned 3 := ⟨gin 525 (by decide +kernel) rfl, gin 60 (by decide +kernel) rfl, ⟨by decide +kernel, by decide +kernel, by decide +kernel⟩, by decide, by decide +kernel⟩
theorem mvX2_highSigned : gMs mX2_highSigned 3 := ⟨moX2_highSigned, gin 524 (by decide +kernel) rfl⟩
abbrev mX2_highOf64 : gM := (yX2_highOf64, cX2_highOf64, 18, some .long)
theorem moX2_highOf64 : gMo mX2_highOf64 2 := ⟨gin 521 (by decide +kernel) rfl, gin 60 (by decide +kernel) rfl, ⟨by decide +kernel, by decide +kernel, by decide +kernel⟩, by decide, by decide +kernel⟩
theorem mvX2_highOf64 : gMs mX2_highOf64 2 := ⟨moX2_highOf64, gin 520 (by decide +kernel) rfl⟩
abbrev mX2_inverseOf : gM := (yX2_inverseOf, cX2_inverseOf, 6, some .long)
theorem moX2_inverseOf : gMo mX2_inverseOf 2 := ⟨gin 452 (by decide +kernel) rfl, gin 60 (by decide +kernel) rfl, ⟨by decide +kernel, by decide +kernel, by decide +kernel⟩, by decide, by decide +kernel⟩
theorem mvX2_inverseOf : gMs mX2_inverseOf 2 := ⟨moX2_inverseOf, gin 451 (by decide +kernel) rfl⟩
abbrev mX3_init : gM := (yX3_init, cX3_init, 1, none)
theorem moX3_init : gMo mX3_init 0 := ⟨gin 222 (by decide +kernel) rfl, gin 61 (by decide +kernel) rfl, ⟨by decide +kernel, by decide +kernel, by decide +kernel⟩, by decide, by decide +kernel⟩
theorem mvX3_init : gMi mX3_init 0 := ⟨moX3_init, gin 221 (by decide +kernel) rfl, rfl, rfl⟩
abbrev mX3_begin : gM := (yX3_begin, cX3_begin, 2, none)
theorem moX3_begin : gMo mX3_begin 1 := ⟨gin 248 (by decide +kernel) rfl, gin 61 (by decide +kernel) rfl, ⟨by decide +kernel, by decide +kernel, by decide +kernel⟩, by decide, by decide +kernel⟩
theorem mvX3_begin : gMv mX3_begin 1 := ⟨moX3_begin, gin 246 (by decide +kernel) rfl, gin 247 (by decide +kernel) rfl⟩
abbrev mX3_hasStep : gM := (yX3_hasStep, cX3_hasStep, 2, some .boolean)
theorem moX3_hasStep : gMo mX3_hasStep 1 := ⟨gin 487 (by decide +kernel) rfl, gin 61 (by decide +kernel) rfl, ⟨by decide +kernel, by decide +kernel, by decide +kernel⟩, by decide, by decide +kernel⟩
theorem mvX3_hasStep : gMv mX3_hasStep 1 := ⟨moX3_hasStep, gin 485 (by decide +kernel) rfl, gin 486 (by decide +kernel) rfl⟩
abbrev mX3_add : gM := (yX3_add, cX3_add, 5, some .int)
theorem moX3_add : gMo mX3_add 3 := ⟨gin 307 (by decide +kernel) rfl, gin 61 (by decide +kernel) rfl, ⟨by decide +kernel, by decide +kernel, by decide +kernel⟩, by decide, by decide +kernel⟩
theorem mvX3_add : gMv mX3_add 3 := ⟨moX3_add, gin 305 (by decide +kernel) rfl, gin 306 (by decide +kernel) rfl⟩
abbrev mX3_removeLast : gM := (yX3_removeLast, cX3_removeLast, 1, none)
theorem moX3_removeLast : gMo mX3_removeLast 0 := ⟨gin 660 (by decide +kernel) rfl, gin 61 (by decide +kernel) rfl, ⟨by decide +kernel, by decide +kernel, by decide +kernel⟩, by decide, by decide +kernel⟩
theorem mvX3_removeLast : gMv mX3_removeLast 0 := ⟨moX3_removeLast, gin 658 (by decide +kernel) rfl, gin 659 (by decide +kernel) rfl⟩
abbrev mX3_work : gM := (yX3_work, cX3_work, 8, none)
theorem moX3_work : gMo mX3_work 3 := ⟨gin 508 (by decide +kernel) rfl, gin 61 (by decide +kernel) rfl, ⟨by decide +kernel, by decide +kernel, by decide +kernel⟩, by decide, by decide +kernel⟩
theorem mvX3_work : gMv mX3_work 3 := ⟨moX3_work, gin 506 (by decide +kernel) rfl, gin 507 (by decide +kernel) rfl⟩
abbrev mX4_init : gM := (yX4_init, cX4_init, 1, none)
theorem moX4_init : gMo mX4_init 0 := ⟨gin 108 (by decide +kernel) rfl, gin 56 (by decide +kernel) rfl, ⟨by decide +kernel, by decide +kernel, by decide +kernel⟩, by decide, by decide +kernel⟩
theorem mvX4_init : gMi mX4_init 0 := ⟨moX4_init, gin 107 (by decide +kernel) rfl, rfl, rfl⟩
abbrev mX4_add : gM := (yX4_add, cX4_add, 3, none)
theorem moX4_add : gMo mX4_add 1 := ⟨gin 279 (by decide +kernel) rfl, gin 56 (by decide +kernel) rfl, ⟨by decide +kernel, by decide +kernel, by decide +kernel⟩, by decide, by decide +kernel⟩
theorem mvX4_add : gMv mX4_add 1 := ⟨moX4_add, gin 277 (by decide +kernel) rfl, gin 278 (by decide +kernel) rfl⟩
abbrev mX4_takeLatest : gM := (yX4_takeLatest, cX4_takeLatest, 2, some (.object "DivideSmith$Act"))
theorem moX4_takeLatest : gMo mX4_takeLatest 0 := ⟨gin 649 (by decide +kernel) rfl, gin 56 (by decide +kernel) rfl, ⟨by decide +kernel, by decide +kernel, by decide +kernel⟩, by decide, by decide +kernel⟩
theorem mvX4_takeLatest : gMv mX4_takeLatest 0 := ⟨moX4_takeLatest, gin 647 (by decide +kernel) rfl, gin 648 (by decide +kernel) rfl⟩
abbrev mX4_forgetForm : gM := (yX4_forgetForm, cX4_forgetForm, 5, none)
theorem moX4_forgetForm : gMo mX4_forgetForm 1 := ⟨gin 471 (by decide +kernel) rfl, gin 56 (by decide +kernel) rfl, ⟨by decide +kernel, by decide +kernel, by decide +kernel⟩, by decide, by decide +kernel⟩
theorem mvX4_forgetForm : gMv mX4_forgetForm 1 := ⟨moX4_forgetForm, gin 469 (by decide +kernel) rfl, gin 470 (by decide +kernel) rfl⟩
abbrev mX5_init : gM := (yX5_init, cX5_init, 6, none)
theorem moX5_init : gMo mX5_init 4 := ⟨gin 83 (by decide +kernel) rfl, gin 55 (by decide +kernel) rfl, ⟨by decide +kernel, by decide +kernel, by decide +kernel⟩, by decide, by decide +kernel⟩
theorem mvX5_init : gMi mX5_init 4 := ⟨moX5_init, gin 82 (by decide +kernel) rfl, rfl, rfl⟩
abbrev mX5_multiplies : gM := (yX5_multiplies, cX5_multiplies, 1, some .boolean)
theorem moX5_multiplies : gMo mX5_multiplies 0 := ⟨gin 692 (by decide +kernel) rfl, gin 55 (by decide +kernel) rfl, ⟨by decide +kernel, by decide +kernel, by decide +kernel⟩, by decide, by decide +kernel⟩
theorem mvX5_multiplies : gMv mX5_multiplies 0 := ⟨moX5_multiplies, gin 690 (by decide +kernel) rfl, gin 691 (by decide +kernel) rfl⟩
abbrev mX5_hasPlace : gM := (yX5_hasPlace, cX5_hasPlace, 2, some .boolean)
theorem moX5_hasPlace : gMo mX5_hasPlace 1 := ⟨gin 667 (by decide +kernel) rfl, gin 55 (by decide +kernel) rfl, ⟨by decide +kernel, by decide +kernel, by decide +kernel⟩, by decide, by decide +kernel⟩
theorem mvX5_hasPlace : gMv mX5_hasPlace 1 := ⟨moX5_hasPlace, gin 665 (by decide +kernel) rfl, gin 666 (by decide +kernel) rfl⟩
abbrev mX6_takesOperand : gM := (yX6_takesOperand, cX6_takesOperand, 1, some .boolean)
theorem moX6_takesOperand : gMo mX6_takesOperand 1 := ⟨gin 296 (by decide +kernel) rfl, gin 63 (by decide +kernel) rfl, ⟨by decide +kernel, by decide +kernel, by decide +kernel⟩, by decide, by decide +kernel⟩
theorem mvX6_takesOperand : gMs mX6_takesOperand 1 := ⟨moX6_takesOperand, gin 295 (by decide +kernel) rfl⟩
abbrev mX6_takesCount : gM := (yX6_takesCount, cX6_takesCount, 1, some .boolean)
theorem moX6_takesCount : gMo mX6_takesCount 1 := ⟨gin 299 (by decide +kernel) rfl, gin 63 (by decide +kernel) rfl, ⟨by decide +kernel, by decide +kernel, by decide +kernel⟩, by decide, by decide +kernel⟩
theorem mvX6_takesCount : gMs mX6_takesCount 1 := ⟨moX6_takesCount, gin 298 (by decide +kernel) rfl⟩
abbrev mX6_apply : gM := (yX6_apply, cX6_apply, 6, some .long)
theorem moX6_apply : gMo mX6_apply 4 := ⟨gin 513 (by decide +kernel) rfl, gin 63 (by decide +kernel) rfl, ⟨by decide +kernel, by decide +kernel, by decide +kernel⟩, by decide, by decide +kernel⟩
theorem mvX6_apply : gMs mX6_apply 4 := ⟨moX6_apply, gin 512 (by decide +kernel) rfl⟩
abbrev mX7_init : gM := (yX7_init, cX7_init, 15, none)
theorem moX7_init : gMo mX7_init 3 := ⟨gin 396 (by decide +kernel) rfl, gin 67 (by decide +kernel) rfl, ⟨by decide +kernel, by decide +kernel, by decide +kernel⟩, by decide, by decide +kernel⟩
theorem mvX7_init : gMi mX7_init 3 := ⟨moX7_init, gin 395 (by decide +kernel) rfl, rfl, rfl⟩
abbrev mX7_isAbovePower : gM := (yX7_isAbovePower, cX7_isAbovePower, 3, some .boolean)
theorem moX7_isAbovePower : gMo mX7_isAbovePower 2 := ⟨gin 408 (by decide +kernel) rfl, gin 67 (by decide +kernel) rfl, ⟨by decide +kernel, by decide +kernel, by decide +kernel⟩, by decide, by decide +kernel⟩
theorem mvX7_isAbovePower : gMs mX7_isAbovePower 2 := ⟨moX7_isAbovePower, gin 407 (by decide +kernel) rfl⟩
abbrev mX8_init : gM := (yX8_init, cX8_init, 1, none)
theorem moX8_init : gMo mX8_init 0 := ⟨gin 124 (by decide +kernel) rfl, gin 57 (by decide +kernel) rfl, ⟨by decide +kernel, by decide +kernel, by decide +kernel⟩, by decide, by decide +kernel⟩
theorem mvX8_init : gMi mX8_init 0 := ⟨moX8_init, gin 123 (by decide +kernel) rfl, rfl, rfl⟩
abbrev mX8_prepare : gM := (yX8_prepare, cX8_prepare, 7, none)
theorem moX8_prepare : gMo mX8_prepare 3 := ⟨gin 588 (by decide +kernel) rfl, gin 57 (by decide +kernel) rfl, ⟨by decide +kernel, by decide +kernel, by decide +kernel⟩, by decide, by decide +kernel⟩
theorem mvX8_prepare : gMv mX8_prepare 3 := ⟨moX8_prepare, gin 586 (by decide +kernel) rfl, gin 587 (by decide +kernel) rfl⟩
abbrev mX8_listChoices : gM := (yX8_listChoices, cX8_listChoices, 5, none)
theorem moX8_listChoices : gMo mX8_listChoices 1 := ⟨gin 595 (by decide +kernel) rfl, gin 57 (by decide +kernel) rfl, ⟨by decide +kernel, by decide +kernel, by decide +kernel⟩, by decide, by decide +kernel⟩
theorem mvX8_listChoices : gMv mX8_listChoices 1 := ⟨moX8_listChoices, gin 594 (by decide +kernel) rfl, gin 13 (by decide +kernel) rfl⟩
abbrev mX8_listTold : gM := (yX8_listTold, cX8_listTold, 8, none)
theorem moX8_listTold : gMo mX8_listTold 3 := ⟨gin 604 (by decide +kernel) rfl, gin 57 (by decide +kernel) rfl, ⟨by decide +kernel, by decide +kernel, by decide +kernel⟩, by decide, by decide +kernel⟩
theorem mvX8_listTold : gMv mX8_listTold 3 := ⟨moX8_listTold, gin 603 (by decide +kernel) rfl, gin 15 (by decide +kernel) rfl⟩
abbrev mX8_stoodBefore : gM := (yX8_stoodBefore, cX8_stoodBefore, 5, some .boolean)
theorem moX8_stoodBefore : gMo mX8_stoodBefore 3 := ⟨gin 610 (by decide +kernel) rfl, gin 57 (by decide +kernel) rfl, ⟨by decide +kernel, by decide +kernel, by decide +kernel⟩, by decide, by decide +kernel⟩
theorem mvX8_stoodBefore : gMs mX8_stoodBefore 3 := ⟨moX8_stoodBefore, gin 609 (by decide +kernel) rfl⟩
abbrev mX8_addChoice : gM := (yX8_addChoice, cX8_addChoice, 6, none)
theorem moX8_addChoice : gMo mX8_addChoice 4 := ⟨gin 600 (by decide +kernel) rfl, gin 57 (by decide +kernel) rfl, ⟨by decide +kernel, by decide +kernel, by decide +kernel⟩, by decide, by decide +kernel⟩
theorem mvX8_addChoice : gMv mX8_addChoice 4 := ⟨moX8_addChoice, gin 599 (by decide +kernel) rfl, gin 14 (by decide +kernel) rfl⟩
abbrev mX8_extend : gM := (yX8_extend, cX8_extend, 9, none)
theorem moX8_extend : gMo mX8_extend 4 := ⟨gin 614 (by decide +kernel) rfl, gin 57 (by decide +kernel) rfl, ⟨by decide +kernel, by decide +kernel, by decide +kernel⟩, by decide, by decide +kernel⟩
theorem mvX8_extend : gMv mX8_extend 4 := ⟨moX8_extend, gin 613 (by decide +kernel) rfl, gin 16 (by decide +kernel) rfl⟩
abbrev mX8_isRight : gM := (yX8_isRight, cX8_isRight, 3, some .boolean)
theorem moX8_isRight : gMo mX8_isRight 1 := ⟨gin 619 (by decide +kernel) rfl, gin 57 (by decide +kernel) rfl, ⟨by decide +kernel, by decide +kernel, by decide +kernel⟩, by decide, by decide +kernel⟩
theorem mvX8_isRight : gMv mX8_isRight 1 := ⟨moX8_isRight, gin 618 (by decide +kernel) rfl, gin 17 (by decide +kernel) rfl⟩
abbrev mX8_fillUpTo : gM := (yX8_fillUpTo, cX8_fillUpTo, 5, none)
theorem moX8_fillUpTo : gMo mX8_fillUpTo 2 := ⟨gin 623 (by decide +kernel) rfl, gin 57 (by decide +kernel) rfl, ⟨by decide +kernel, by decide +kernel, by decide +kernel⟩, by decide, by decide +kernel⟩
theorem mvX8_fillUpTo : gMv mX8_fillUpTo 2 := ⟨moX8_fillUpTo, gin 622 (by decide +kernel) rfl, gin 18 (by decide +kernel) rfl⟩
abbrev mX8_valueOf : gM := (yX8_valueOf, cX8_valueOf, 6, some .long)
theorem moX8_valueOf : gMo mX8_valueOf 2 := ⟨gin 627 (by decide +kernel) rfl, gin 57 (by decide +kernel) rfl, ⟨by decide +kernel, by decide +kernel, by decide +kernel⟩, by decide, by decide +kernel⟩
theorem mvX8_valueOf : gMv mX8_valueOf 2 := ⟨moX8_valueOf, gin 626 (by decide +kernel) rfl, gin 19 (by decide +kernel) rfl⟩
abbrev mX8_keep : gM := (yX8_keep, cX8_keep, 4, none)
theorem moX8_keep : gMo mX8_keep 2 := ⟨gin 632 (by decide +kernel) rfl, gin 57 (by decide +kernel) rfl, ⟨by decide +kernel, by decide +kernel, by decide +kernel⟩, by decide, by decide +kernel⟩
theorem mvX8_keep : gMv mX8_keep 2 := ⟨moX8_keep, gin 631 (by decide +kernel) rfl, gin 20 (by decide +kernel) rfl⟩
abbrev mX8_writeBest : gM := (yX8_writeBest, cX8_writeBest, 4, none)
theorem moX8_writeBest : gMo mX8_writeBest 1 := ⟨gin 636 (by decide +kernel) rfl, gin 57 (by decide +kernel) rfl, ⟨by decide +kernel, by decide +kernel, by decide +kernel⟩, by decide, by decide +kernel⟩
theorem mvX8_writeBest : gMv mX8_writeBest 1 := ⟨moX8_writeBest, gin 634 (by decide +kernel) rfl, gin 635 (by decide +kernel) rfl⟩
abbrev mX9_init : gM := (yX9_init, cX9_init, 5, none)
theorem moX9_init : gMo mX9_init 2 := ⟨gin 347 (by decide +kernel) rfl, gin 65 (by decide +kernel) rfl, ⟨by decide +kernel, by decide +kernel, by decide +kernel⟩, by decide, by decide +kernel⟩
theorem mvX9_init : gMi mX9_init 2 := ⟨moX9_init, gin 346 (by decide +kernel) rfl, rfl, rfl⟩
abbrev mX9_writePlain : gM := (yX9_writePlain, cX9_writePlain, 1, none)
theorem moX9_writePlain : gMo mX9_writePlain 0 := ⟨gin 463 (by decide +kernel) rfl, gin 65 (by decide +kernel) rfl, ⟨by decide +kernel, by decide +kernel, by decide +kernel⟩, by decide, by decide +kernel⟩
theorem mvX9_writePlain : gMv mX9_writePlain 0 := ⟨moX9_writePlain, gin 461 (by decide +kernel) rfl, gin 462 (by decide +kernel) rfl⟩
abbrev mX9_writeSigned : gM := (yX9_writeSigned, cX9_writeSigned, 3, none)
theorem moX9_writeSigned : gMo mX9_writeSigned 0 := ⟨gin 378 (by decide +kernel) rfl, gin 65 (by decide +kernel) rfl, ⟨by decide +kernel, by decide +kernel, by decide +kernel⟩, by decide, by decide +kernel⟩
theorem mvX9_writeSigned : gMv mX9_writeSigned 0 := ⟨moX9_writeSigned, gin 376 (by decide +kernel) rfl, gin 377 (by decide +kernel) rfl⟩
abbrev mX9_plainQuotient : gM := (yX9_plainQuotient, cX9_plainQuotient, 7, some .int)
theorem moX9_plainQuotient : gMo mX9_plainQuotient 1 := ⟨gin 437 (by decide +kernel) rfl, gin 65 (by decide +kernel) rfl, ⟨by decide +kernel, by decide +kernel, by decide +kernel⟩, by decide, by decide +kernel⟩
theorem mvX9_plainQuotient : gMv mX9_plainQuotient 1 := ⟨moX9_plainQuotient, gin 436 (by decide +kernel) rfl, gin 6 (by decide +kernel) rfl⟩
abbrev mX9_signedQuotient : gM := (yX9_signedQuotient, cX9_signedQuotient, 2, some .int)
theorem moX9_signedQuotient : gMo mX9_signedQuotient 0 := ⟨gin 382 (by decide +kernel) rfl, gin 65 (by decide +kernel) rfl, ⟨by decide +kernel, by decide +kernel, by decide +kernel⟩, by decide, by decide +kernel⟩
theorem mvX9_signedQuotient : gMv mX9_signedQuotient 0 := ⟨moX9_signedQuotient, gin 381 (by decide +kernel) rfl, gin 2 (by decide +kernel) rfl⟩
abbrev mX9_signedByShifting : gM := (yX9_signedByShifting, cX9_signedByShifting, 4, some .int)
theorem moX9_signedByShifting : gMo mX9_signedByShifting 0 := ⟨gin 387 (by decide +kernel) rfl, gin 65 (by decide +kernel) rfl, ⟨by decide +kernel, by decide +kernel, by decide +kernel⟩, by decide, by decide +kernel⟩
theorem mvX9_signedByShifting : gMv mX9_signedByShifting 0 := ⟨moX9_signedByShifting, gin 386 (by decide +kernel) rfl, gin 3 (by decide +kernel) rfl⟩
abbrev mX9_signedByMultiplying : gM := (yX9_signedByMultiplying, cX9_signedByMultiplying, 4, some .int)
theorem moX9_signedByMultiplying : gMo mX9_signedByMultiplying 0 := ⟨gin 391 (by decide +kernel) rfl, gin 65 (by decide +kernel) rfl, ⟨by decide +kernel, by decide +kernel, by decide +kernel⟩, by decide, by decide +kernel⟩
theorem mvX9_signedByMultiplying : gMv mX9_signedByMultiplying 0 := ⟨moX9_signedByMultiplying, gin 390 (by decide +kernel) rfl, gin 4 (by decide +kernel) rfl⟩
abbrev mX9_quotientDownwards : gM := (yX9_quotientDownwards, cX9_quotientDownwards, 3, some .int)
theorem moX9_quotientDownwards : gMo mX9_quotientDownwards 0 := ⟨gin 433 (by decide +kernel) rfl, gin 65 (by decide +kernel) rfl, ⟨by decide +kernel, by decide +kernel, by decide +kernel⟩, by decide, by decide +kernel⟩
theorem mvX9_quotientDownwards : gMv mX9_quotientDownwards 0 := ⟨moX9_quotientDownwards, gin 432 (by decide +kernel) rfl, gin 5 (by decide +kernel) rfl⟩
abbrev mX9_sizeOfNumber : gM := (yX9_sizeOfNumber, cX9_sizeOfNumber, 3, some .int)
theorem moX9_sizeOfNumber : gMo mX9_sizeOfNumber 0 := ⟨gin 445 (by decide +kernel) rfl, gin 65 (by decide +kernel) rfl, ⟨by decide +kernel, by decide +kernel, by decide +kernel⟩, by decide, by decide +kernel⟩
theorem mvX9_sizeOfNumber : gMv mX9_sizeOfNumber 0 := ⟨moX9_sizeOfNumber, gin 444 (by decide +kernel) rfl, gin 8 (by decide +kernel) rfl⟩
abbrev mX9_restAfter : gM := (yX9_restAfter, cX9_restAfter, 3, none)
theorem moX9_restAfter : gMo mX9_restAfter 1 := ⟨gin 441 (by decide +kernel) rfl, gin 65 (by decide +kernel) rfl, ⟨by decide +kernel, by decide +kernel, by decide +kernel⟩, by decide, by decide +kernel⟩
theorem mvX9_restAfter : gMv mX9_restAfter 1 := ⟨moX9_restAfter, gin 440 (by decide +kernel) rfl, gin 7 (by decide +kernel) rfl⟩
abbrev mX9_noRest : gM := (yX9_noRest, cX9_noRest, 3, none)
theorem moX9_noRest : gMo mX9_noRest 1 := ⟨gin 449 (by decide +kernel) rfl, gin 65 (by decide +kernel) rfl, ⟨by decide +kernel, by decide +kernel, by decide +kernel⟩, by decide, by decide +kernel⟩
theorem mvX9_noRest : gMv mX9_noRest 1 := ⟨moX9_noRest, gin 448 (by decide +kernel) rfl, gin 9 (by decide +kernel) rfl⟩
abbrev mX9_exact : gM := (yX9_exact, cX9_exact, 6, none)
theorem moX9_exact : gMo mX9_exact 3 := ⟨gin 459 (by decide +kernel) rfl, gin 65 (by decide +kernel) rfl, ⟨by decide +kernel, by decide +kernel, by decide +kernel⟩, by decide, by decide +kernel⟩
theorem mvX9_exact : gMv mX9_exact 3 := ⟨moX9_exact, gin 458 (by decide +kernel) rfl, gin 10 (by decide +kernel) rfl⟩
abbrev mX10_init : gM := (yX10_init, cX10_init, 2, none)
theorem moX10_init : gMo mX10_init 0 := ⟨gin 72 (by decide +kernel) rfl, gin 54 (by decide +kernel) rfl, ⟨by decide +kernel, by decide +kernel, by decide +kernel⟩, by decide, by decide +kernel⟩
theorem mvX10_init : gMi mX10_init 0 := ⟨moX10_init, gin 71 (by decide +kernel) rfl, rfl, rfl⟩
abbrev mX10_form : gM := (yX10_form, cX10_form, 2, some .int)
theorem moX10_form : gMo mX10_form 1 := ⟨gin 211 (by decide +kernel) rfl, gin 54 (by decide +kernel) rfl, ⟨by decide +kernel, by decide +kernel, by decide +kernel⟩, by decide, by decide +kernel⟩
theorem mvX10_form : gMv mX10_form 1 := ⟨moX10_form, gin 209 (by decide +kernel) rfl, gin 210 (by decide +kernel) rfl⟩
abbrev mX10_step : gM := (yX10_step, cX10_step, 7, some .int)
theorem moX10_step : gMo mX10_step 4 := ⟨gin 283 (by decide +kernel) rfl, gin 54 (by decide +kernel) rfl, ⟨by decide +kernel, by decide +kernel, by decide +kernel⟩, by decide, by decide +kernel⟩
theorem mvX10_step : gMv mX10_step 4 := ⟨moX10_step, gin 281 (by decide +kernel) rfl, gin 282 (by decide +kernel) rfl⟩
abbrev mX10_make : gM := (yX10_make, cX10_make, 7, some .int)
theorem moX10_make : gMo mX10_make 4 := ⟨gin 311 (by decide +kernel) rfl, gin 54 (by decide +kernel) rfl, ⟨by decide +kernel, by decide +kernel, by decide +kernel⟩, by decide, by decide +kernel⟩
theorem mvX10_make : gMv mX10_make 4 := ⟨moX10_make, gin 309 (by decide +kernel) rfl, gin 310 (by decide +kernel) rfl⟩
abbrev mX10_drop : gM := (yX10_drop, cX10_drop, 1, some .int)
theorem moX10_drop : gMo mX10_drop 0 := ⟨gin 467 (by decide +kernel) rfl, gin 54 (by decide +kernel) rfl, ⟨by decide +kernel, by decide +kernel, by decide +kernel⟩, by decide, by decide +kernel⟩
theorem mvX10_drop : gMv mX10_drop 0 := ⟨moX10_drop, gin 465 (by decide +kernel) rfl, gin 466 (by decide +kernel) rfl⟩
abbrev mX10_steps : gM := (yX10_steps, cX10_steps, 3, some .int)
theorem moX10_steps : gMo mX10_steps 1 := ⟨gin 479 (by decide +kernel) rfl, gin 54 (by decide +kernel) rfl, ⟨by decide +kernel, by decide +kernel, by decide +kernel⟩, by decide, by decide +kernel⟩
theorem mvX10_steps : gMv mX10_steps 1 := ⟨moX10_steps, gin 477 (by decide +kernel) rfl, gin 478 (by decide +kernel) rfl⟩
abbrev mX10_told : gM := (yX10_told, cX10_told, 5, some .long)
theorem moX10_told : gMo mX10_told 3 := ⟨gin 483 (by decide +kernel) rfl, gin 54 (by decide +kernel) rfl, ⟨by decide +kernel, by decide +kernel, by decide +kernel⟩, by decide, by decide +kernel⟩
theorem mvX10_told : gMv mX10_told 3 := ⟨moX10_told, gin 481 (by decide +kernel) rfl, gin 482 (by decide +kernel) rfl⟩
abbrev mX10_width : gM := (yX10_width, cX10_width, 3, some .int)
theorem moX10_width : gMo mX10_width 1 := ⟨gin 492 (by decide +kernel) rfl, gin 54 (by decide +kernel) rfl, ⟨by decide +kernel, by decide +kernel, by decide +kernel⟩, by decide, by decide +kernel⟩
theorem mvX10_width : gMv mX10_width 1 := ⟨moX10_width, gin 490 (by decide +kernel) rfl, gin 491 (by decide +kernel) rfl⟩
abbrev mX10_cost : gM := (yX10_cost, cX10_cost, 5, some .int)
theorem moX10_cost : gMo mX10_cost 1 := ⟨gin 496 (by decide +kernel) rfl, gin 54 (by decide +kernel) rfl, ⟨by decide +kernel, by decide +kernel, by decide +kernel⟩, by decide, by decide +kernel⟩
theorem mvX10_cost : gMv mX10_cost 1 := ⟨moX10_cost, gin 494 (by decide +kernel) rfl, gin 495 (by decide +kernel) rfl⟩
abbrev mX10_price : gM := (yX10_price, cX10_price, 4, some .int)
theorem moX10_price : gMo mX10_price 2 := ⟨gin 500 (by decide +kernel) rfl, gin 54 (by decide +kernel) rfl, ⟨by decide +kernel, by decide +kernel, by decide +kernel⟩, by decide, by decide +kernel⟩
theorem mvX10_price : gMv mX10_price 2 := ⟨moX10_price, gin 498 (by decide +kernel) rfl, gin 499 (by decide +kernel) rfl⟩
abbrev mX10_run : gM := (yX10_run, cX10_run, 5, some .long)
theorem moX10_run : gMo mX10_run 2 := ⟨gin 504 (by decide +kernel) rfl, gin 54 (by decide +kernel) rfl, ⟨by decide +kernel, by decide +kernel, by decide +kernel⟩, by decide, by decide +kernel⟩
theorem mvX10_run : gMv mX10_run 2 := ⟨moX10_run, gin 502 (by decide +kernel) rfl, gin 503 (by decide +kernel) rfl⟩
abbrev mX10_end : gM := (yX10_end, cX10_end, 6, some .long)
theorem moX10_end : gMo mX10_end 3 := ⟨gin 531 (by decide +kernel) rfl, gin 54 (by decide +kernel) rfl, ⟨by decide +kernel, by decide +kernel, by decide +kernel⟩, by decide, by decide +kernel⟩
theorem mvX10_end : gMv mX10_end 3 := ⟨moX10_end, gin 529 (by decide +kernel) rfl, gin 530 (by decide +kernel) rfl⟩
abbrev mX10_fails : gM := (yX10_fails, cX10_fails, 10, some .int)
theorem moX10_fails : gMo mX10_fails 4 := ⟨gin 535 (by decide +kernel) rfl, gin 54 (by decide +kernel) rfl, ⟨by decide +kernel, by decide +kernel, by decide +kernel⟩, by decide, by decide +kernel⟩
theorem mvX10_fails : gMv mX10_fails 4 := ⟨moX10_fails, gin 533 (by decide +kernel) rfl, gin 534 (by decide +kernel) rfl⟩
abbrev mX10_plain : gM := (yX10_plain, cX10_plain, 8, some .long)
theorem moX10_plain : gMo mX10_plain 5 := ⟨gin 556 (by decide +kernel) rfl, gin 54 (by decide +kernel) rfl, ⟨by decide +kernel, by decide +kernel, by decide +kernel⟩, by decide, by decide +kernel⟩
theorem mvX10_plain : gMv mX10_plain 5 := ⟨moX10_plain, gin 554 (by decide +kernel) rfl, gin 555 (by decide +kernel) rfl⟩
abbrev mX10_proof : gM := (yX10_proof, cX10_proof, 8, some .long)
theorem moX10_proof : gMo mX10_proof 3 := ⟨gin 560 (by decide +kernel) rfl, gin 54 (by decide +kernel) rfl, ⟨by decide +kernel, by decide +kernel, by decide +kernel⟩, by decide, by decide +kernel⟩
theorem mvX10_proof : gMv mX10_proof 3 := ⟨moX10_proof, gin 558 (by decide +kernel) rfl, gin 559 (by decide +kernel) rfl⟩
abbrev mX10_check : gM := (yX10_check, cX10_check, 21, some .int)
theorem moX10_check : gMo mX10_check 5 := ⟨gin 566 (by decide +kernel) rfl, gin 54 (by decide +kernel) rfl, ⟨by decide +kernel, by decide +kernel, by decide +kernel⟩, by decide, by decide +kernel⟩
theorem mvX10_check : gMv mX10_check 5 := ⟨moX10_check, gin 564 (by decide +kernel) rfl, gin 565 (by decide +kernel) rfl⟩
abbrev mX10_inverse : gM := (yX10_inverse, cX10_inverse, 4, some .long)
theorem moX10_inverse : gMo mX10_inverse 2 := ⟨gin 575 (by decide +kernel) rfl, gin 54 (by decide +kernel) rfl, ⟨by decide +kernel, by decide +kernel, by decide +kernel⟩, by decide, by decide +kernel⟩
theorem mvX10_inverse : gMv mX10_inverse 2 := ⟨moX10_inverse, gin 573 (by decide +kernel) rfl, gin 574 (by decide +kernel) rfl⟩
abbrev mX10_tell : gM := (yX10_tell, cX10_tell, 6, some .long)
theorem moX10_tell : gMo mX10_tell 2 := ⟨gin 580 (by decide +kernel) rfl, gin 54 (by decide +kernel) rfl, ⟨by decide +kernel, by decide +kernel, by decide +kernel⟩, by decide, by decide +kernel⟩
theorem mvX10_tell : gMv mX10_tell 2 := ⟨moX10_tell, gin 578 (by decide +kernel) rfl, gin 579 (by decide +kernel) rfl⟩
abbrev mX10_least : gM := (yX10_least, cX10_least, 7, some .int)
theorem moX10_least : gMo mX10_least 4 := ⟨gin 584 (by decide +kernel) rfl, gin 54 (by decide +kernel) rfl, ⟨by decide +kernel, by decide +kernel, by decide +kernel⟩, by decide, by decide +kernel⟩
theorem mvX10_least : gMv mX10_least 4 := ⟨moX10_least, gin 582 (by decide +kernel) rfl, gin 583 (by decide +kernel) rfl⟩
abbrev mX10_count : gM := (yX10_count, cX10_count, 2, some .int)
theorem moX10_count : gMo mX10_count 1 := ⟨gin 641 (by decide +kernel) rfl, gin 54 (by decide +kernel) rfl, ⟨by decide +kernel, by decide +kernel, by decide +kernel⟩, by decide, by decide +kernel⟩
theorem mvX10_count : gMv mX10_count 1 := ⟨moX10_count, gin 639 (by decide +kernel) rfl, gin 640 (by decide +kernel) rfl⟩
abbrev mX10_undo : gM := (yX10_undo, cX10_undo, 2, some .int)
theorem moX10_undo : gMo mX10_undo 0 := ⟨gin 645 (by decide +kernel) rfl, gin 54 (by decide +kernel) rfl, ⟨by decide +kernel, by decide +kernel, by decide +kernel⟩, by decide, by decide +kernel⟩
theorem mvX10_undo : gMv mX10_undo 0 := ⟨moX10_undo, gin 643 (by decide +kernel) rfl, gin 644 (by decide +kernel) rfl⟩
abbrev mX10_hook : gM := (yX10_hook, cX10_hook, 7, some .int)
theorem moX10_hook : gMo mX10_hook 4 := ⟨gin 671 (by decide +kernel) rfl, gin 54 (by decide +kernel) rfl, ⟨by decide +kernel, by decide +kernel, by decide +kernel⟩, by decide, by decide +kernel⟩
theorem mvX10_hook : gMv mX10_hook 4 := ⟨moX10_hook, gin 669 (by decide +kernel) rfl, gin 670 (by decide +kernel) rfl⟩
abbrev mX10_held : gM := (yX10_held, cX10_held, 2, some .int)
theorem moX10_held : gMo mX10_held 1 := ⟨gin 682 (by decide +kernel) rfl, gin 54 (by decide +kernel) rfl, ⟨by decide +kernel, by decide +kernel, by decide +kernel⟩, by decide, by decide +kernel⟩
theorem mvX10_held : gMv mX10_held 1 := ⟨moX10_held, gin 680 (by decide +kernel) rfl, gin 681 (by decide +kernel) rfl⟩
abbrev mX10_use : gM := (yX10_use, cX10_use, 6, some .int)
theorem moX10_use : gMo mX10_use 4 := ⟨gin 686 (by decide +kernel) rfl, gin 54 (by decide +kernel) rfl, ⟨by decide +kernel, by decide +kernel, by decide +kernel⟩, by decide, by decide +kernel⟩
theorem mvX10_use : gMv mX10_use 4 := ⟨moX10_use, gin 684 (by decide +kernel) rfl, gin 685 (by decide +kernel) rfl⟩
abbrev mX10_isKind : gM := (yX10_isKind, cX10_isKind, 1, some .boolean)
theorem moX10_isKind : gMo mX10_isKind 1 := ⟨gin 290 (by decide +kernel) rfl, gin 54 (by decide +kernel) rfl, ⟨by decide +kernel, by decide +kernel, by decide +kernel⟩, by decide, by decide +kernel⟩
theorem mvX10_isKind : gMs mX10_isKind 1 := ⟨moX10_isKind, gin 289 (by decide +kernel) rfl⟩
abbrev mX10_fitsAsY : gM := (yX10_fitsAsY, cX10_fitsAsY, 4, some .boolean)
theorem moX10_fitsAsY : gMo mX10_fitsAsY 3 := ⟨gin 293 (by decide +kernel) rfl, gin 54 (by decide +kernel) rfl, ⟨by decide +kernel, by decide +kernel, by decide +kernel⟩, by decide, by decide +kernel⟩
theorem mvX10_fitsAsY : gMs mX10_fitsAsY 3 := ⟨moX10_fitsAsY, gin 292 (by decide +kernel) rfl⟩
abbrev mX10_formAt : gM := (yX10_formAt, cX10_formAt, 2, some (.object "DivideSmith$Form"))
theorem moX10_formAt : gMo mX10_formAt 1 := ⟨gin 287 (by decide +kernel) rfl, gin 54 (by decide +kernel) rfl, ⟨by decide +kernel, by decide +kernel, by decide +kernel⟩, by decide, by decide +kernel⟩
theorem mvX10_formAt : gMv mX10_formAt 1 := ⟨moX10_formAt, gin 286 (by decide +kernel) rfl, gin 1 (by decide +kernel) rfl⟩
abbrev mX10_openForm : gM := (yX10_openForm, cX10_openForm, 3, some (.object "DivideSmith$Form"))
theorem moX10_openForm : gMo mX10_openForm 1 := ⟨gin 218 (by decide +kernel) rfl, gin 54 (by decide +kernel) rfl, ⟨by decide +kernel, by decide +kernel, by decide +kernel⟩, by decide, by decide +kernel⟩
theorem mvX10_openForm : gMv mX10_openForm 1 := ⟨moX10_openForm, gin 217 (by decide +kernel) rfl, gin 0 (by decide +kernel) rfl⟩
abbrev mX10_proofHolds : gM := (yX10_proofHolds, cX10_proofHolds, 7, some .boolean)
theorem moX10_proofHolds : gMo mX10_proofHolds 5 := ⟨gin 571 (by decide +kernel) rfl, gin 54 (by decide +kernel) rfl, ⟨by decide +kernel, by decide +kernel, by decide +kernel⟩, by decide, by decide +kernel⟩
theorem mvX10_proofHolds : gMs mX10_proofHolds 5 := ⟨moX10_proofHolds, gin 570 (by decide +kernel) rfl⟩
abbrev mX10_takeBack : gM := (yX10_takeBack, cX10_takeBack, 2, none)
theorem moX10_takeBack : gMo mX10_takeBack 1 := ⟨gin 653 (by decide +kernel) rfl, gin 54 (by decide +kernel) rfl, ⟨by decide +kernel, by decide +kernel, by decide +kernel⟩, by decide, by decide +kernel⟩
theorem mvX10_takeBack : gMv mX10_takeBack 1 := ⟨moX10_takeBack, gin 652 (by decide +kernel) rfl, gin 21 (by decide +kernel) rfl⟩
abbrev mX10_removeStep : gM := (yX10_removeStep, cX10_removeStep, 1, none)
theorem moX10_removeStep : gMo mX10_removeStep 1 := ⟨gin 656 (by decide +kernel) rfl, gin 54 (by decide +kernel) rfl, ⟨by decide +kernel, by decide +kernel, by decide +kernel⟩, by decide, by decide +kernel⟩
theorem mvX10_removeStep : gMs mX10_removeStep 1 := ⟨moX10_removeStep, gin 655 (by decide +kernel) rfl⟩
abbrev mX10_restoreCell : gM := (yX10_restoreCell, cX10_restoreCell, 4, none)
theorem moX10_restoreCell : gMo mX10_restoreCell 3 := ⟨gin 663 (by decide +kernel) rfl, gin 54 (by decide +kernel) rfl, ⟨by decide +kernel, by decide +kernel, by decide +kernel⟩, by decide, by decide +kernel⟩
theorem mvX10_restoreCell : gMs mX10_restoreCell 3 := ⟨moX10_restoreCell, gin 662 (by decide +kernel) rfl⟩
abbrev mX10_rowOf : gM := (yX10_rowOf, cX10_rowOf, 7, some (.object "DivideSmith$Holding"))
theorem moX10_rowOf : gMo mX10_rowOf 4 := ⟨gin 675 (by decide +kernel) rfl, gin 54 (by decide +kernel) rfl, ⟨by decide +kernel, by decide +kernel, by decide +kernel⟩, by decide, by decide +kernel⟩
theorem mvX10_rowOf : gMv mX10_rowOf 4 := ⟨moX10_rowOf, gin 674 (by decide +kernel) rfl, gin 22 (by decide +kernel) rfl⟩
abbrev mX10_narrowed : gM := (yX10_narrowed, cX10_narrowed, 3, some .long)
theorem moX10_narrowed : gMo mX10_narrowed 2 := ⟨gin 678 (by decide +kernel) rfl, gin 54 (by decide +kernel) rfl, ⟨by decide +kernel, by decide +kernel, by decide +kernel⟩, by decide, by decide +kernel⟩
theorem mvX10_narrowed : gMs mX10_narrowed 2 := ⟨moX10_narrowed, gin 677 (by decide +kernel) rfl⟩
abbrev mX10_copyAnswer : gM := (yX10_copyAnswer, cX10_copyAnswer, 3, some .int)
theorem moX10_copyAnswer : gMo mX10_copyAnswer 3 := ⟨gin 695 (by decide +kernel) rfl, gin 54 (by decide +kernel) rfl, ⟨by decide +kernel, by decide +kernel, by decide +kernel⟩, by decide, by decide +kernel⟩
theorem mvX10_copyAnswer : gMs mX10_copyAnswer 3 := ⟨moX10_copyAnswer, gin 694 (by decide +kernel) rfl⟩
abbrev mX10_rowAnswer : gM := (yX10_rowAnswer, cX10_rowAnswer, 10, some .int)
theorem moX10_rowAnswer : gMo mX10_rowAnswer 4 := ⟨gin 699 (by decide +kernel) rfl, gin 54 (by decide +kernel) rfl, ⟨by decide +kernel, by decide +kernel, by decide +kernel⟩, by decide, by decide +kernel⟩
theorem mvX10_rowAnswer : gMv mX10_rowAnswer 4 := ⟨moX10_rowAnswer, gin 698 (by decide +kernel) rfl, gin 23 (by decide +kernel) rfl⟩
abbrev mX11_init : gM := (yX11_init, cX11_init, 1, none)
theorem moX11_init : gMo mX11_init 0 := ⟨gin 704 (by decide +kernel) rfl, gin 59 (by decide +kernel) rfl, ⟨by decide +kernel, by decide +kernel, by decide +kernel⟩, by decide, by decide +kernel⟩
theorem mvX11_init : gMi mX11_init 0 := ⟨moX11_init, gin 703 (by decide +kernel) rfl, rfl, rfl⟩
abbrev mX11_isWidth : gM := (yX11_isWidth, cX11_isWidth, 1, some .boolean)
theorem moX11_isWidth : gMo mX11_isWidth 1 := ⟨gin 833 (by decide +kernel) rfl, gin 59 (by decide +kernel) rfl, ⟨by decide +kernel, by decide +kernel, by decide +kernel⟩, by decide, by decide +kernel⟩
theorem mvX11_isWidth : gMs mX11_isWidth 1 := ⟨moX11_isWidth, gin 832 (by decide +kernel) rfl⟩
abbrev mX11_low : gM := (yX11_low, cX11_low, 3, some .long)
theorem moX11_low : gMo mX11_low 2 := ⟨gin 870 (by decide +kernel) rfl, gin 59 (by decide +kernel) rfl, ⟨by decide +kernel, by decide +kernel, by decide +kernel⟩, by decide, by decide +kernel⟩
theorem mvX11_low : gMs mX11_low 2 := ⟨moX11_low, gin 869 (by decide +kernel) rfl⟩
abbrev mX11_isUp : gM := (yX11_isUp, cX11_isUp, 3, some .boolean)
theorem moX11_isUp : gMo mX11_isUp 2 := ⟨gin 885 (by decide +kernel) rfl, gin 59 (by decide +kernel) rfl, ⟨by decide +kernel, by decide +kernel, by decide +kernel⟩, by decide, by decide +kernel⟩
theorem mvX11_isUp : gMs mX11_isUp 2 := ⟨moX11_isUp, gin 884 (by decide +kernel) rfl⟩
abbrev mX11_signed : gM := (yX11_signed, cX11_signed, 3, some .long)
theorem moX11_signed : gMo mX11_signed 2 := ⟨gin 937 (by decide +kernel) rfl, gin 59 (by decide +kernel) rfl, ⟨by decide +kernel, by decide +kernel, by decide +kernel⟩, by decide, by decide +kernel⟩
theorem mvX11_signed : gMs mX11_signed 2 := ⟨moX11_signed, gin 936 (by decide +kernel) rfl⟩
abbrev mX11_isUnder : gM := (yX11_isUnder, cX11_isUnder, 4, some .boolean)
theorem moX11_isUnder : gMo mX11_isUnder 2 := ⟨gin 908 (by decide +kernel) rfl, gin 59 (by decide +kernel) rfl, ⟨by decide +kernel, by decide +kernel, by decide +kernel⟩, by decide, by decide +kernel⟩
theorem mvX11_isUnder : gMs mX11_isUnder 2 := ⟨moX11_isUnder, gin 907 (by decide +kernel) rfl⟩
abbrev mX11_upper : gM := (yX11_upper, cX11_upper, 16, some .long)
theorem moX11_upper : gMo mX11_upper 2 := ⟨gin 974 (by decide +kernel) rfl, gin 59 (by decide +kernel) rfl, ⟨by decide +kernel, by decide +kernel, by decide +kernel⟩, by decide, by decide +kernel⟩
theorem mvX11_upper : gMs mX11_upper 2 := ⟨moX11_upper, gin 973 (by decide +kernel) rfl⟩
abbrev mX11_upperPlain : gM := (yX11_upperPlain, cX11_upperPlain, 5, some .long)
theorem moX11_upperPlain : gMo mX11_upperPlain 3 := ⟨gin 971 (by decide +kernel) rfl, gin 59 (by decide +kernel) rfl, ⟨by decide +kernel, by decide +kernel, by decide +kernel⟩, by decide, by decide +kernel⟩
theorem mvX11_upperPlain : gMs mX11_upperPlain 3 := ⟨moX11_upperPlain, gin 970 (by decide +kernel) rfl⟩
abbrev mX11_upperSigned : gM := (yX11_upperSigned, cX11_upperSigned, 5, some .long)
theorem moX11_upperSigned : gMo mX11_upperSigned 3 := ⟨gin 978 (by decide +kernel) rfl, gin 59 (by decide +kernel) rfl, ⟨by decide +kernel, by decide +kernel, by decide +kernel⟩, by decide, by decide +kernel⟩
theorem mvX11_upperSigned : gMs mX11_upperSigned 3 := ⟨moX11_upperSigned, gin 977 (by decide +kernel) rfl⟩
abbrev mX11_quotient : gM := (yX11_quotient, cX11_quotient, 11, some .long)
theorem moX11_quotient : gMo mX11_quotient 2 := ⟨gin 905 (by decide +kernel) rfl, gin 59 (by decide +kernel) rfl, ⟨by decide +kernel, by decide +kernel, by decide +kernel⟩, by decide, by decide +kernel⟩
theorem mvX11_quotient : gMv mX11_quotient 2 := ⟨moX11_quotient, gin 904 (by decide +kernel) rfl, gin 35 (by decide +kernel) rfl⟩
abbrev mX11_inverseOf : gM := (yX11_inverseOf, cX11_inverseOf, 5, some .long)
theorem moX11_inverseOf : gMo mX11_inverseOf 1 := ⟨gin 921 (by decide +kernel) rfl, gin 59 (by decide +kernel) rfl, ⟨by decide +kernel, by decide +kernel, by decide +kernel⟩, by decide, by decide +kernel⟩
theorem mvX11_inverseOf : gMs mX11_inverseOf 1 := ⟨moX11_inverseOf, gin 920 (by decide +kernel) rfl⟩
abbrev mX11_isForm : gM := (yX11_isForm, cX11_isForm, 2, some .boolean)
theorem moX11_isForm : gMo mX11_isForm 1 := ⟨gin 857 (by decide +kernel) rfl, gin 59 (by decide +kernel) rfl, ⟨by decide +kernel, by decide +kernel, by decide +kernel⟩, by decide, by decide +kernel⟩
theorem mvX11_isForm : gMv mX11_isForm 1 := ⟨moX11_isForm, gin 856 (by decide +kernel) rfl, gin 28 (by decide +kernel) rfl⟩
abbrev mX11_takesOperand : gM := (yX11_takesOperand, cX11_takesOperand, 1, some .boolean)
theorem moX11_takesOperand : gMo mX11_takesOperand 1 := ⟨gin 860 (by decide +kernel) rfl, gin 59 (by decide +kernel) rfl, ⟨by decide +kernel, by decide +kernel, by decide +kernel⟩, by decide, by decide +kernel⟩
theorem mvX11_takesOperand : gMs mX11_takesOperand 1 := ⟨moX11_takesOperand, gin 859 (by decide +kernel) rfl⟩
abbrev mX11_takesCount : gM := (yX11_takesCount, cX11_takesCount, 1, some .boolean)
theorem moX11_takesCount : gMo mX11_takesCount 1 := ⟨gin 863 (by decide +kernel) rfl, gin 59 (by decide +kernel) rfl, ⟨by decide +kernel, by decide +kernel, by decide +kernel⟩, by decide, by decide +kernel⟩
theorem mvX11_takesCount : gMs mX11_takesCount 1 := ⟨moX11_takesCount, gin 862 (by decide +kernel) rfl⟩
abbrev mX11_worked : gM := (yX11_worked, cX11_worked, 6, some .long)
theorem moX11_worked : gMo mX11_worked 4 := ⟨gin 968 (by decide +kernel) rfl, gin 59 (by decide +kernel) rfl, ⟨by decide +kernel, by decide +kernel, by decide +kernel⟩, by decide, by decide +kernel⟩
theorem mvX11_worked : gMs mX11_worked 4 := ⟨moX11_worked, gin 967 (by decide +kernel) rfl⟩
abbrev mX11_work : gM := (yX11_work, cX11_work, 10, none)
theorem moX11_work : gMo mX11_work 3 := ⟨gin 965 (by decide +kernel) rfl, gin 59 (by decide +kernel) rfl, ⟨by decide +kernel, by decide +kernel, by decide +kernel⟩, by decide, by decide +kernel⟩
theorem mvX11_work : gMv mX11_work 3 := ⟨moX11_work, gin 964 (by decide +kernel) rfl, gin 41 (by decide +kernel) rfl⟩
abbrev mX11_add : gM := (yX11_add, cX11_add, 2, some .int)
theorem moX11_add : gMo mX11_add 1 := ⟨gin 837 (by decide +kernel) rfl, gin 59 (by decide +kernel) rfl, ⟨by decide +kernel, by decide +kernel, by decide +kernel⟩, by decide, by decide +kernel⟩
theorem mvX11_add : gMv mX11_add 1 := ⟨moX11_add, gin 836 (by decide +kernel) rfl, gin 24 (by decide +kernel) rfl⟩
abbrev mX11_put : gM := (yX11_put, cX11_put, 7, some .int)
theorem moX11_put : gMo mX11_put 4 := ⟨gin 867 (by decide +kernel) rfl, gin 59 (by decide +kernel) rfl, ⟨by decide +kernel, by decide +kernel, by decide +kernel⟩, by decide, by decide +kernel⟩
theorem mvX11_put : gMv mX11_put 4 := ⟨moX11_put, gin 866 (by decide +kernel) rfl, gin 29 (by decide +kernel) rfl⟩
abbrev mX11_moveAct : gM := (yX11_moveAct, cX11_moveAct, 3, none)
theorem moX11_moveAct : gMo mX11_moveAct 2 := ⟨gin 845 (by decide +kernel) rfl, gin 59 (by decide +kernel) rfl, ⟨by decide +kernel, by decide +kernel, by decide +kernel⟩, by decide, by decide +kernel⟩
theorem mvX11_moveAct : gMv mX11_moveAct 2 := ⟨moX11_moveAct, gin 844 (by decide +kernel) rfl, gin 26 (by decide +kernel) rfl⟩
abbrev mX11_copyHeld : gM := (yX11_copyHeld, cX11_copyHeld, 4, none)
theorem moX11_copyHeld : gMo mX11_copyHeld 2 := ⟨gin 849 (by decide +kernel) rfl, gin 59 (by decide +kernel) rfl, ⟨by decide +kernel, by decide +kernel, by decide +kernel⟩, by decide, by decide +kernel⟩
theorem mvX11_copyHeld : gMv mX11_copyHeld 2 := ⟨moX11_copyHeld, gin 848 (by decide +kernel) rfl, gin 27 (by decide +kernel) rfl⟩
abbrev mX11_note : gM := (yX11_note, cX11_note, 7, none)
theorem moX11_note : gMo mX11_note 4 := ⟨gin 841 (by decide +kernel) rfl, gin 59 (by decide +kernel) rfl, ⟨by decide +kernel, by decide +kernel, by decide +kernel⟩, by decide, by decide +kernel⟩
theorem mvX11_note : gMv mX11_note 4 := ⟨moX11_note, gin 840 (by decide +kernel) rfl, gin 25 (by decide +kernel) rfl⟩
abbrev mX11_form : gM := (yX11_form, cX11_form, 3, some .int)
theorem moX11_form : gMo mX11_form 1 := ⟨gin 830 (by decide +kernel) rfl, gin 59 (by decide +kernel) rfl, ⟨by decide +kernel, by decide +kernel, by decide +kernel⟩, by decide, by decide +kernel⟩
theorem mvX11_form : gMv mX11_form 1 := ⟨moX11_form, gin 828 (by decide +kernel) rfl, gin 829 (by decide +kernel) rfl⟩
abbrev mX11_step : gM := (yX11_step, cX11_step, 7, some .int)
theorem moX11_step : gMo mX11_step 4 := ⟨gin 853 (by decide +kernel) rfl, gin 59 (by decide +kernel) rfl, ⟨by decide +kernel, by decide +kernel, by decide +kernel⟩, by decide, by decide +kernel⟩
theorem mvX11_step : gMv mX11_step 4 := ⟨moX11_step, gin 851 (by decide +kernel) rfl, gin 852 (by decide +kernel) rfl⟩
abbrev mX11_drop : gM := (yX11_drop, cX11_drop, 3, some .int)
theorem moX11_drop : gMo mX11_drop 0 := ⟨gin 874 (by decide +kernel) rfl, gin 59 (by decide +kernel) rfl, ⟨by decide +kernel, by decide +kernel, by decide +kernel⟩, by decide, by decide +kernel⟩
theorem mvX11_drop : gMv mX11_drop 0 := ⟨moX11_drop, gin 872 (by decide +kernel) rfl, gin 873 (by decide +kernel) rfl⟩
abbrev mX11_isAsking : gM := (yX11_isAsking, cX11_isAsking, 6, some .boolean)
theorem moX11_isAsking : gMo mX11_isAsking 4 := ⟨gin 882 (by decide +kernel) rfl, gin 59 (by decide +kernel) rfl, ⟨by decide +kernel, by decide +kernel, by decide +kernel⟩, by decide, by decide +kernel⟩
theorem mvX11_isAsking : gMv mX11_isAsking 4 := ⟨moX11_isAsking, gin 881 (by decide +kernel) rfl, gin 30 (by decide +kernel) rfl⟩
abbrev mX11_take : gM := (yX11_take, cX11_take, 7, none)
theorem moX11_take : gMo mX11_take 3 := ⟨gin 889 (by decide +kernel) rfl, gin 59 (by decide +kernel) rfl, ⟨by decide +kernel, by decide +kernel, by decide +kernel⟩, by decide, by decide +kernel⟩
theorem mvX11_take : gMv mX11_take 3 := ⟨moX11_take, gin 888 (by decide +kernel) rfl, gin 31 (by decide +kernel) rfl⟩
abbrev mX11_find : gM := (yX11_find, cX11_find, 10, none)
theorem moX11_find : gMo mX11_find 2 := ⟨gin 901 (by decide +kernel) rfl, gin 59 (by decide +kernel) rfl, ⟨by decide +kernel, by decide +kernel, by decide +kernel⟩, by decide, by decide +kernel⟩
theorem mvX11_find : gMv mX11_find 2 := ⟨moX11_find, gin 900 (by decide +kernel) rfl, gin 34 (by decide +kernel) rfl⟩
abbrev mX11_plainQuotient : gM := (yX11_plainQuotient, cX11_plainQuotient, 8, some .int)
theorem moX11_plainQuotient : gMo mX11_plainQuotient 2 := ⟨gin 897 (by decide +kernel) rfl, gin 59 (by decide +kernel) rfl, ⟨by decide +kernel, by decide +kernel, by decide +kernel⟩, by decide, by decide +kernel⟩
theorem mvX11_plainQuotient : gMv mX11_plainQuotient 2 := ⟨moX11_plainQuotient, gin 896 (by decide +kernel) rfl, gin 33 (by decide +kernel) rfl⟩
abbrev mX11_plainWhole : gM := (yX11_plainWhole, cX11_plainWhole, 5, some .int)
theorem moX11_plainWhole : gMo mX11_plainWhole 2 := ⟨gin 918 (by decide +kernel) rfl, gin 59 (by decide +kernel) rfl, ⟨by decide +kernel, by decide +kernel, by decide +kernel⟩, by decide, by decide +kernel⟩
theorem mvX11_plainWhole : gMv mX11_plainWhole 2 := ⟨moX11_plainWhole, gin 917 (by decide +kernel) rfl, gin 37 (by decide +kernel) rfl⟩
abbrev mX11_restOf : gM := (yX11_restOf, cX11_restOf, 6, some .int)
theorem moX11_restOf : gMo mX11_restOf 3 := ⟨gin 914 (by decide +kernel) rfl, gin 59 (by decide +kernel) rfl, ⟨by decide +kernel, by decide +kernel, by decide +kernel⟩, by decide, by decide +kernel⟩
theorem mvX11_restOf : gMv mX11_restOf 3 := ⟨moX11_restOf, gin 913 (by decide +kernel) rfl, gin 36 (by decide +kernel) rfl⟩
abbrev mX11_writePlain : gM := (yX11_writePlain, cX11_writePlain, 4, some .int)
theorem moX11_writePlain : gMo mX11_writePlain 2 := ⟨gin 893 (by decide +kernel) rfl, gin 59 (by decide +kernel) rfl, ⟨by decide +kernel, by decide +kernel, by decide +kernel⟩, by decide, by decide +kernel⟩
theorem mvX11_writePlain : gMv mX11_writePlain 2 := ⟨moX11_writePlain, gin 892 (by decide +kernel) rfl, gin 32 (by decide +kernel) rfl⟩
abbrev mX11_signedQuotient : gM := (yX11_signedQuotient, cX11_signedQuotient, 8, some .int)
theorem moX11_signedQuotient : gMo mX11_signedQuotient 2 := ⟨gin 930 (by decide +kernel) rfl, gin 59 (by decide +kernel) rfl, ⟨by decide +kernel, by decide +kernel, by decide +kernel⟩, by decide, by decide +kernel⟩
theorem mvX11_signedQuotient : gMv mX11_signedQuotient 2 := ⟨moX11_signedQuotient, gin 929 (by decide +kernel) rfl, gin 39 (by decide +kernel) rfl⟩
abbrev mX11_signedDown : gM := (yX11_signedDown, cX11_signedDown, 5, some .int)
theorem moX11_signedDown : gMo mX11_signedDown 1 := ⟨gin 934 (by decide +kernel) rfl, gin 59 (by decide +kernel) rfl, ⟨by decide +kernel, by decide +kernel, by decide +kernel⟩, by decide, by decide +kernel⟩
theorem mvX11_signedDown : gMv mX11_signedDown 1 := ⟨moX11_signedDown, gin 933 (by decide +kernel) rfl, gin 40 (by decide +kernel) rfl⟩
abbrev mX11_writeSigned : gM := (yX11_writeSigned, cX11_writeSigned, 10, some .int)
theorem moX11_writeSigned : gMo mX11_writeSigned 3 := ⟨gin 926 (by decide +kernel) rfl, gin 59 (by decide +kernel) rfl, ⟨by decide +kernel, by decide +kernel, by decide +kernel⟩, by decide, by decide +kernel⟩
theorem mvX11_writeSigned : gMv mX11_writeSigned 3 := ⟨moX11_writeSigned, gin 925 (by decide +kernel) rfl, gin 38 (by decide +kernel) rfl⟩
abbrev mX11_make : gM := (yX11_make, cX11_make, 8, some .int)
theorem moX11_make : gMo mX11_make 4 := ⟨gin 878 (by decide +kernel) rfl, gin 59 (by decide +kernel) rfl, ⟨by decide +kernel, by decide +kernel, by decide +kernel⟩, by decide, by decide +kernel⟩
theorem mvX11_make : gMv mX11_make 4 := ⟨moX11_make, gin 876 (by decide +kernel) rfl, gin 877 (by decide +kernel) rfl⟩
abbrev mX11_steps : gM := (yX11_steps, cX11_steps, 2, some .int)
theorem moX11_steps : gMo mX11_steps 1 := ⟨gin 941 (by decide +kernel) rfl, gin 59 (by decide +kernel) rfl, ⟨by decide +kernel, by decide +kernel, by decide +kernel⟩, by decide, by decide +kernel⟩
theorem mvX11_steps : gMv mX11_steps 1 := ⟨moX11_steps, gin 939 (by decide +kernel) rfl, gin 940 (by decide +kernel) rfl⟩
abbrev mX11_told : gM := (yX11_told, cX11_told, 5, some .long)
theorem moX11_told : gMo mX11_told 3 := ⟨gin 945 (by decide +kernel) rfl, gin 59 (by decide +kernel) rfl, ⟨by decide +kernel, by decide +kernel, by decide +kernel⟩, by decide, by decide +kernel⟩
theorem mvX11_told : gMv mX11_told 3 := ⟨moX11_told, gin 943 (by decide +kernel) rfl, gin 944 (by decide +kernel) rfl⟩
abbrev mX11_width : gM := (yX11_width, cX11_width, 2, some .int)
theorem moX11_width : gMo mX11_width 1 := ⟨gin 949 (by decide +kernel) rfl, gin 59 (by decide +kernel) rfl, ⟨by decide +kernel, by decide +kernel, by decide +kernel⟩, by decide, by decide +kernel⟩
theorem mvX11_width : gMv mX11_width 1 := ⟨moX11_width, gin 947 (by decide +kernel) rfl, gin 948 (by decide +kernel) rfl⟩
abbrev mX11_cost : gM := (yX11_cost, cX11_cost, 4, some .int)
theorem moX11_cost : gMo mX11_cost 1 := ⟨gin 953 (by decide +kernel) rfl, gin 59 (by decide +kernel) rfl, ⟨by decide +kernel, by decide +kernel, by decide +kernel⟩, by decide, by decide +kernel⟩
theorem mvX11_cost : gMv mX11_cost 1 := ⟨moX11_cost, gin 951 (by decide +kernel) rfl, gin 952 (by decide +kernel) rfl⟩
abbrev mX11_price : gM := (yX11_price, cX11_price, 4, some .int)
theorem moX11_price : gMo mX11_price 2 := ⟨gin 957 (by decide +kernel) rfl, gin 59 (by decide +kernel) rfl, ⟨by decide +kernel, by decide +kernel, by decide +kernel⟩, by decide, by decide +kernel⟩
theorem mvX11_price : gMv mX11_price 2 := ⟨moX11_price, gin 955 (by decide +kernel) rfl, gin 956 (by decide +kernel) rfl⟩
abbrev mX11_run : gM := (yX11_run, cX11_run, 4, some .long)
theorem moX11_run : gMo mX11_run 2 := ⟨gin 961 (by decide +kernel) rfl, gin 59 (by decide +kernel) rfl, ⟨by decide +kernel, by decide +kernel, by decide +kernel⟩, by decide, by decide +kernel⟩
theorem mvX11_run : gMv mX11_run 2 := ⟨moX11_run, gin 959 (by decide +kernel) rfl, gin 960 (by decide +kernel) rfl⟩
abbrev mX11_end : gM := (yX11_end, cX11_end, 5, some .long)
theorem moX11_end : gMo mX11_end 3 := ⟨gin 982 (by decide +kernel) rfl, gin 59 (by decide +kernel) rfl, ⟨by decide +kernel, by decide +kernel, by decide +kernel⟩, by decide, by decide +kernel⟩
theorem mvX11_end : gMv mX11_end 3 := ⟨moX11_end, gin 980 (by decide +kernel) rfl, gin 981 (by decide +kernel) rfl⟩
abbrev mX11_signedDivided : gM := (yX11_signedDivided, cX11_signedDivided, 5, some .long)
theorem moX11_signedDivided : gMo mX11_signedDivided 2 := ⟨gin 994 (by decide +kernel) rfl, gin 59 (by decide +kernel) rfl, ⟨by decide +kernel, by decide +kernel, by decide +kernel⟩, by decide, by decide +kernel⟩
theorem mvX11_signedDivided : gMv mX11_signedDivided 2 := ⟨moX11_signedDivided, gin 993 (by decide +kernel) rfl, gin 43 (by decide +kernel) rfl⟩
abbrev mX11_asked : gM := (yX11_asked, cX11_asked, 16, some .long)
theorem moX11_asked : gMo mX11_asked 5 := ⟨gin 990 (by decide +kernel) rfl, gin 59 (by decide +kernel) rfl, ⟨by decide +kernel, by decide +kernel, by decide +kernel⟩, by decide, by decide +kernel⟩
theorem mvX11_asked : gMv mX11_asked 5 := ⟨moX11_asked, gin 989 (by decide +kernel) rfl, gin 42 (by decide +kernel) rfl⟩
abbrev mX11_fails : gM := (yX11_fails, cX11_fails, 10, some .int)
theorem moX11_fails : gMo mX11_fails 4 := ⟨gin 986 (by decide +kernel) rfl, gin 59 (by decide +kernel) rfl, ⟨by decide +kernel, by decide +kernel, by decide +kernel⟩, by decide, by decide +kernel⟩
theorem mvX11_fails : gMv mX11_fails 4 := ⟨moX11_fails, gin 984 (by decide +kernel) rfl, gin 985 (by decide +kernel) rfl⟩
abbrev mX11_plain : gM := (yX11_plain, cX11_plain, 8, some .long)
theorem moX11_plain : gMo mX11_plain 5 := ⟨gin 998 (by decide +kernel) rfl, gin 59 (by decide +kernel) rfl, ⟨by decide +kernel, by decide +kernel, by decide +kernel⟩, by decide, by decide +kernel⟩
theorem mvX11_plain : gMv mX11_plain 5 := ⟨moX11_plain, gin 996 (by decide +kernel) rfl, gin 997 (by decide +kernel) rfl⟩
abbrev mX11_proof : gM := (yX11_proof, cX11_proof, 5, some .long)
theorem moX11_proof : gMo mX11_proof 3 := ⟨gin 1002 (by decide +kernel) rfl, gin 59 (by decide +kernel) rfl, ⟨by decide +kernel, by decide +kernel, by decide +kernel⟩, by decide, by decide +kernel⟩
theorem mvX11_proof : gMv mX11_proof 3 := ⟨moX11_proof, gin 1000 (by decide +kernel) rfl, gin 1001 (by decide +kernel) rfl⟩
abbrev mX11_check : gM := (yX11_check, cX11_check, 17, some .int)
theorem moX11_check : gMo mX11_check 5 := ⟨gin 1006 (by decide +kernel) rfl, gin 59 (by decide +kernel) rfl, ⟨by decide +kernel, by decide +kernel, by decide +kernel⟩, by decide, by decide +kernel⟩
theorem mvX11_check : gMv mX11_check 5 := ⟨moX11_check, gin 1004 (by decide +kernel) rfl, gin 1005 (by decide +kernel) rfl⟩
abbrev mX11_addBit : gM := (yX11_addBit, cX11_addBit, 5, none)
theorem moX11_addBit : gMo mX11_addBit 2 := ⟨gin 1010 (by decide +kernel) rfl, gin 59 (by decide +kernel) rfl, ⟨by decide +kernel, by decide +kernel, by decide +kernel⟩, by decide, by decide +kernel⟩
theorem mvX11_addBit : gMv mX11_addBit 2 := ⟨moX11_addBit, gin 1009 (by decide +kernel) rfl, gin 44 (by decide +kernel) rfl⟩
abbrev mX11_takeBit : gM := (yX11_takeBit, cX11_takeBit, 3, none)
theorem moX11_takeBit : gMo mX11_takeBit 1 := ⟨gin 1015 (by decide +kernel) rfl, gin 59 (by decide +kernel) rfl, ⟨by decide +kernel, by decide +kernel, by decide +kernel⟩, by decide, by decide +kernel⟩
theorem mvX11_takeBit : gMv mX11_takeBit 1 := ⟨moX11_takeBit, gin 1014 (by decide +kernel) rfl, gin 45 (by decide +kernel) rfl⟩
abbrev mX11_inverse : gM := (yX11_inverse, cX11_inverse, 4, some .long)
theorem moX11_inverse : gMo mX11_inverse 2 := ⟨gin 1019 (by decide +kernel) rfl, gin 59 (by decide +kernel) rfl, ⟨by decide +kernel, by decide +kernel, by decide +kernel⟩, by decide, by decide +kernel⟩
theorem mvX11_inverse : gMv mX11_inverse 2 := ⟨moX11_inverse, gin 1017 (by decide +kernel) rfl, gin 1018 (by decide +kernel) rfl⟩
abbrev mX11_tell : gM := (yX11_tell, cX11_tell, 6, some .long)
theorem moX11_tell : gMo mX11_tell 2 := ⟨gin 1023 (by decide +kernel) rfl, gin 59 (by decide +kernel) rfl, ⟨by decide +kernel, by decide +kernel, by decide +kernel⟩, by decide, by decide +kernel⟩
theorem mvX11_tell : gMv mX11_tell 2 := ⟨moX11_tell, gin 1021 (by decide +kernel) rfl, gin 1022 (by decide +kernel) rfl⟩
abbrev mX11_mayBe : gM := (yX11_mayBe, cX11_mayBe, 6, some .boolean)
theorem moX11_mayBe : gMo mX11_mayBe 2 := ⟨gin 1035 (by decide +kernel) rfl, gin 59 (by decide +kernel) rfl, ⟨by decide +kernel, by decide +kernel, by decide +kernel⟩, by decide, by decide +kernel⟩
theorem mvX11_mayBe : gMv mX11_mayBe 2 := ⟨moX11_mayBe, gin 1034 (by decide +kernel) rfl, gin 47 (by decide +kernel) rfl⟩
abbrev mX11_yOf : gM := (yX11_yOf, cX11_yOf, 3, some .long)
theorem moX11_yOf : gMo mX11_yOf 2 := ⟨gin 1049 (by decide +kernel) rfl, gin 59 (by decide +kernel) rfl, ⟨by decide +kernel, by decide +kernel, by decide +kernel⟩, by decide, by decide +kernel⟩
theorem mvX11_yOf : gMv mX11_yOf 2 := ⟨moX11_yOf, gin 1048 (by decide +kernel) rfl, gin 50 (by decide +kernel) rfl⟩
abbrev mX11_tryStep : gM := (yX11_tryStep, cX11_tryStep, 10, none)
theorem moX11_tryStep : gMo mX11_tryStep 3 := ⟨gin 1031 (by decide +kernel) rfl, gin 59 (by decide +kernel) rfl, ⟨by decide +kernel, by decide +kernel, by decide +kernel⟩, by decide, by decide +kernel⟩
theorem mvX11_tryStep : gMv mX11_tryStep 3 := ⟨moX11_tryStep, gin 1030 (by decide +kernel) rfl, gin 46 (by decide +kernel) rfl⟩
abbrev mX11_madeBy : gM := (yX11_madeBy, cX11_madeBy, 5, some .int)
theorem moX11_madeBy : gMo mX11_madeBy 2 := ⟨gin 1045 (by decide +kernel) rfl, gin 59 (by decide +kernel) rfl, ⟨by decide +kernel, by decide +kernel, by decide +kernel⟩, by decide, by decide +kernel⟩
theorem mvX11_madeBy : gMv mX11_madeBy 2 := ⟨moX11_madeBy, gin 1044 (by decide +kernel) rfl, gin 49 (by decide +kernel) rfl⟩
abbrev mX11_fill : gM := (yX11_fill, cX11_fill, 3, none)
theorem moX11_fill : gMo mX11_fill 1 := ⟨gin 1053 (by decide +kernel) rfl, gin 59 (by decide +kernel) rfl, ⟨by decide +kernel, by decide +kernel, by decide +kernel⟩, by decide, by decide +kernel⟩
theorem mvX11_fill : gMv mX11_fill 1 := ⟨moX11_fill, gin 1052 (by decide +kernel) rfl, gin 51 (by decide +kernel) rfl⟩
abbrev mX11_look : gM := (yX11_look, cX11_look, 4, none)
theorem moX11_look : gMo mX11_look 2 := ⟨gin 1041 (by decide +kernel) rfl, gin 59 (by decide +kernel) rfl, ⟨by decide +kernel, by decide +kernel, by decide +kernel⟩, by decide, by decide +kernel⟩
theorem mvX11_look : gMv mX11_look 2 := ⟨moX11_look, gin 1040 (by decide +kernel) rfl, gin 48 (by decide +kernel) rfl⟩
abbrev mX11_least : gM := (yX11_least, cX11_least, 9, some .int)
theorem moX11_least : gMo mX11_least 4 := ⟨gin 1027 (by decide +kernel) rfl, gin 59 (by decide +kernel) rfl, ⟨by decide +kernel, by decide +kernel, by decide +kernel⟩, by decide, by decide +kernel⟩
theorem mvX11_least : gMv mX11_least 4 := ⟨moX11_least, gin 1025 (by decide +kernel) rfl, gin 1026 (by decide +kernel) rfl⟩
abbrev mX11_count : gM := (yX11_count, cX11_count, 2, some .int)
theorem moX11_count : gMo mX11_count 1 := ⟨gin 1057 (by decide +kernel) rfl, gin 59 (by decide +kernel) rfl, ⟨by decide +kernel, by decide +kernel, by decide +kernel⟩, by decide, by decide +kernel⟩
theorem mvX11_count : gMv mX11_count 1 := ⟨moX11_count, gin 1055 (by decide +kernel) rfl, gin 1056 (by decide +kernel) rfl⟩
abbrev mX11_undo : gM := (yX11_undo, cX11_undo, 2, some .int)
theorem moX11_undo : gMo mX11_undo 0 := ⟨gin 1061 (by decide +kernel) rfl, gin 59 (by decide +kernel) rfl, ⟨by decide +kernel, by decide +kernel, by decide +kernel⟩, by decide, by decide +kernel⟩
theorem mvX11_undo : gMv mX11_undo 0 := ⟨moX11_undo, gin 1059 (by decide +kernel) rfl, gin 1060 (by decide +kernel) rfl⟩
abbrev mX11_isHook : gM := (yX11_isHook, cX11_isHook, 1, some .boolean)
theorem moX11_isHook : gMo mX11_isHook 1 := ⟨gin 1068 (by decide +kernel) rfl, gin 59 (by decide +kernel) rfl, ⟨by decide +kernel, by decide +kernel, by decide +kernel⟩, by decide, by decide +kernel⟩
theorem mvX11_isHook : gMs mX11_isHook 1 := ⟨moX11_isHook, gin 1067 (by decide +kernel) rfl⟩
abbrev mX11_hook : gM := (yX11_hook, cX11_hook, 9, some .int)
theorem moX11_hook : gMo mX11_hook 4 := ⟨gin 1065 (by decide +kernel) rfl, gin 59 (by decide +kernel) rfl, ⟨by decide +kernel, by decide +kernel, by decide +kernel⟩, by decide, by decide +kernel⟩
theorem mvX11_hook : gMv mX11_hook 4 := ⟨moX11_hook, gin 1063 (by decide +kernel) rfl, gin 1064 (by decide +kernel) rfl⟩
abbrev mX11_held : gM := (yX11_held, cX11_held, 2, some .int)
theorem moX11_held : gMo mX11_held 1 := ⟨gin 1072 (by decide +kernel) rfl, gin 59 (by decide +kernel) rfl, ⟨by decide +kernel, by decide +kernel, by decide +kernel⟩, by decide, by decide +kernel⟩
theorem mvX11_held : gMv mX11_held 1 := ⟨moX11_held, gin 1070 (by decide +kernel) rfl, gin 1071 (by decide +kernel) rfl⟩
abbrev mX11_isIn : gM := (yX11_isIn, cX11_isIn, 3, some .boolean)
theorem moX11_isIn : gMo mX11_isIn 2 := ⟨gin 1081 (by decide +kernel) rfl, gin 59 (by decide +kernel) rfl, ⟨by decide +kernel, by decide +kernel, by decide +kernel⟩, by decide, by decide +kernel⟩
theorem mvX11_isIn : gMv mX11_isIn 2 := ⟨moX11_isIn, gin 1080 (by decide +kernel) rfl, gin 52 (by decide +kernel) rfl⟩
abbrev mX11_use : gM := (yX11_use, cX11_use, 12, some .int)
theorem moX11_use : gMo mX11_use 4 := ⟨gin 1076 (by decide +kernel) rfl, gin 59 (by decide +kernel) rfl, ⟨by decide +kernel, by decide +kernel, by decide +kernel⟩, by decide, by decide +kernel⟩
theorem mvX11_use : gMv mX11_use 4 := ⟨moX11_use, gin 1074 (by decide +kernel) rfl, gin 1075 (by decide +kernel) rfl⟩
abbrev mJ13_bitCount_95d88 : gM := (yJ13_bitCount_95d88, cJ13_bitCount_95d88, 2, some .int)
theorem moJ13_bitCount_95d88 : gMo mJ13_bitCount_95d88 1 := ⟨gin 352 (by decide +kernel) rfl, gin 66 (by decide +kernel) rfl, ⟨by decide +kernel, by decide +kernel, by decide +kernel⟩, by decide, by decide +kernel⟩
theorem mvJ13_bitCount_95d88 : gMs mJ13_bitCount_95d88 1 := ⟨moJ13_bitCount_95d88, gin 351 (by decide +kernel) rfl⟩
theorem lkL_9 : gLk RL 9 yX10_init := Or.inl (gin 70 (by decide +kernel) rfl)
theorem lkX10_1 : Cond.methodLink RX10 1 Lib.objectInit ∈ lw_g := gin 73 (by decide +kernel) rfl
theorem lkX10_29 : gLk RX10 29 yX5_init := Or.inl (gin 81 (by decide +kernel) rfl)
theorem lkX5_1 : Cond.methodLink RX5 1 Lib.objectInit ∈ lw_g := gin 84 (by decide +kernel) rfl
theorem lkX4_3 : Cond.methodLink RX4 3 Lib.objectInit ∈ lw_g := gin 109 (by decide +kernel) rfl
theorem lkX8_3 : Cond.methodLink RX8 3 Lib.objectInit ∈ lw_g := gin 125 (by decide +kernel) rfl
theorem lkX10_56 : Cond.methodLink RX10 56 arraycopyName ∈ lw_g := gin 174 (by decide +kernel) rfl
theorem lkL_13 : gLk RL 13 yX10_form := Or.inl (gin 208 (by decide +kernel) rfl)
theorem lkX10_62 : gLk RX10 62 yX2_isWidth := Or.inl (gin 212 (by decide +kernel) rfl)
theorem lkX10_72 : gLk RX10 72 yX10_openForm := Or.inl (gin 215 (by decide +kernel) rfl)
theorem lkX3_3 : Cond.methodLink RX3 3 Lib.objectInit ∈ lw_g := gin 223 (by decide +kernel) rfl
theorem lkX10_261 : gLk RX10 261 yX3_begin := Or.inl (gin 245 (by decide +kernel) rfl)
theorem lkX10_102 : gLk RX10 102 yX0_init := Or.inl (gin 251 (by decide +kernel) rfl)
theorem lkX0_3 : Cond.methodLink RX0 3 Lib.objectInit ∈ lw_g := gin 254 (by decide +kernel) rfl
theorem lkX10_105 : gLk RX10 105 yX4_add := Or.inl (gin 276 (by decide +kernel) rfl)
theorem lkL_20 : gLk RL 20 yX10_step := Or.inl (gin 280 (by decide +kernel) rfl)
theorem lkX10_76 : gLk RX10 76 yX10_formAt := Or.inl (gin 284 (by decide +kernel) rfl)
theorem lkX10_79 : gLk RX10 79 yX10_isKind := Or.inl (gin 288 (by decide +kernel) rfl)
theorem lkX10_85 : gLk RX10 85 yX10_fitsAsY := Or.inl (gin 291 (by decide +kernel) rfl)
theorem lkX10_252 : gLk RX10 252 yX6_takesOperand := Or.inl (gin 294 (by decide +kernel) rfl)
theorem lkX10_257 : gLk RX10 257 yX6_takesCount := Or.inl (gin 297 (by decide +kernel) rfl)
theorem lkX10_92 : gLk RX10 92 yX2_mask := Or.inl (gin 300 (by decide +kernel) rfl)
theorem lkX10_96 : gLk RX10 96 yX3_add := Or.inl (gin 304 (by decide +kernel) rfl)
theorem lkL_25 : gLk RL 25 yX10_make := Or.inl (gin 308 (by decide +kernel) rfl)
theorem lkX10_108 : gLk RX10 108 yX1_isAsking := Or.inl (gin 312 (by decide +kernel) rfl)
theorem lkX1_36 : gLk RX1 36 yX2_isWidth := Or.inl (gin 315 (by decide +kernel) rfl)
theorem lkX1_22 : gLk RX1 22 yX2_signedOf := Or.inl (gin 316 (by decide +kernel) rfl)
theorem lkX10_116 : gLk RX10 116 yX1_init := Or.inl (gin 323 (by decide +kernel) rfl)
theorem lkX1_3 : Cond.methodLink RX1 3 Lib.objectInit ∈ lw_g := gin 326 (by decide +kernel) rfl
theorem lkX1_28 : gLk RX1 28 yX2_mask := Or.inl (gin 327 (by decide +kernel) rfl)
theorem lkX10_119 : gLk RX10 119 yX9_init := Or.inl (gin 345 (by decide +kernel) rfl)
theorem lkX9_1 : Cond.methodLink RX9 1 Lib.objectInit ∈ lw_g := gin 348 (by decide +kernel) rfl
theorem lkX9_32 : gLk RX9 32 yX2_mask := Or.inl (gin 349 (by decide +kernel) rfl)
theorem lkX9_41 : gLk RX9 41 yJ13_bitCount_95d88 := Or.inl (gin 350 (by decide +kernel) rfl)
theorem lkX10_122 : gLk RX10 122 yX9_writeSigned := Or.inl (gin 375 (by decide +kernel) rfl)
theorem lkX9_81 : gLk RX9 81 yX9_signedQuotient := Or.inl (gin 379 (by decide +kernel) rfl)
theorem lkX9_56 : gLk RX9 56 yX3_add := Or.inl (gin 383 (by decide +kernel) rfl)
theorem lkX9_105 : gLk RX9 105 yX9_signedByShifting := Or.inl (gin 384 (by decide +kernel) rfl)
theorem lkX9_108 : gLk RX9 108 yX9_signedByMultiplying := Or.inl (gin 388 (by decide +kernel) rfl)
theorem lkX9_93 : gLk RX9 93 yX7_init := Or.inl (gin 394 (by decide +kernel) rfl)
theorem lkX7_1 : Cond.methodLink RX7 1 Lib.objectInit ∈ lw_g := gin 397 (by decide +kernel) rfl
theorem lkX7_7 : gLk RX7 7 yX2_mask := Or.inl (gin 398 (by decide +kernel) rfl)
theorem lkX7_13 : gLk RX7 13 yX2_quotient := Or.inl (gin 399 (by decide +kernel) rfl)
theorem lkX2_13 : gLk RX2 13 yX2_below := Or.inl (gin 402 (by decide +kernel) rfl)
theorem lkX7_17 : gLk RX7 17 yX7_isAbovePower := Or.inl (gin 406 (by decide +kernel) rfl)
theorem lkX7_23 : gLk RX7 23 yX2_below := Or.inl (gin 409 (by decide +kernel) rfl)
theorem lkX9_85 : gLk RX9 85 yX9_quotientDownwards := Or.inl (gin 430 (by decide +kernel) rfl)
theorem lkX9_62 : gLk RX9 62 yX9_plainQuotient := Or.inl (gin 434 (by decide +kernel) rfl)
theorem lkX9_66 : gLk RX9 66 yX9_restAfter := Or.inl (gin 438 (by decide +kernel) rfl)
theorem lkX9_88 : gLk RX9 88 yX9_sizeOfNumber := Or.inl (gin 442 (by decide +kernel) rfl)
theorem lkX9_70 : gLk RX9 70 yX9_noRest := Or.inl (gin 446 (by decide +kernel) rfl)
theorem lkX9_73 : gLk RX9 73 yX2_inverseOf := Or.inl (gin 450 (by decide +kernel) rfl)
theorem lkX2_27 : gLk RX2 27 yX2_mask := Or.inl (gin 454 (by decide +kernel) rfl)
theorem lkX9_111 : gLk RX9 111 yX2_quotient := Or.inl (gin 455 (by decide +kernel) rfl)
theorem lkX9_77 : gLk RX9 77 yX9_exact := Or.inl (gin 456 (by decide +kernel) rfl)
theorem lkX10_125 : gLk RX10 125 yX9_writePlain := Or.inl (gin 460 (by decide +kernel) rfl)
theorem lkL_29 : gLk RL 29 yX10_drop := Or.inl (gin 464 (by decide +kernel) rfl)
theorem lkX10_128 : gLk RX10 128 yX4_forgetForm := Or.inl (gin 468 (by decide +kernel) rfl)
theorem lkX4_21 : gLk RX4 21 yX0_isOnForm := Or.inl (gin 472 (by decide +kernel) rfl)
theorem lkL_34 : gLk RL 34 yX10_steps := Or.inl (gin 476 (by decide +kernel) rfl)
theorem lkL_38 : gLk RL 38 yX10_told := Or.inl (gin 480 (by decide +kernel) rfl)
theorem lkX10_132 : gLk RX10 132 yX3_hasStep := Or.inl (gin 484 (by decide +kernel) rfl)
theorem lkL_43 : gLk RL 43 yX10_width := Or.inl (gin 489 (by decide +kernel) rfl)
theorem lkL_47 : gLk RL 47 yX10_cost := Or.inl (gin 493 (by decide +kernel) rfl)
theorem lkL_51 : gLk RL 51 yX10_price := Or.inl (gin 497 (by decide +kernel) rfl)
theorem lkL_56 : gLk RL 56 yX10_run := Or.inl (gin 501 (by decide +kernel) rfl)
theorem lkX10_146 : gLk RX10 146 yX3_work := Or.inl (gin 505 (by decide +kernel) rfl)
theorem lkX3_29 : gLk RX3 29 yX2_mask := Or.inl (gin 509 (by decide +kernel) rfl)
theorem lkX3_35 : gLk RX3 35 yX6_takesOperand := Or.inl (gin 510 (by decide +kernel) rfl)
theorem lkX3_41 : gLk RX3 41 yX6_apply := Or.inl (gin 511 (by decide +kernel) rfl)
theorem lkX6_7 : gLk RX6 7 yX2_signedOf := Or.inl (gin 514 (by decide +kernel) rfl)
theorem lkX6_13 : gLk RX6 13 yX2_mask := Or.inl (gin 515 (by decide +kernel) rfl)
theorem lkX6_17 : gLk RX6 17 yX2_highPlain := Or.inl (gin 516 (by decide +kernel) rfl)
theorem lkX2_19 : gLk RX2 19 yX2_highOf64 := Or.inl (gin 519 (by decide +kernel) rfl)
theorem lkX6_21 : gLk RX6 21 yX2_highSigned := Or.inl (gin 523 (by decide +kernel) rfl)
theorem lkX2_23 : gLk RX2 23 yX2_signedOf := Or.inl (gin 526 (by decide +kernel) rfl)
theorem lkX6_24 : gLk RX6 24 yX2_below := Or.inl (gin 527 (by decide +kernel) rfl)
theorem lkL_61 : gLk RL 61 yX10_end := Or.inl (gin 528 (by decide +kernel) rfl)
theorem lkL_66 : gLk RL 66 yX10_fails := Or.inl (gin 532 (by decide +kernel) rfl)
theorem lkX10_150 : gLk RX10 150 yX1_answer := Or.inl (gin 536 (by decide +kernel) rfl)
theorem lkX1_40 : gLk RX1 40 yX1_numberOf := Or.inl (gin 540 (by decide +kernel) rfl)
theorem lkX1_44 : gLk RX1 44 yX1_towardsZero := Or.inl (gin 544 (by decide +kernel) rfl)
theorem lkX1_47 : gLk RX1 47 yX2_quotient := Or.inl (gin 548 (by decide +kernel) rfl)
theorem lkX10_154 : gLk RX10 154 yX1_asksOf := Or.inl (gin 549 (by decide +kernel) rfl)
theorem lkL_70 : gLk RL 70 yX10_plain := Or.inl (gin 553 (by decide +kernel) rfl)
theorem lkL_75 : gLk RL 75 yX10_proof := Or.inl (gin 557 (by decide +kernel) rfl)
theorem lkX10_160 : gLk RX10 160 yX7_init := Or.inl (gin 562 (by decide +kernel) rfl)
theorem lkL_79 : gLk RL 79 yX10_check := Or.inl (gin 563 (by decide +kernel) rfl)
theorem lkX10_177 : gLk RX10 177 yX2_highPlain := Or.inl (gin 567 (by decide +kernel) rfl)
theorem lkX10_181 : gLk RX10 181 yX2_below := Or.inl (gin 568 (by decide +kernel) rfl)
theorem lkX10_185 : gLk RX10 185 yX10_proofHolds := Or.inl (gin 569 (by decide +kernel) rfl)
theorem lkL_84 : gLk RL 84 yX10_inverse := Or.inl (gin 572 (by decide +kernel) rfl)
theorem lkX10_189 : gLk RX10 189 yX2_inverseOf := Or.inl (gin 576 (by decide +kernel) rfl)
theorem lkL_88 : gLk RL 88 yX10_tell := Or.inl (gin 577 (by decide +kernel) rfl)
theorem lkL_92 : gLk RL 92 yX10_least := Or.inl (gin 581 (by decide +kernel) rfl)
theorem lkX10_196 : gLk RX10 196 yX8_prepare := Or.inl (gin 585 (by decide +kernel) rfl)
theorem lkX8_45 : Cond.methodLink RX8 45 arraycopyName ∈ lw_g := gin 589 (by decide +kernel) rfl
theorem lkX8_61 : gLk RX8 61 yX1_asksOf := Or.inl (gin 590 (by decide +kernel) rfl)
theorem lkX8_67 : gLk RX8 67 yX1_answer := Or.inl (gin 591 (by decide +kernel) rfl)
theorem lkX8_71 : gLk RX8 71 yX8_listChoices := Or.inl (gin 592 (by decide +kernel) rfl)
theorem lkX8_78 : gLk RX8 78 yX6_takesOperand := Or.inl (gin 596 (by decide +kernel) rfl)
theorem lkX8_84 : gLk RX8 84 yX8_addChoice := Or.inl (gin 597 (by decide +kernel) rfl)
theorem lkX8_88 : gLk RX8 88 yX8_listTold := Or.inl (gin 601 (by decide +kernel) rfl)
theorem lkX8_92 : gLk RX8 92 yX2_mask := Or.inl (gin 605 (by decide +kernel) rfl)
theorem lkX8_98 : gLk RX8 98 yX6_takesCount := Or.inl (gin 606 (by decide +kernel) rfl)
theorem lkX8_103 : gLk RX8 103 yX8_stoodBefore := Or.inl (gin 608 (by decide +kernel) rfl)
theorem lkX8_107 : gLk RX8 107 yX8_extend := Or.inl (gin 615 (by decide +kernel) rfl)
theorem lkX8_111 : gLk RX8 111 yX8_isRight := Or.inl (gin 616 (by decide +kernel) rfl)
theorem lkX8_118 : gLk RX8 118 yX8_fillUpTo := Or.inl (gin 620 (by decide +kernel) rfl)
theorem lkX8_121 : gLk RX8 121 yX8_valueOf := Or.inl (gin 624 (by decide +kernel) rfl)
theorem lkX8_125 : gLk RX8 125 yX6_apply := Or.inl (gin 628 (by decide +kernel) rfl)
theorem lkX8_114 : gLk RX8 114 yX8_keep := Or.inl (gin 629 (by decide +kernel) rfl)
theorem lkX10_207 : gLk RX10 207 yX8_writeBest := Or.inl (gin 633 (by decide +kernel) rfl)
theorem lkX8_129 : gLk RX8 129 yX3_add := Or.inl (gin 637 (by decide +kernel) rfl)
theorem lkL_97 : gLk RL 97 yX10_count := Or.inl (gin 638 (by decide +kernel) rfl)
theorem lkL_101 : gLk RL 101 yX10_undo := Or.inl (gin 642 (by decide +kernel) rfl)
theorem lkX10_214 : gLk RX10 214 yX4_takeLatest := Or.inl (gin 646 (by decide +kernel) rfl)
theorem lkX10_218 : gLk RX10 218 yX10_takeBack := Or.inl (gin 650 (by decide +kernel) rfl)
theorem lkX10_268 : gLk RX10 268 yX10_removeStep := Or.inl (gin 654 (by decide +kernel) rfl)
theorem lkX10_284 : gLk RX10 284 yX3_removeLast := Or.inl (gin 657 (by decide +kernel) rfl)
theorem lkX10_280 : gLk RX10 280 yX10_restoreCell := Or.inl (gin 661 (by decide +kernel) rfl)
theorem lkX10_245 : gLk RX10 245 yX5_hasPlace := Or.inl (gin 664 (by decide +kernel) rfl)
theorem lkL_105 : gLk RL 105 yX10_hook := Or.inl (gin 668 (by decide +kernel) rfl)
theorem lkX10_221 : gLk RX10 221 yX10_rowOf := Or.inl (gin 672 (by decide +kernel) rfl)
theorem lkX10_290 : gLk RX10 290 yX10_narrowed := Or.inl (gin 676 (by decide +kernel) rfl)
theorem lkL_110 : gLk RL 110 yX10_held := Or.inl (gin 679 (by decide +kernel) rfl)
theorem lkL_114 : gLk RL 114 yX10_use := Or.inl (gin 683 (by decide +kernel) rfl)
theorem lkX10_231 : gLk RX10 231 yX5_multiplies := Or.inl (gin 689 (by decide +kernel) rfl)
theorem lkX10_241 : gLk RX10 241 yX10_copyAnswer := Or.inl (gin 693 (by decide +kernel) rfl)
theorem lkX10_248 : gLk RX10 248 yX10_rowAnswer := Or.inl (gin 696 (by decide +kernel) rfl)
theorem lkL_12 : gLk RL 12 yX11_init := Or.inl (gin 702 (by decide +kernel) rfl)
theorem lkX11_1 : Cond.methodLink RX11 1 Lib.objectInit ∈ lw_g := gin 705 (by decide +kernel) rfl
theorem lkL_17 : gLk RL 17 yX11_form := Or.inl (gin 827 (by decide +kernel) rfl)
theorem lkX11_153 : gLk RX11 153 yX11_isWidth := Or.inl (gin 831 (by decide +kernel) rfl)
theorem lkX11_156 : gLk RX11 156 yX11_add := Or.inl (gin 834 (by decide +kernel) rfl)
theorem lkX11_160 : gLk RX11 160 yX11_note := Or.inl (gin 838 (by decide +kernel) rfl)
theorem lkX11_150 : gLk RX11 150 yX11_moveAct := Or.inl (gin 842 (by decide +kernel) rfl)
theorem lkX11_143 : gLk RX11 143 yX11_copyHeld := Or.inl (gin 846 (by decide +kernel) rfl)
theorem lkL_24 : gLk RL 24 yX11_step := Or.inl (gin 850 (by decide +kernel) rfl)
theorem lkX11_164 : gLk RX11 164 yX11_isForm := Or.inl (gin 854 (by decide +kernel) rfl)
theorem lkX11_132 : gLk RX11 132 yX11_takesOperand := Or.inl (gin 858 (by decide +kernel) rfl)
theorem lkX11_140 : gLk RX11 140 yX11_takesCount := Or.inl (gin 861 (by decide +kernel) rfl)
theorem lkX11_167 : gLk RX11 167 yX11_put := Or.inl (gin 864 (by decide +kernel) rfl)
theorem lkX11_105 : gLk RX11 105 yX11_low := Or.inl (gin 868 (by decide +kernel) rfl)
theorem lkL_33 : gLk RL 33 yX11_drop := Or.inl (gin 871 (by decide +kernel) rfl)
theorem lkL_28 : gLk RL 28 yX11_make := Or.inl (gin 875 (by decide +kernel) rfl)
theorem lkX11_222 : gLk RX11 222 yX11_isAsking := Or.inl (gin 879 (by decide +kernel) rfl)
theorem lkX11_128 : gLk RX11 128 yX11_isUp := Or.inl (gin 883 (by decide +kernel) rfl)
theorem lkX11_226 : gLk RX11 226 yX11_take := Or.inl (gin 886 (by decide +kernel) rfl)
theorem lkX11_230 : gLk RX11 230 yX11_writePlain := Or.inl (gin 890 (by decide +kernel) rfl)
theorem lkX11_204 : gLk RX11 204 yX11_plainQuotient := Or.inl (gin 894 (by decide +kernel) rfl)
theorem lkX11_195 : gLk RX11 195 yX11_find := Or.inl (gin 898 (by decide +kernel) rfl)
theorem lkX11_180 : gLk RX11 180 yX11_quotient := Or.inl (gin 902 (by decide +kernel) rfl)
theorem lkX11_108 : gLk RX11 108 yX11_isUnder := Or.inl (gin 906 (by decide +kernel) rfl)
theorem lkX11_208 : gLk RX11 208 yX11_restOf := Or.inl (gin 911 (by decide +kernel) rfl)
theorem lkX11_212 : gLk RX11 212 yX11_plainWhole := Or.inl (gin 915 (by decide +kernel) rfl)
theorem lkX11_198 : gLk RX11 198 yX11_inverseOf := Or.inl (gin 919 (by decide +kernel) rfl)
theorem lkX11_233 : gLk RX11 233 yX11_writeSigned := Or.inl (gin 923 (by decide +kernel) rfl)
theorem lkX11_215 : gLk RX11 215 yX11_signedQuotient := Or.inl (gin 927 (by decide +kernel) rfl)
theorem lkX11_219 : gLk RX11 219 yX11_signedDown := Or.inl (gin 931 (by decide +kernel) rfl)
theorem lkX11_101 : gLk RX11 101 yX11_signed := Or.inl (gin 935 (by decide +kernel) rfl)
theorem lkL_37 : gLk RL 37 yX11_steps := Or.inl (gin 938 (by decide +kernel) rfl)
theorem lkL_42 : gLk RL 42 yX11_told := Or.inl (gin 942 (by decide +kernel) rfl)
theorem lkL_46 : gLk RL 46 yX11_width := Or.inl (gin 946 (by decide +kernel) rfl)
theorem lkL_50 : gLk RL 50 yX11_cost := Or.inl (gin 950 (by decide +kernel) rfl)
theorem lkL_55 : gLk RL 55 yX11_price := Or.inl (gin 954 (by decide +kernel) rfl)
theorem lkL_60 : gLk RL 60 yX11_run := Or.inl (gin 958 (by decide +kernel) rfl)
theorem lkX11_236 : gLk RX11 236 yX11_work := Or.inl (gin 962 (by decide +kernel) rfl)
theorem lkX11_136 : gLk RX11 136 yX11_worked := Or.inl (gin 966 (by decide +kernel) rfl)
theorem lkX11_121 : gLk RX11 121 yX11_upperPlain := Or.inl (gin 969 (by decide +kernel) rfl)
theorem lkX11_97 : gLk RX11 97 yX11_upper := Or.inl (gin 972 (by decide +kernel) rfl)
theorem lkX11_125 : gLk RX11 125 yX11_upperSigned := Or.inl (gin 976 (by decide +kernel) rfl)
theorem lkL_65 : gLk RL 65 yX11_end := Or.inl (gin 979 (by decide +kernel) rfl)
theorem lkL_69 : gLk RL 69 yX11_fails := Or.inl (gin 983 (by decide +kernel) rfl)
theorem lkX11_247 : gLk RX11 247 yX11_asked := Or.inl (gin 987 (by decide +kernel) rfl)
theorem lkX11_240 : gLk RX11 240 yX11_signedDivided := Or.inl (gin 991 (by decide +kernel) rfl)
theorem lkL_74 : gLk RL 74 yX11_plain := Or.inl (gin 995 (by decide +kernel) rfl)
theorem lkL_78 : gLk RL 78 yX11_proof := Or.inl (gin 999 (by decide +kernel) rfl)
theorem lkL_83 : gLk RL 83 yX11_check := Or.inl (gin 1003 (by decide +kernel) rfl)
theorem lkX11_251 : gLk RX11 251 yX11_addBit := Or.inl (gin 1007 (by decide +kernel) rfl)
theorem lkX11_255 : gLk RX11 255 yX11_takeBit := Or.inl (gin 1012 (by decide +kernel) rfl)
theorem lkL_87 : gLk RL 87 yX11_inverse := Or.inl (gin 1016 (by decide +kernel) rfl)
theorem lkL_91 : gLk RL 91 yX11_tell := Or.inl (gin 1020 (by decide +kernel) rfl)
theorem lkL_96 : gLk RL 96 yX11_least := Or.inl (gin 1024 (by decide +kernel) rfl)
theorem lkX11_278 : gLk RX11 278 yX11_tryStep := Or.inl (gin 1028 (by decide +kernel) rfl)
theorem lkX11_268 : gLk RX11 268 yX11_mayBe := Or.inl (gin 1032 (by decide +kernel) rfl)
theorem lkX11_272 : gLk RX11 272 yX11_look := Or.inl (gin 1038 (by decide +kernel) rfl)
theorem lkX11_282 : gLk RX11 282 yX11_madeBy := Or.inl (gin 1042 (by decide +kernel) rfl)
theorem lkX11_288 : gLk RX11 288 yX11_yOf := Or.inl (gin 1046 (by decide +kernel) rfl)
theorem lkX11_275 : gLk RX11 275 yX11_fill := Or.inl (gin 1050 (by decide +kernel) rfl)
theorem lkL_100 : gLk RL 100 yX11_count := Or.inl (gin 1054 (by decide +kernel) rfl)
theorem lkL_104 : gLk RL 104 yX11_undo := Or.inl (gin 1058 (by decide +kernel) rfl)
theorem lkL_109 : gLk RL 109 yX11_hook := Or.inl (gin 1062 (by decide +kernel) rfl)
theorem lkX11_295 : gLk RX11 295 yX11_isHook := Or.inl (gin 1066 (by decide +kernel) rfl)
theorem lkL_113 : gLk RL 113 yX11_held := Or.inl (gin 1069 (by decide +kernel) rfl)
theorem lkL_117 : gLk RL 117 yX11_use := Or.inl (gin 1073 (by decide +kernel) rfl)
theorem lkX11_300 : gLk RX11 300 yX11_isIn := Or.inl (gin 1078 (by decide +kernel) rfl)
theorem lkX10_38 : gLk RX10 38 yX4_init := Or.inr ⟨RX10, rfl, fun U h => h.1.1⟩
theorem lkX10_45 : gLk RX10 45 yX8_init := Or.inr ⟨RX10, rfl, fun U h => h.1.2.1⟩
theorem lkX10_260 : gLk RX10 260 yX3_init := Or.inr ⟨RX10, rfl, fun U h => h.1.2.2.1⟩
theorem lkX10_200 : gLk RX10 200 yX8_extend := Or.inr ⟨RX10, rfl, fun U h => h.1.2.2.2.1⟩
theorem flX5_7 : gFl RX5 7 4 0 := ⟨_, _, _, tyX5, rfl, by decide, iX5, tyX5_ok, nmX5, rfl, Or.inl (gin 85 (by decide +kernel) rfl)⟩
theorem fLX5_7 : ∃ C T N, gcl[4]? = some (C, T, N) ∧ Cond.fieldLink RX5 7 C (T 0).2.1 (T 0).2.2.1 ∈ lw_g := ⟨_, _, _, rfl, gin 85 (by decide +kernel) rfl⟩
theorem flX10_225 : gFl RX10 225 4 0 := ⟨_, _, _, tyX5, rfl, by decide, iX5, tyX5_ok, nmX5, rfl, Or.inl (gin 86 (by decide +kernel) rfl)⟩
theorem flX5_13 : gFl RX5 13 4 1 := ⟨_, _, _, tyX5, rfl, by decide, iX5, tyX5_ok, nmX5, rfl, Or.inl (gin 87 (by decide +kernel) rfl)⟩
theorem fLX5_13 : ∃ C T N, gcl[4]? = some (C, T, N) ∧ Cond.fieldLink RX5 13 C (T 1).2.1 (T 1).2.2.1 ∈ lw_g := ⟨_, _, _, rfl, gin 87 (by decide +kernel) rfl⟩
theorem flX10_238 : gFl RX10 238 4 1 := ⟨_, _, _, tyX5, rfl, by decide, iX5, tyX5_ok, nmX5, rfl, Or.inl (gin 88 (by decide +kernel) rfl)⟩
theorem flX5_16 : gFl RX5 16 4 2 := ⟨_, _, _, tyX5, rfl, by decide, iX5, tyX5_ok, nmX5, rfl, Or.inl (gin 89 (by decide +kernel) rfl)⟩
theorem fLX5_16 : ∃ C T N, gcl[4]? = some (C, T, N) ∧ Cond.fieldLink RX5 16 C (T 2).2.1 (T 2).2.2.1 ∈ lw_g := ⟨_, _, _, rfl, gin 89 (by decide +kernel) rfl⟩
theorem flX10_235 : gFl RX10 235 4 2 := ⟨_, _, _, tyX5, rfl, by decide, iX5, tyX5_ok, nmX5, rfl, Or.inl (gin 90 (by decide +kernel) rfl)⟩
theorem flX5_20 : gFl RX5 20 4 3 := ⟨_, _, _, tyX5, rfl, by decide, iX5, tyX5_ok, nmX5, rfl, Or.inl (gin 91 (by decide +kernel) rfl)⟩
theorem fLX5_20 : ∃ C T N, gcl[4]? = some (C, T, N) ∧ Cond.fieldLink RX5 20 C (T 3).2.1 (T 3).2.2.1 ∈ lw_g := ⟨_, _, _, rfl, gin 91 (by decide +kernel) rfl⟩
theorem flX10_287 : gFl RX10 287 4 3 := ⟨_, _, _, tyX5, rfl, by decide, iX5, tyX5_ok, nmX5, rfl, Or.inl (gin 92 (by decide +kernel) rfl)⟩
theorem flX4_11 : gFl RX4 11 3 0 := ⟨_, _, _, tyX4, rfl, by decide, iX4, tyX4_ok, nmX4, rfl, Or.inl (gin 112 (by decide +kernel) rfl)⟩
theorem fLX4_11 : ∃ C T N, gcl[3]? = some (C, T, N) ∧ Cond.fieldLink RX4 11 C (T 0).2.1 (T 0).2.2.1 ∈ lw_g := ⟨_, _, _, rfl, gin 112 (by decide +kernel) rfl⟩
theorem flX4_17 : gFl RX4 17 3 1 := ⟨_, _, _, tyX4, rfl, by decide, iX4, tyX4_ok, nmX4, rfl, Or.inl (gin 113 (by decide +kernel) rfl)⟩
theorem flX10_211 : gFl RX10 211 3 1 := ⟨_, _, _, tyX4, rfl, by decide, iX4, tyX4_ok, nmX4, rfl, Or.inl (gin 114 (by decide +kernel) rfl)⟩
theorem flX8_9 : gFl RX8 9 6 0 := ⟨_, _, _, tyX8, rfl, by decide, iX8, tyX8_ok, nmX8, rfl, Or.inl (gin 128 (by decide +kernel) rfl)⟩
theorem fLX8_9 : ∃ C T N, gcl[6]? = some (C, T, N) ∧ Cond.fieldLink RX8 9 C (T 0).2.1 (T 0).2.2.1 ∈ lw_g := ⟨_, _, _, rfl, gin 128 (by decide +kernel) rfl⟩
theorem flX8_58 : gFl RX8 58 6 1 := ⟨_, _, _, tyX8, rfl, by decide, iX8, tyX8_ok, nmX8, rfl, Or.inl (gin 129 (by decide +kernel) rfl)⟩
theorem flX8_15 : gFl RX8 15 6 2 := ⟨_, _, _, tyX8, rfl, by decide, iX8, tyX8_ok, nmX8, rfl, Or.inl (gin 130 (by decide +kernel) rfl)⟩
theorem fLX8_15 : ∃ C T N, gcl[6]? = some (C, T, N) ∧ Cond.fieldLink RX8 15 C (T 2).2.1 (T 2).2.2.1 ∈ lw_g := ⟨_, _, _, rfl, gin 130 (by decide +kernel) rfl⟩
theorem flX8_21 : gFl RX8 21 6 3 := ⟨_, _, _, tyX8, rfl, by decide, iX8, tyX8_ok, nmX8, rfl, Or.inl (gin 131 (by decide +kernel) rfl)⟩
theorem fLX8_21 : ∃ C T N, gcl[6]? = some (C, T, N) ∧ Cond.fieldLink RX8 21 C (T 3).2.1 (T 3).2.2.1 ∈ lw_g := ⟨_, _, _, rfl, gin 131 (by decide +kernel) rfl⟩
theorem flX8_24 : gFl RX8 24 6 4 := ⟨_, _, _, tyX8, rfl, by decide, iX8, tyX8_ok, nmX8, rfl, Or.inl (gin 132 (by decide +kernel) rfl)⟩
theorem fLX8_24 : ∃ C T N, gcl[6]? = some (C, T, N) ∧ Cond.fieldLink RX8 24 C (T 4).2.1 (T 4).2.2.1 ∈ lw_g := ⟨_, _, _, rfl, gin 132 (by decide +kernel) rfl⟩
theorem flX8_75 : gFl RX8 75 6 5 := ⟨_, _, _, tyX8, rfl, by decide, iX8, tyX8_ok, nmX8, rfl, Or.inl (gin 133 (by decide +kernel) rfl)⟩
theorem flX8_27 : gFl RX8 27 6 6 := ⟨_, _, _, tyX8, rfl, by decide, iX8, tyX8_ok, nmX8, rfl, Or.inl (gin 134 (by decide +kernel) rfl)⟩
theorem fLX8_27 : ∃ C T N, gcl[6]? = some (C, T, N) ∧ Cond.fieldLink RX8 27 C (T 6).2.1 (T 6).2.2.1 ∈ lw_g := ⟨_, _, _, rfl, gin 134 (by decide +kernel) rfl⟩
theorem flX8_30 : gFl RX8 30 6 7 := ⟨_, _, _, tyX8, rfl, by decide, iX8, tyX8_ok, nmX8, rfl, Or.inl (gin 135 (by decide +kernel) rfl)⟩
theorem fLX8_30 : ∃ C T N, gcl[6]? = some (C, T, N) ∧ Cond.fieldLink RX8 30 C (T 7).2.1 (T 7).2.2.1 ∈ lw_g := ⟨_, _, _, rfl, gin 135 (by decide +kernel) rfl⟩
theorem flX8_33 : gFl RX8 33 6 8 := ⟨_, _, _, tyX8, rfl, by decide, iX8, tyX8_ok, nmX8, rfl, Or.inl (gin 136 (by decide +kernel) rfl)⟩
theorem fLX8_33 : ∃ C T N, gcl[6]? = some (C, T, N) ∧ Cond.fieldLink RX8 33 C (T 8).2.1 (T 8).2.2.1 ∈ lw_g := ⟨_, _, _, rfl, gin 136 (by decide +kernel) rfl⟩
theorem flX8_36 : gFl RX8 36 6 9 := ⟨_, _, _, tyX8, rfl, by decide, iX8, tyX8_ok, nmX8, rfl, Or.inl (gin 137 (by decide +kernel) rfl)⟩
theorem fLX8_36 : ∃ C T N, gcl[6]? = some (C, T, N) ∧ Cond.fieldLink RX8 36 C (T 9).2.1 (T 9).2.2.1 ∈ lw_g := ⟨_, _, _, rfl, gin 137 (by decide +kernel) rfl⟩
theorem flX8_39 : gFl RX8 39 6 10 := ⟨_, _, _, tyX8, rfl, by decide, iX8, tyX8_ok, nmX8, rfl, Or.inl (gin 138 (by decide +kernel) rfl)⟩
theorem fLX8_39 : ∃ C T N, gcl[6]? = some (C, T, N) ∧ Cond.fieldLink RX8 39 C (T 10).2.1 (T 10).2.2.1 ∈ lw_g := ⟨_, _, _, rfl, gin 138 (by decide +kernel) rfl⟩
theorem flX8_51 : gFl RX8 51 6 11 := ⟨_, _, _, tyX8, rfl, by decide, iX8, tyX8_ok, nmX8, rfl, Or.inl (gin 139 (by decide +kernel) rfl)⟩
theorem flX8_55 : gFl RX8 55 6 12 := ⟨_, _, _, tyX8, rfl, by decide, iX8, tyX8_ok, nmX8, rfl, Or.inl (gin 140 (by decide +kernel) rfl)⟩
theorem flX8_42 : gFl RX8 42 6 13 := ⟨_, _, _, tyX8, rfl, by decide, iX8, tyX8_ok, nmX8, rfl, Or.inl (gin 142 (by decide +kernel) rfl)⟩
theorem fLX8_42 : ∃ C T N, gcl[6]? = some (C, T, N) ∧ Cond.fieldLink RX8 42 C (T 13).2.1 (T 13).2.2.1 ∈ lw_g := ⟨_, _, _, rfl, gin 142 (by decide +kernel) rfl⟩
-- static DivideSmith.FIRST_PRICES
theorem fsX10_53 : Cond.fieldLink RX10 53 RX10 "FIRST_PRICES" "[I" ∈ lw_g := gin 172 (by decide +kernel) rfl
theorem flX10_11 : gFl RX10 11 8 0 := ⟨_, _, _, tyX10, rfl, by decide, iX10, tyX10_ok, nmX10, rfl, Or.inl (gin 177 (by decide +kernel) rfl)⟩
theorem fLX10_11 : ∃ C T N, gcl[8]? = some (C, T, N) ∧ Cond.fieldLink RX10 11 C (T 0).2.1 (T 0).2.2.1 ∈ lw_g := ⟨_, _, _, rfl, gin 177 (by decide +kernel) rfl⟩
theorem flX10_68 : gFl RX10 68 8 1 := ⟨_, _, _, tyX10, rfl, by decide, iX10, tyX10_ok, nmX10, rfl, Or.inl (gin 178 (by decide +kernel) rfl)⟩
theorem flX10_15 : gFl RX10 15 8 2 := ⟨_, _, _, tyX10, rfl, by decide, iX10, tyX10_ok, nmX10, rfl, Or.inl (gin 179 (by decide +kernel) rfl)⟩
theorem fLX10_15 : ∃ C T N, gcl[8]? = some (C, T, N) ∧ Cond.fieldLink RX10 15 C (T 2).2.1 (T 2).2.2.1 ∈ lw_g := ⟨_, _, _, rfl, gin 179 (by decide +kernel) rfl⟩
theorem flX10_19 : gFl RX10 19 8 3 := ⟨_, _, _, tyX10, rfl, by decide, iX10, tyX10_ok, nmX10, rfl, Or.inl (gin 180 (by decide +kernel) rfl)⟩
theorem fLX10_19 : ∃ C T N, gcl[8]? = some (C, T, N) ∧ Cond.fieldLink RX10 19 C (T 3).2.1 (T 3).2.2.1 ∈ lw_g := ⟨_, _, _, rfl, gin 180 (by decide +kernel) rfl⟩
theorem flX10_25 : gFl RX10 25 8 4 := ⟨_, _, _, tyX10, rfl, by decide, iX10, tyX10_ok, nmX10, rfl, Or.inl (gin 181 (by decide +kernel) rfl)⟩
theorem fLX10_25 : ∃ C T N, gcl[8]? = some (C, T, N) ∧ Cond.fieldLink RX10 25 C (T 4).2.1 (T 4).2.2.1 ∈ lw_g := ⟨_, _, _, rfl, gin 181 (by decide +kernel) rfl⟩
theorem flX10_32 : gFl RX10 32 8 5 := ⟨_, _, _, tyX10, rfl, by decide, iX10, tyX10_ok, nmX10, rfl, Or.inl (gin 182 (by decide +kernel) rfl)⟩
theorem fLX10_32 : ∃ C T N, gcl[8]? = some (C, T, N) ∧ Cond.fieldLink RX10 32 C (T 5).2.1 (T 5).2.2.1 ∈ lw_g := ⟨_, _, _, rfl, gin 182 (by decide +kernel) rfl⟩
theorem flX10_39 : gFl RX10 39 8 6 := ⟨_, _, _, tyX10, rfl, by decide, iX10, tyX10_ok, nmX10, rfl, Or.inl (gin 183 (by decide +kernel) rfl)⟩
theorem fLX10_39 : ∃ C T N, gcl[8]? = some (C, T, N) ∧ Cond.fieldLink RX10 39 C (T 6).2.1 (T 6).2.2.1 ∈ lw_g := ⟨_, _, _, rfl, gin 183 (by decide +kernel) rfl⟩
theorem flX10_46 : gFl RX10 46 8 7 := ⟨_, _, _, tyX10, rfl, by decide, iX10, tyX10_ok, nmX10, rfl, Or.inl (gin 184 (by decide +kernel) rfl)⟩
theorem fLX10_46 : ∃ C T N, gcl[8]? = some (C, T, N) ∧ Cond.fieldLink RX10 46 C (T 7).2.1 (T 7).2.2.1 ∈ lw_g := ⟨_, _, _, rfl, gin 184 (by decide +kernel) rfl⟩
theorem flX10_193 : gFl RX10 193 8 8 := ⟨_, _, _, tyX10, rfl, by decide, iX10, tyX10_ok, nmX10, rfl, Or.inl (gin 185 (by decide +kernel) rfl)⟩
theorem flX10_50 : gFl RX10 50 8 9 := ⟨_, _, _, tyX10, rfl, by decide, iX10, tyX10_ok, nmX10, rfl, Or.inl (gin 186 (by decide +kernel) rfl)⟩
theorem fLX10_50 : ∃ C T N, gcl[8]? = some (C, T, N) ∧ Cond.fieldLink RX10 50 C (T 9).2.1 (T 9).2.2.1 ∈ lw_g := ⟨_, _, _, rfl, gin 186 (by decide +kernel) rfl⟩
theorem flX3_22 : gFl RX3 22 2 0 := ⟨_, _, _, tyX3, rfl, by decide, iX3, tyX3_ok, nmX3, rfl, Or.inl (gin 224 (by decide +kernel) rfl)⟩
theorem flX10_89 : gFl RX10 89 2 0 := ⟨_, _, _, tyX3, rfl, by decide, iX3, tyX3_ok, nmX3, rfl, Or.inl (gin 225 (by decide +kernel) rfl)⟩
theorem flX3_26 : gFl RX3 26 2 1 := ⟨_, _, _, tyX3, rfl, by decide, iX3, tyX3_ok, nmX3, rfl, Or.inl (gin 226 (by decide +kernel) rfl)⟩
theorem flX10_82 : gFl RX10 82 2 1 := ⟨_, _, _, tyX3, rfl, by decide, iX3, tyX3_ok, nmX3, rfl, Or.inl (gin 227 (by decide +kernel) rfl)⟩
theorem flX3_9 : gFl RX3 9 2 2 := ⟨_, _, _, tyX3, rfl, by decide, iX3, tyX3_ok, nmX3, rfl, Or.inl (gin 228 (by decide +kernel) rfl)⟩
theorem fLX3_9 : ∃ C T N, gcl[2]? = some (C, T, N) ∧ Cond.fieldLink RX3 9 C (T 2).2.1 (T 2).2.2.1 ∈ lw_g := ⟨_, _, _, rfl, gin 228 (by decide +kernel) rfl⟩
theorem flX10_137 : gFl RX10 137 2 2 := ⟨_, _, _, tyX3, rfl, by decide, iX3, tyX3_ok, nmX3, rfl, Or.inl (gin 229 (by decide +kernel) rfl)⟩
theorem flX3_15 : gFl RX3 15 2 3 := ⟨_, _, _, tyX3, rfl, by decide, iX3, tyX3_ok, nmX3, rfl, Or.inl (gin 230 (by decide +kernel) rfl)⟩
theorem fLX3_15 : ∃ C T N, gcl[2]? = some (C, T, N) ∧ Cond.fieldLink RX3 15 C (T 3).2.1 (T 3).2.2.1 ∈ lw_g := ⟨_, _, _, rfl, gin 230 (by decide +kernel) rfl⟩
theorem flX10_140 : gFl RX10 140 2 3 := ⟨_, _, _, tyX3, rfl, by decide, iX3, tyX3_ok, nmX3, rfl, Or.inl (gin 231 (by decide +kernel) rfl)⟩
theorem flX3_18 : gFl RX3 18 2 4 := ⟨_, _, _, tyX3, rfl, by decide, iX3, tyX3_ok, nmX3, rfl, Or.inl (gin 232 (by decide +kernel) rfl)⟩
theorem fLX3_18 : ∃ C T N, gcl[2]? = some (C, T, N) ∧ Cond.fieldLink RX3 18 C (T 4).2.1 (T 4).2.2.1 ∈ lw_g := ⟨_, _, _, rfl, gin 232 (by decide +kernel) rfl⟩
theorem flX10_143 : gFl RX10 143 2 4 := ⟨_, _, _, tyX3, rfl, by decide, iX3, tyX3_ok, nmX3, rfl, Or.inl (gin 233 (by decide +kernel) rfl)⟩
theorem flX0_9 : gFl RX0 9 0 0 := ⟨_, _, _, tyX0, rfl, by decide, iX0, tyX0_ok, nmX0, rfl, Or.inl (gin 255 (by decide +kernel) rfl)⟩
theorem fLX0_9 : ∃ C T N, gcl[0]? = some (C, T, N) ∧ Cond.fieldLink RX0 9 C (T 0).2.1 (T 0).2.2.1 ∈ lw_g := ⟨_, _, _, rfl, gin 255 (by decide +kernel) rfl⟩
theorem flX10_264 : gFl RX10 264 0 0 := ⟨_, _, _, tyX0, rfl, by decide, iX0, tyX0_ok, nmX0, rfl, Or.inl (gin 256 (by decide +kernel) rfl)⟩
theorem flX0_15 : gFl RX0 15 0 1 := ⟨_, _, _, tyX0, rfl, by decide, iX0, tyX0_ok, nmX0, rfl, Or.inl (gin 257 (by decide +kernel) rfl)⟩
theorem fLX0_15 : ∃ C T N, gcl[0]? = some (C, T, N) ∧ Cond.fieldLink RX0 15 C (T 1).2.1 (T 1).2.2.1 ∈ lw_g := ⟨_, _, _, rfl, gin 257 (by decide +kernel) rfl⟩
theorem flX10_265 : gFl RX10 265 0 1 := ⟨_, _, _, tyX0, rfl, by decide, iX0, tyX0_ok, nmX0, rfl, Or.inl (gin 258 (by decide +kernel) rfl)⟩
theorem flX0_18 : gFl RX0 18 0 2 := ⟨_, _, _, tyX0, rfl, by decide, iX0, tyX0_ok, nmX0, rfl, Or.inl (gin 259 (by decide +kernel) rfl)⟩
theorem fLX0_18 : ∃ C T N, gcl[0]? = some (C, T, N) ∧ Cond.fieldLink RX0 18 C (T 2).2.1 (T 2).2.2.1 ∈ lw_g := ⟨_, _, _, rfl, gin 259 (by decide +kernel) rfl⟩
theorem flX10_277 : gFl RX10 277 0 2 := ⟨_, _, _, tyX0, rfl, by decide, iX0, tyX0_ok, nmX0, rfl, Or.inl (gin 260 (by decide +kernel) rfl)⟩
theorem flX0_21 : gFl RX0 21 0 3 := ⟨_, _, _, tyX0, rfl, by decide, iX0, tyX0_ok, nmX0, rfl, Or.inl (gin 261 (by decide +kernel) rfl)⟩
theorem fLX0_21 : ∃ C T N, gcl[0]? = some (C, T, N) ∧ Cond.fieldLink RX0 21 C (T 3).2.1 (T 3).2.2.1 ∈ lw_g := ⟨_, _, _, rfl, gin 261 (by decide +kernel) rfl⟩
theorem flX10_271 : gFl RX10 271 0 3 := ⟨_, _, _, tyX0, rfl, by decide, iX0, tyX0_ok, nmX0, rfl, Or.inl (gin 262 (by decide +kernel) rfl)⟩
theorem flX0_25 : gFl RX0 25 0 4 := ⟨_, _, _, tyX0, rfl, by decide, iX0, tyX0_ok, nmX0, rfl, Or.inl (gin 263 (by decide +kernel) rfl)⟩
theorem fLX0_25 : ∃ C T N, gcl[0]? = some (C, T, N) ∧ Cond.fieldLink RX0 25 C (T 4).2.1 (T 4).2.2.1 ∈ lw_g := ⟨_, _, _, rfl, gin 263 (by decide +kernel) rfl⟩
theorem flX10_274 : gFl RX10 274 0 4 := ⟨_, _, _, tyX0, rfl, by decide, iX0, tyX0_ok, nmX0, rfl, Or.inl (gin 264 (by decide +kernel) rfl)⟩
theorem flX1_9 : gFl RX1 9 1 0 := ⟨_, _, _, tyX1, rfl, by decide, iX1, tyX1_ok, nmX1, rfl, Or.inl (gin 328 (by decide +kernel) rfl)⟩
theorem fLX1_9 : ∃ C T N, gcl[1]? = some (C, T, N) ∧ Cond.fieldLink RX1 9 C (T 0).2.1 (T 0).2.2.1 ∈ lw_g := ⟨_, _, _, rfl, gin 328 (by decide +kernel) rfl⟩
theorem flX9_17 : gFl RX9 17 1 0 := ⟨_, _, _, tyX1, rfl, by decide, iX1, tyX1_ok, nmX1, rfl, Or.inl (gin 329 (by decide +kernel) rfl)⟩
theorem flX1_15 : gFl RX1 15 1 1 := ⟨_, _, _, tyX1, rfl, by decide, iX1, tyX1_ok, nmX1, rfl, Or.inl (gin 330 (by decide +kernel) rfl)⟩
theorem fLX1_15 : ∃ C T N, gcl[1]? = some (C, T, N) ∧ Cond.fieldLink RX1 15 C (T 1).2.1 (T 1).2.2.1 ∈ lw_g := ⟨_, _, _, rfl, gin 330 (by decide +kernel) rfl⟩
theorem flX9_28 : gFl RX9 28 1 1 := ⟨_, _, _, tyX1, rfl, by decide, iX1, tyX1_ok, nmX1, rfl, Or.inl (gin 331 (by decide +kernel) rfl)⟩
theorem flX1_19 : gFl RX1 19 1 2 := ⟨_, _, _, tyX1, rfl, by decide, iX1, tyX1_ok, nmX1, rfl, Or.inl (gin 332 (by decide +kernel) rfl)⟩
theorem fLX1_19 : ∃ C T N, gcl[1]? = some (C, T, N) ∧ Cond.fieldLink RX1 19 C (T 2).2.1 (T 2).2.2.1 ∈ lw_g := ⟨_, _, _, rfl, gin 332 (by decide +kernel) rfl⟩
theorem flX9_53 : gFl RX9 53 1 2 := ⟨_, _, _, tyX1, rfl, by decide, iX1, tyX1_ok, nmX1, rfl, Or.inl (gin 333 (by decide +kernel) rfl)⟩
theorem flX9_24 : gFl RX9 24 1 3 := ⟨_, _, _, tyX1, rfl, by decide, iX1, tyX1_ok, nmX1, rfl, Or.inl (gin 334 (by decide +kernel) rfl)⟩
theorem flX1_32 : gFl RX1 32 1 3 := ⟨_, _, _, tyX1, rfl, by decide, iX1, tyX1_ok, nmX1, rfl, Or.inl (gin 335 (by decide +kernel) rfl)⟩
theorem fLX1_32 : ∃ C T N, gcl[1]? = some (C, T, N) ∧ Cond.fieldLink RX1 32 C (T 3).2.1 (T 3).2.2.1 ∈ lw_g := ⟨_, _, _, rfl, gin 335 (by decide +kernel) rfl⟩
theorem flX9_7 : gFl RX9 7 7 0 := ⟨_, _, _, tyX9, rfl, by decide, iX9, tyX9_ok, nmX9, rfl, Or.inl (gin 356 (by decide +kernel) rfl)⟩
theorem fLX9_7 : ∃ C T N, gcl[7]? = some (C, T, N) ∧ Cond.fieldLink RX9 7 C (T 0).2.1 (T 0).2.2.1 ∈ lw_g := ⟨_, _, _, rfl, gin 356 (by decide +kernel) rfl⟩
theorem flX9_13 : gFl RX9 13 7 1 := ⟨_, _, _, tyX9, rfl, by decide, iX9, tyX9_ok, nmX9, rfl, Or.inl (gin 357 (by decide +kernel) rfl)⟩
theorem fLX9_13 : ∃ C T N, gcl[7]? = some (C, T, N) ∧ Cond.fieldLink RX9 13 C (T 1).2.1 (T 1).2.2.1 ∈ lw_g := ⟨_, _, _, rfl, gin 357 (by decide +kernel) rfl⟩
theorem flX9_23 : gFl RX9 23 7 2 := ⟨_, _, _, tyX9, rfl, by decide, iX9, tyX9_ok, nmX9, rfl, Or.inl (gin 358 (by decide +kernel) rfl)⟩
theorem fLX9_23 : ∃ C T N, gcl[7]? = some (C, T, N) ∧ Cond.fieldLink RX9 23 C (T 2).2.1 (T 2).2.2.1 ∈ lw_g := ⟨_, _, _, rfl, gin 358 (by decide +kernel) rfl⟩
theorem flX9_38 : gFl RX9 38 7 3 := ⟨_, _, _, tyX9, rfl, by decide, iX9, tyX9_ok, nmX9, rfl, Or.inl (gin 359 (by decide +kernel) rfl)⟩
theorem fLX9_38 : ∃ C T N, gcl[7]? = some (C, T, N) ∧ Cond.fieldLink RX9 38 C (T 3).2.1 (T 3).2.2.1 ∈ lw_g := ⟨_, _, _, rfl, gin 359 (by decide +kernel) rfl⟩
theorem flX9_47 : gFl RX9 47 7 4 := ⟨_, _, _, tyX9, rfl, by decide, iX9, tyX9_ok, nmX9, rfl, Or.inl (gin 360 (by decide +kernel) rfl)⟩
theorem fLX9_47 : ∃ C T N, gcl[7]? = some (C, T, N) ∧ Cond.fieldLink RX9 47 C (T 4).2.1 (T 4).2.2.1 ∈ lw_g := ⟨_, _, _, rfl, gin 360 (by decide +kernel) rfl⟩
theorem flX9_50 : gFl RX9 50 7 5 := ⟨_, _, _, tyX9, rfl, by decide, iX9, tyX9_ok, nmX9, rfl, Or.inl (gin 361 (by decide +kernel) rfl)⟩
theorem fLX9_50 : ∃ C T N, gcl[7]? = some (C, T, N) ∧ Cond.fieldLink RX9 50 C (T 5).2.1 (T 5).2.2.1 ∈ lw_g := ⟨_, _, _, rfl, gin 361 (by decide +kernel) rfl⟩
theorem flX7_27 : gFl RX7 27 5 0 := ⟨_, _, _, tyX7, rfl, by decide, iX7, tyX7_ok, nmX7, rfl, Or.inl (gin 410 (by decide +kernel) rfl)⟩
theorem fLX7_27 : ∃ C T N, gcl[5]? = some (C, T, N) ∧ Cond.fieldLink RX7 27 C (T 0).2.1 (T 0).2.2.1 ∈ lw_g := ⟨_, _, _, rfl, gin 410 (by decide +kernel) rfl⟩
theorem flX9_102 : gFl RX9 102 5 0 := ⟨_, _, _, tyX7, rfl, by decide, iX7, tyX7_ok, nmX7, rfl, Or.inl (gin 411 (by decide +kernel) rfl)⟩
theorem flX10_163 : gFl RX10 163 5 0 := ⟨_, _, _, tyX7, rfl, by decide, iX7, tyX7_ok, nmX7, rfl, Or.inl (gin 412 (by decide +kernel) rfl)⟩
theorem flX7_31 : gFl RX7 31 5 1 := ⟨_, _, _, tyX7, rfl, by decide, iX7, tyX7_ok, nmX7, rfl, Or.inl (gin 413 (by decide +kernel) rfl)⟩
theorem fLX7_31 : ∃ C T N, gcl[5]? = some (C, T, N) ∧ Cond.fieldLink RX7 31 C (T 1).2.1 (T 1).2.2.1 ∈ lw_g := ⟨_, _, _, rfl, gin 413 (by decide +kernel) rfl⟩
theorem flX9_96 : gFl RX9 96 5 1 := ⟨_, _, _, tyX7, rfl, by decide, iX7, tyX7_ok, nmX7, rfl, Or.inl (gin 414 (by decide +kernel) rfl)⟩
theorem flX10_166 : gFl RX10 166 5 1 := ⟨_, _, _, tyX7, rfl, by decide, iX7, tyX7_ok, nmX7, rfl, Or.inl (gin 415 (by decide +kernel) rfl)⟩
theorem flX7_35 : gFl RX7 35 5 2 := ⟨_, _, _, tyX7, rfl, by decide, iX7, tyX7_ok, nmX7, rfl, Or.inl (gin 416 (by decide +kernel) rfl)⟩
theorem fLX7_35 : ∃ C T N, gcl[5]? = some (C, T, N) ∧ Cond.fieldLink RX7 35 C (T 2).2.1 (T 2).2.2.1 ∈ lw_g := ⟨_, _, _, rfl, gin 416 (by decide +kernel) rfl⟩
theorem flX9_99 : gFl RX9 99 5 2 := ⟨_, _, _, tyX7, rfl, by decide, iX7, tyX7_ok, nmX7, rfl, Or.inl (gin 417 (by decide +kernel) rfl)⟩
theorem flX10_170 : gFl RX10 170 5 2 := ⟨_, _, _, tyX7, rfl, by decide, iX7, tyX7_ok, nmX7, rfl, Or.inl (gin 418 (by decide +kernel) rfl)⟩
theorem flX7_39 : gFl RX7 39 5 3 := ⟨_, _, _, tyX7, rfl, by decide, iX7, tyX7_ok, nmX7, rfl, Or.inl (gin 419 (by decide +kernel) rfl)⟩
theorem fLX7_39 : ∃ C T N, gcl[5]? = some (C, T, N) ∧ Cond.fieldLink RX7 39 C (T 3).2.1 (T 3).2.2.1 ∈ lw_g := ⟨_, _, _, rfl, gin 419 (by decide +kernel) rfl⟩
theorem flX10_174 : gFl RX10 174 5 3 := ⟨_, _, _, tyX7, rfl, by decide, iX7, tyX7_ok, nmX7, rfl, Or.inl (gin 420 (by decide +kernel) rfl)⟩
-- static DivideSmith.TAKEN_FOR
theorem fsX10_228 : Cond.fieldLink RX10 228 RX10 "TAKEN_FOR" "[I" ∈ lw_g := gin 687 (by decide +kernel) rfl
theorem flX11_112 : gFl RX11 112 9 1 := ⟨_, _, _, tyX11, rfl, by decide, iX11, tyX11_ok, nmX11, rfl, Or.inl (gin 706 (by decide +kernel) rfl)⟩
theorem flX11_118 : gFl RX11 118 9 2 := ⟨_, _, _, tyX11, rfl, by decide, iX11, tyX11_ok, nmX11, rfl, Or.inl (gin 707 (by decide +kernel) rfl)⟩
theorem flX11_7 : gFl RX11 7 9 3 := ⟨_, _, _, tyX11, rfl, by decide, iX11, tyX11_ok, nmX11, rfl, Or.inl (gin 708 (by decide +kernel) rfl)⟩
theorem fLX11_7 : ∃ C T N, gcl[9]? = some (C, T, N) ∧ Cond.fieldLink RX11 7 C (T 3).2.1 (T 3).2.2.1 ∈ lw_g := ⟨_, _, _, rfl, gin 708 (by decide +kernel) rfl⟩
theorem flX11_13 : gFl RX11 13 9 4 := ⟨_, _, _, tyX11, rfl, by decide, iX11, tyX11_ok, nmX11, rfl, Or.inl (gin 709 (by decide +kernel) rfl)⟩
theorem fLX11_13 : ∃ C T N, gcl[9]? = some (C, T, N) ∧ Cond.fieldLink RX11 13 C (T 4).2.1 (T 4).2.2.1 ∈ lw_g := ⟨_, _, _, rfl, gin 709 (by decide +kernel) rfl⟩
theorem flX11_16 : gFl RX11 16 9 5 := ⟨_, _, _, tyX11, rfl, by decide, iX11, tyX11_ok, nmX11, rfl, Or.inl (gin 710 (by decide +kernel) rfl)⟩
theorem fLX11_16 : ∃ C T N, gcl[9]? = some (C, T, N) ∧ Cond.fieldLink RX11 16 C (T 5).2.1 (T 5).2.2.1 ∈ lw_g := ⟨_, _, _, rfl, gin 710 (by decide +kernel) rfl⟩
theorem flX11_19 : gFl RX11 19 9 6 := ⟨_, _, _, tyX11, rfl, by decide, iX11, tyX11_ok, nmX11, rfl, Or.inl (gin 711 (by decide +kernel) rfl)⟩
theorem fLX11_19 : ∃ C T N, gcl[9]? = some (C, T, N) ∧ Cond.fieldLink RX11 19 C (T 6).2.1 (T 6).2.2.1 ∈ lw_g := ⟨_, _, _, rfl, gin 711 (by decide +kernel) rfl⟩
theorem flX11_22 : gFl RX11 22 9 7 := ⟨_, _, _, tyX11, rfl, by decide, iX11, tyX11_ok, nmX11, rfl, Or.inl (gin 712 (by decide +kernel) rfl)⟩
theorem fLX11_22 : ∃ C T N, gcl[9]? = some (C, T, N) ∧ Cond.fieldLink RX11 22 C (T 7).2.1 (T 7).2.2.1 ∈ lw_g := ⟨_, _, _, rfl, gin 712 (by decide +kernel) rfl⟩
theorem flX11_26 : gFl RX11 26 9 8 := ⟨_, _, _, tyX11, rfl, by decide, iX11, tyX11_ok, nmX11, rfl, Or.inl (gin 713 (by decide +kernel) rfl)⟩
theorem fLX11_26 : ∃ C T N, gcl[9]? = some (C, T, N) ∧ Cond.fieldLink RX11 26 C (T 8).2.1 (T 8).2.2.1 ∈ lw_g := ⟨_, _, _, rfl, gin 713 (by decide +kernel) rfl⟩
theorem flX11_29 : gFl RX11 29 9 9 := ⟨_, _, _, tyX11, rfl, by decide, iX11, tyX11_ok, nmX11, rfl, Or.inl (gin 714 (by decide +kernel) rfl)⟩
theorem fLX11_29 : ∃ C T N, gcl[9]? = some (C, T, N) ∧ Cond.fieldLink RX11 29 C (T 9).2.1 (T 9).2.2.1 ∈ lw_g := ⟨_, _, _, rfl, gin 714 (by decide +kernel) rfl⟩
theorem flX11_147 : gFl RX11 147 9 10 := ⟨_, _, _, tyX11, rfl, by decide, iX11, tyX11_ok, nmX11, rfl, Or.inl (gin 715 (by decide +kernel) rfl)⟩
theorem flX11_32 : gFl RX11 32 9 11 := ⟨_, _, _, tyX11, rfl, by decide, iX11, tyX11_ok, nmX11, rfl, Or.inl (gin 716 (by decide +kernel) rfl)⟩
theorem fLX11_32 : ∃ C T N, gcl[9]? = some (C, T, N) ∧ Cond.fieldLink RX11 32 C (T 11).2.1 (T 11).2.2.1 ∈ lw_g := ⟨_, _, _, rfl, gin 716 (by decide +kernel) rfl⟩
theorem flX11_35 : gFl RX11 35 9 12 := ⟨_, _, _, tyX11, rfl, by decide, iX11, tyX11_ok, nmX11, rfl, Or.inl (gin 717 (by decide +kernel) rfl)⟩
theorem fLX11_35 : ∃ C T N, gcl[9]? = some (C, T, N) ∧ Cond.fieldLink RX11 35 C (T 12).2.1 (T 12).2.2.1 ∈ lw_g := ⟨_, _, _, rfl, gin 717 (by decide +kernel) rfl⟩
theorem flX11_38 : gFl RX11 38 9 13 := ⟨_, _, _, tyX11, rfl, by decide, iX11, tyX11_ok, nmX11, rfl, Or.inl (gin 718 (by decide +kernel) rfl)⟩
theorem fLX11_38 : ∃ C T N, gcl[9]? = some (C, T, N) ∧ Cond.fieldLink RX11 38 C (T 13).2.1 (T 13).2.2.1 ∈ lw_g := ⟨_, _, _, rfl, gin 718 (by decide +kernel) rfl⟩
theorem flX11_41 : gFl RX11 41 9 14 := ⟨_, _, _, tyX11, rfl, by decide, iX11, tyX11_ok, nmX11, rfl, Or.inl (gin 719 (by decide +kernel) rfl)⟩
theorem fLX11_41 : ∃ C T N, gcl[9]? = some (C, T, N) ∧ Cond.fieldLink RX11 41 C (T 14).2.1 (T 14).2.2.1 ∈ lw_g := ⟨_, _, _, rfl, gin 719 (by decide +kernel) rfl⟩
theorem flX11_44 : gFl RX11 44 9 15 := ⟨_, _, _, tyX11, rfl, by decide, iX11, tyX11_ok, nmX11, rfl, Or.inl (gin 720 (by decide +kernel) rfl)⟩
theorem fLX11_44 : ∃ C T N, gcl[9]? = some (C, T, N) ∧ Cond.fieldLink RX11 44 C (T 15).2.1 (T 15).2.2.1 ∈ lw_g := ⟨_, _, _, rfl, gin 720 (by decide +kernel) rfl⟩
theorem flX11_47 : gFl RX11 47 9 16 := ⟨_, _, _, tyX11, rfl, by decide, iX11, tyX11_ok, nmX11, rfl, Or.inl (gin 721 (by decide +kernel) rfl)⟩
theorem fLX11_47 : ∃ C T N, gcl[9]? = some (C, T, N) ∧ Cond.fieldLink RX11 47 C (T 16).2.1 (T 16).2.2.1 ∈ lw_g := ⟨_, _, _, rfl, gin 721 (by decide +kernel) rfl⟩
theorem flX11_50 : gFl RX11 50 9 17 := ⟨_, _, _, tyX11, rfl, by decide, iX11, tyX11_ok, nmX11, rfl, Or.inl (gin 722 (by decide +kernel) rfl)⟩
theorem fLX11_50 : ∃ C T N, gcl[9]? = some (C, T, N) ∧ Cond.fieldLink RX11 50 C (T 17).2.1 (T 17).2.2.1 ∈ lw_g := ⟨_, _, _, rfl, gin 722 (by decide +kernel) rfl⟩
theorem flX11_171 : gFl RX11 171 9 18 := ⟨_, _, _, tyX11, rfl, by decide, iX11, tyX11_ok, nmX11, rfl, Or.inl (gin 723 (by decide +kernel) rfl)⟩
theorem flX11_174 : gFl RX11 174 9 19 := ⟨_, _, _, tyX11, rfl, by decide, iX11, tyX11_ok, nmX11, rfl, Or.inl (gin 724 (by decide +kernel) rfl)⟩
theorem flX11_177 : gFl RX11 177 9 20 := ⟨_, _, _, tyX11, rfl, by decide, iX11, tyX11_ok, nmX11, rfl, Or.inl (gin 725 (by decide +kernel) rfl)⟩
theorem flX11_189 : gFl RX11 189 9 21 := ⟨_, _, _, tyX11, rfl, by decide, iX11, tyX11_ok, nmX11, rfl, Or.inl (gin 726 (by decide +kernel) rfl)⟩
theorem flX11_192 : gFl RX11 192 9 22 := ⟨_, _, _, tyX11, rfl, by decide, iX11, tyX11_ok, nmX11, rfl, Or.inl (gin 727 (by decide +kernel) rfl)⟩
theorem flX11_183 : gFl RX11 183 9 23 := ⟨_, _, _, tyX11, rfl, by decide, iX11, tyX11_ok, nmX11, rfl, Or.inl (gin 728 (by decide +kernel) rfl)⟩
theorem flX11_186 : gFl RX11 186 9 24 := ⟨_, _, _, tyX11, rfl, by decide, iX11, tyX11_ok, nmX11, rfl, Or.inl (gin 729 (by decide +kernel) rfl)⟩
theorem flX11_243 : gFl RX11 243 9 25 := ⟨_, _, _, tyX11, rfl, by decide, iX11, tyX11_ok, nmX11, rfl, Or.inl (gin 730 (by decide +kernel) rfl)⟩
theorem flX11_53 : gFl RX11 53 9 26 := ⟨_, _, _, tyX11, rfl, by decide, iX11, tyX11_ok, nmX11, rfl, Or.inl (gin 731 (by decide +kernel) rfl)⟩
theorem fLX11_53 : ∃ C T N, gcl[9]? = some (C, T, N) ∧ Cond.fieldLink RX11 53 C (T 26).2.1 (T 26).2.2.1 ∈ lw_g := ⟨_, _, _, rfl, gin 731 (by decide +kernel) rfl⟩
theorem flX11_56 : gFl RX11 56 9 27 := ⟨_, _, _, tyX11, rfl, by decide, iX11, tyX11_ok, nmX11, rfl, Or.inl (gin 732 (by decide +kernel) rfl)⟩
theorem fLX11_56 : ∃ C T N, gcl[9]? = some (C, T, N) ∧ Cond.fieldLink RX11 56 C (T 27).2.1 (T 27).2.2.1 ∈ lw_g := ⟨_, _, _, rfl, gin 732 (by decide +kernel) rfl⟩
theorem flX11_292 : gFl RX11 292 9 28 := ⟨_, _, _, tyX11, rfl, by decide, iX11, tyX11_ok, nmX11, rfl, Or.inl (gin 733 (by decide +kernel) rfl)⟩
theorem flX11_59 : gFl RX11 59 9 29 := ⟨_, _, _, tyX11, rfl, by decide, iX11, tyX11_ok, nmX11, rfl, Or.inl (gin 734 (by decide +kernel) rfl)⟩
theorem fLX11_59 : ∃ C T N, gcl[9]? = some (C, T, N) ∧ Cond.fieldLink RX11 59 C (T 29).2.1 (T 29).2.2.1 ∈ lw_g := ⟨_, _, _, rfl, gin 734 (by decide +kernel) rfl⟩
theorem flX11_62 : gFl RX11 62 9 30 := ⟨_, _, _, tyX11, rfl, by decide, iX11, tyX11_ok, nmX11, rfl, Or.inl (gin 735 (by decide +kernel) rfl)⟩
theorem fLX11_62 : ∃ C T N, gcl[9]? = some (C, T, N) ∧ Cond.fieldLink RX11 62 C (T 30).2.1 (T 30).2.2.1 ∈ lw_g := ⟨_, _, _, rfl, gin 735 (by decide +kernel) rfl⟩
theorem flX11_65 : gFl RX11 65 9 31 := ⟨_, _, _, tyX11, rfl, by decide, iX11, tyX11_ok, nmX11, rfl, Or.inl (gin 736 (by decide +kernel) rfl)⟩
theorem fLX11_65 : ∃ C T N, gcl[9]? = some (C, T, N) ∧ Cond.fieldLink RX11 65 C (T 31).2.1 (T 31).2.2.1 ∈ lw_g := ⟨_, _, _, rfl, gin 736 (by decide +kernel) rfl⟩
theorem flX11_69 : gFl RX11 69 9 32 := ⟨_, _, _, tyX11, rfl, by decide, iX11, tyX11_ok, nmX11, rfl, Or.inl (gin 737 (by decide +kernel) rfl)⟩
theorem fLX11_69 : ∃ C T N, gcl[9]? = some (C, T, N) ∧ Cond.fieldLink RX11 69 C (T 32).2.1 (T 32).2.2.1 ∈ lw_g := ⟨_, _, _, rfl, gin 737 (by decide +kernel) rfl⟩
theorem flX11_72 : gFl RX11 72 9 33 := ⟨_, _, _, tyX11, rfl, by decide, iX11, tyX11_ok, nmX11, rfl, Or.inl (gin 738 (by decide +kernel) rfl)⟩
theorem fLX11_72 : ∃ C T N, gcl[9]? = some (C, T, N) ∧ Cond.fieldLink RX11 72 C (T 33).2.1 (T 33).2.2.1 ∈ lw_g := ⟨_, _, _, rfl, gin 738 (by decide +kernel) rfl⟩
theorem flX11_75 : gFl RX11 75 9 34 := ⟨_, _, _, tyX11, rfl, by decide, iX11, tyX11_ok, nmX11, rfl, Or.inl (gin 739 (by decide +kernel) rfl)⟩
theorem fLX11_75 : ∃ C T N, gcl[9]? = some (C, T, N) ∧ Cond.fieldLink RX11 75 C (T 34).2.1 (T 34).2.2.1 ∈ lw_g := ⟨_, _, _, rfl, gin 739 (by decide +kernel) rfl⟩
theorem flX11_78 : gFl RX11 78 9 35 := ⟨_, _, _, tyX11, rfl, by decide, iX11, tyX11_ok, nmX11, rfl, Or.inl (gin 740 (by decide +kernel) rfl)⟩
theorem fLX11_78 : ∃ C T N, gcl[9]? = some (C, T, N) ∧ Cond.fieldLink RX11 78 C (T 35).2.1 (T 35).2.2.1 ∈ lw_g := ⟨_, _, _, rfl, gin 740 (by decide +kernel) rfl⟩
theorem flX11_81 : gFl RX11 81 9 36 := ⟨_, _, _, tyX11, rfl, by decide, iX11, tyX11_ok, nmX11, rfl, Or.inl (gin 741 (by decide +kernel) rfl)⟩
theorem fLX11_81 : ∃ C T N, gcl[9]? = some (C, T, N) ∧ Cond.fieldLink RX11 81 C (T 36).2.1 (T 36).2.2.1 ∈ lw_g := ⟨_, _, _, rfl, gin 741 (by decide +kernel) rfl⟩
theorem flX11_84 : gFl RX11 84 9 37 := ⟨_, _, _, tyX11, rfl, by decide, iX11, tyX11_ok, nmX11, rfl, Or.inl (gin 742 (by decide +kernel) rfl)⟩
theorem fLX11_84 : ∃ C T N, gcl[9]? = some (C, T, N) ∧ Cond.fieldLink RX11 84 C (T 37).2.1 (T 37).2.2.1 ∈ lw_g := ⟨_, _, _, rfl, gin 742 (by decide +kernel) rfl⟩
theorem flX11_265 : gFl RX11 265 9 38 := ⟨_, _, _, tyX11, rfl, by decide, iX11, tyX11_ok, nmX11, rfl, Or.inl (gin 743 (by decide +kernel) rfl)⟩
theorem flX11_285 : gFl RX11 285 9 39 := ⟨_, _, _, tyX11, rfl, by decide, iX11, tyX11_ok, nmX11, rfl, Or.inl (gin 744 (by decide +kernel) rfl)⟩
theorem flX10_204 : gFl RX10 204 6 12 := ⟨_, _, _, tyX8, rfl, by decide, iX8, tyX8_ok, nmX8, rfl, Or.inr ⟨RX10, rfl, fun U h => h.1.2.2.2.2⟩⟩
theorem fp0_0 : gFp 0 0 (.int) true := ⟨_, _, _, rfl, rfl, by decide +kernel⟩
theorem fp0_1 : gFp 0 1 (.int) true := ⟨_, _, _, rfl, rfl, by decide +kernel⟩
theorem fp0_2 : gFp 0 2 (.int) true := ⟨_, _, _, rfl, rfl, by decide +kernel⟩
theorem fp0_3 : gFp 0 3 (.long) true := ⟨_, _, _, rfl, rfl, by decide +kernel⟩
theorem fp0_4 : gFp 0 4 (.object "DivideSmith$Holding") true := ⟨_, _, _, rfl, rfl, by decide +kernel⟩
theorem fp1_0 : gFp 1 0 (.int) true := ⟨_, _, _, rfl, rfl, by decide +kernel⟩
theorem fp1_1 : gFp 1 1 (.boolean) true := ⟨_, _, _, rfl, rfl, by decide +kernel⟩
theorem fp1_2 : gFp 1 2 (.int) true := ⟨_, _, _, rfl, rfl, by decide +kernel⟩
theorem fp1_3 : gFp 1 3 (.long) true := ⟨_, _, _, rfl, rfl, by decide +kernel⟩
theorem fp2_0 : gFp 2 0 (.int) false := ⟨_, _, _, rfl, rfl, by decide +kernel⟩
theorem fp2_1 : gFp 2 1 (.int) false := ⟨_, _, _, rfl, rfl, by decide +kernel⟩
theorem fp2_2 : gFp 2 2 (.array .int) true := ⟨_, _, _, rfl, rfl, by decide +kernel⟩
theorem fp2_3 : gFp 2 3 (.array .int) true := ⟨_, _, _, rfl, rfl, by decide +kernel⟩
theorem fp2_4 : gFp 2 4 (.array .long) true := ⟨_, _, _, rfl, rfl, by decide +kernel⟩
theorem fp3_0 : gFp 3 0 (.array (.object "DivideSmith$Act")) true := ⟨_, _, _, rfl, rfl, by decide +kernel⟩
theorem fp3_1 : gFp 3 1 (.int) false := ⟨_, _, _, rfl, rfl, by decide +kernel⟩
theorem fp4_0 : gFp 4 0 (.int) true := ⟨_, _, _, rfl, rfl, by decide +kernel⟩
theorem fp4_1 : gFp 4 1 (.int) true := ⟨_, _, _, rfl, rfl, by decide +kernel⟩
theorem fp4_2 : gFp 4 2 (.long) true := ⟨_, _, _, rfl, rfl, by decide +kernel⟩
theorem fp4_3 : gFp 4 3 (.array .long) true := ⟨_, _, _, rfl, rfl, by decide +kernel⟩
theorem fp5_0 : gFp 5 0 (.int) true := ⟨_, _, _, rfl, rfl, by decide +kernel⟩
theorem fp5_1 : gFp 5 1 (.long) true := ⟨_, _, _, rfl, rfl, by decide +kernel⟩
theorem fp5_2 : gFp 5 2 (.boolean) true := ⟨_, _, _, rfl, rfl, by decide +kernel⟩
theorem fp5_3 : gFp 5 3 (.long) true := ⟨_, _, _, rfl, rfl, by decide +kernel⟩
theorem fp6_0 : gFp 6 0 (.array .int) true := ⟨_, _, _, rfl, rfl, by decide +kernel⟩
theorem fp6_1 : gFp 6 1 (.int) false := ⟨_, _, _, rfl, rfl, by decide +kernel⟩
theorem fp6_2 : gFp 6 2 (.array .long) true := ⟨_, _, _, rfl, rfl, by decide +kernel⟩
theorem fp6_3 : gFp 6 3 (.array (.array .long)) true := ⟨_, _, _, rfl, rfl, by decide +kernel⟩
theorem fp6_4 : gFp 6 4 (.array .int) true := ⟨_, _, _, rfl, rfl, by decide +kernel⟩
theorem fp6_5 : gFp 6 5 (.int) false := ⟨_, _, _, rfl, rfl, by decide +kernel⟩
theorem fp6_6 : gFp 6 6 (.array .int) true := ⟨_, _, _, rfl, rfl, by decide +kernel⟩
theorem fp6_7 : gFp 6 7 (.array .int) true := ⟨_, _, _, rfl, rfl, by decide +kernel⟩
theorem fp6_8 : gFp 6 8 (.array .long) true := ⟨_, _, _, rfl, rfl, by decide +kernel⟩
theorem fp6_9 : gFp 6 9 (.array .int) true := ⟨_, _, _, rfl, rfl, by decide +kernel⟩
theorem fp6_10 : gFp 6 10 (.array .int) true := ⟨_, _, _, rfl, rfl, by decide +kernel⟩
theorem fp6_11 : gFp 6 11 (.int) false := ⟨_, _, _, rfl, rfl, by decide +kernel⟩
theorem fp6_12 : gFp 6 12 (.int) false := ⟨_, _, _, rfl, rfl, by decide +kernel⟩
theorem fp6_13 : gFp 6 13 (.array .int) true := ⟨_, _, _, rfl, rfl, by decide +kernel⟩
theorem fp7_0 : gFp 7 0 (.object "DivideSmith$Form") true := ⟨_, _, _, rfl, rfl, by decide +kernel⟩
theorem fp7_1 : gFp 7 1 (.object "DivideSmith$Asking") true := ⟨_, _, _, rfl, rfl, by decide +kernel⟩
theorem fp7_2 : gFp 7 2 (.int) true := ⟨_, _, _, rfl, rfl, by decide +kernel⟩
theorem fp7_3 : gFp 7 3 (.long) true := ⟨_, _, _, rfl, rfl, by decide +kernel⟩
theorem fp7_4 : gFp 7 4 (.int) true := ⟨_, _, _, rfl, rfl, by decide +kernel⟩
theorem fp7_5 : gFp 7 5 (.long) true := ⟨_, _, _, rfl, rfl, by decide +kernel⟩
theorem fp8_0 : gFp 8 0 (.array (.object "DivideSmith$Form")) true := ⟨_, _, _, rfl, rfl, by decide +kernel⟩
theorem fp8_1 : gFp 8 1 (.int) false := ⟨_, _, _, rfl, rfl, by decide +kernel⟩
theorem fp8_2 : gFp 8 2 (.array .int) true := ⟨_, _, _, rfl, rfl, by decide +kernel⟩
theorem fp8_3 : gFp 8 3 (.array .long) true := ⟨_, _, _, rfl, rfl, by decide +kernel⟩
theorem fp8_4 : gFp 8 4 (.array (.object "DivideSmith$Holding")) true := ⟨_, _, _, rfl, rfl, by decide +kernel⟩
theorem fp8_5 : gFp 8 5 (.object "DivideSmith$Holding") true := ⟨_, _, _, rfl, rfl, by decide +kernel⟩
theorem fp8_6 : gFp 8 6 (.object "DivideSmith$History") true := ⟨_, _, _, rfl, rfl, by decide +kernel⟩
theorem fp8_7 : gFp 8 7 (.object "DivideSmith$Search") true := ⟨_, _, _, rfl, rfl, by decide +kernel⟩
theorem fp8_8 : gFp 8 8 (.int) false := ⟨_, _, _, rfl, rfl, by decide +kernel⟩
theorem fp8_9 : gFp 8 9 (.array .long) true := ⟨_, _, _, rfl, rfl, by decide +kernel⟩
theorem fp9_0 : gFp 9 0 (.int) false := ⟨_, _, _, rfl, rfl, by decide +kernel⟩
theorem fp9_1 : gFp 9 1 (.long) false := ⟨_, _, _, rfl, rfl, by decide +kernel⟩
theorem fp9_2 : gFp 9 2 (.int) false := ⟨_, _, _, rfl, rfl, by decide +kernel⟩
theorem fp9_3 : gFp 9 3 (.array .int) true := ⟨_, _, _, rfl, rfl, by decide +kernel⟩
theorem fp9_4 : gFp 9 4 (.array .int) true := ⟨_, _, _, rfl, rfl, by decide +kernel⟩
theorem fp9_5 : gFp 9 5 (.array .int) true := ⟨_, _, _, rfl, rfl, by decide +kernel⟩
theorem fp9_6 : gFp 9 6 (.array .int) true := ⟨_, _, _, rfl, rfl, by decide +kernel⟩
theorem fp9_7 : gFp 9 7 (.array .long) true := ⟨_, _, _, rfl, rfl, by decide +kernel⟩
theorem fp9_8 : gFp 9 8 (.array .int) true := ⟨_, _, _, rfl, rfl, by decide +kernel⟩
theorem fp9_9 : gFp 9 9 (.array .long) true := ⟨_, _, _, rfl, rfl, by decide +kernel⟩
theorem fp9_10 : gFp 9 10 (.int) false := ⟨_, _, _, rfl, rfl, by decide +kernel⟩
theorem fp9_11 : gFp 9 11 (.array .int) true := ⟨_, _, _, rfl, rfl, by decide +kernel⟩
theorem fp9_12 : gFp 9 12 (.array .int) true := ⟨_, _, _, rfl, rfl, by decide +kernel⟩
theorem fp9_13 : gFp 9 13 (.array .int) true := ⟨_, _, _, rfl, rfl, by decide +kernel⟩
theorem fp9_14 : gFp 9 14 (.array .long) true := ⟨_, _, _, rfl, rfl, by decide +kernel⟩
theorem fp9_15 : gFp 9 15 (.array .int) true := ⟨_, _, _, rfl, rfl, by decide +kernel⟩
theorem fp9_16 : gFp 9 16 (.array .int) true := ⟨_, _, _, rfl, rfl, by decide +kernel⟩
theorem fp9_17 : gFp 9 17 (.array .long) true := ⟨_, _, _, rfl, rfl, by decide +kernel⟩
theorem fp9_18 : gFp 9 18 (.long) false := ⟨_, _, _, rfl, rfl, by decide +kernel⟩
theorem fp9_19 : gFp 9 19 (.int) false := ⟨_, _, _, rfl, rfl, by decide +kernel⟩
theorem fp9_20 : gFp 9 20 (.long) false := ⟨_, _, _, rfl, rfl, by decide +kernel⟩
theorem fp9_21 : gFp 9 21 (.long) false := ⟨_, _, _, rfl, rfl, by decide +kernel⟩
theorem fp9_22 : gFp 9 22 (.int) false := ⟨_, _, _, rfl, rfl, by decide +kernel⟩
theorem fp9_23 : gFp 9 23 (.int) false := ⟨_, _, _, rfl, rfl, by decide +kernel⟩
theorem fp9_24 : gFp 9 24 (.long) false := ⟨_, _, _, rfl, rfl, by decide +kernel⟩
theorem fp9_25 : gFp 9 25 (.boolean) false := ⟨_, _, _, rfl, rfl, by decide +kernel⟩
theorem fp9_26 : gFp 9 26 (.array .long) true := ⟨_, _, _, rfl, rfl, by decide +kernel⟩
theorem fp9_27 : gFp 9 27 (.array .long) true := ⟨_, _, _, rfl, rfl, by decide +kernel⟩
theorem fp9_28 : gFp 9 28 (.int) false := ⟨_, _, _, rfl, rfl, by decide +kernel⟩
theorem fp9_29 : gFp 9 29 (.array .int) true := ⟨_, _, _, rfl, rfl, by decide +kernel⟩
theorem fp9_30 : gFp 9 30 (.array .int) true := ⟨_, _, _, rfl, rfl, by decide +kernel⟩
theorem fp9_31 : gFp 9 31 (.array .boolean) true := ⟨_, _, _, rfl, rfl, by decide +kernel⟩
theorem fp9_32 : gFp 9 32 (.array .int) true := ⟨_, _, _, rfl, rfl, by decide +kernel⟩
theorem fp9_33 : gFp 9 33 (.array .int) true := ⟨_, _, _, rfl, rfl, by decide +kernel⟩
theorem fp9_34 : gFp 9 34 (.array .int) true := ⟨_, _, _, rfl, rfl, by decide +kernel⟩
theorem fp9_35 : gFp 9 35 (.array .int) true := ⟨_, _, _, rfl, rfl, by decide +kernel⟩
theorem fp9_36 : gFp 9 36 (.array .int) true := ⟨_, _, _, rfl, rfl, by decide +kernel⟩
theorem fp9_37 : gFp 9 37 (.array .long) true := ⟨_, _, _, rfl, rfl, by decide +kernel⟩
theorem fp9_38 : gFp 9 38 (.int) false := ⟨_, _, _, rfl, rfl, by decide +kernel⟩
theorem fp9_39 : gFp 9 39 (.int) false := ⟨_, _, _, rfl, rfl, by decide +kernel⟩
theorem nwL_7 : gNw RL 7 8 10 [.null, .int 0, .null, .null, .null, .null, .null, .null, .int 0, .null] := ⟨_, _, tyX10, rfl, iX10, tyX10_ok, gin 68 (by decide +kernel) rfl, gin 69 (by decide +kernel) rfl, gin 54 (by decide +kernel) rfl, by decide +kernel⟩
theorem clL_7 : Cond.classLink RL 7 RX10 ∈ lw_g := gin 68 (by decide +kernel) rfl
theorem nwX10_9 : gNw RX10 9 2 5 [.int 0, .int 0, .null, .null, .null] := ⟨_, _, tyX3, rfl, iX3, tyX3_ok, gin 76 (by decide +kernel) rfl, gin 219 (by decide +kernel) rfl, gin 61 (by decide +kernel) rfl, by decide +kernel⟩
theorem clX10_9 : Cond.classLink RX10 9 RX3 ∈ lw_g := gin 76 (by decide +kernel) rfl
theorem nwX10_23 : gNw RX10 23 4 4 [.int 0, .int 0, .long 0, .null] := ⟨_, _, tyX5, rfl, iX5, tyX5_ok, gin 78 (by decide +kernel) rfl, gin 80 (by decide +kernel) rfl, gin 55 (by decide +kernel) rfl, by decide +kernel⟩
theorem clX10_23 : Cond.classLink RX10 23 RX5 ∈ lw_g := gin 78 (by decide +kernel) rfl
theorem nwX10_36 : gNw RX10 36 3 2 [.null, .int 0] := ⟨_, _, tyX4, rfl, iX4, tyX4_ok, gin 104 (by decide +kernel) rfl, gin 105 (by decide +kernel) rfl, gin 56 (by decide +kernel) rfl, by decide +kernel⟩
theorem clX10_36 : Cond.classLink RX10 36 RX4 ∈ lw_g := gin 104 (by decide +kernel) rfl
theorem nwX4_9 : gNw RX4 9 0 5 [.int 0, .int 0, .int 0, .long 0, .null] := ⟨_, _, tyX0, rfl, iX0, tyX0_ok, gin 110 (by decide +kernel) rfl, gin 250 (by decide +kernel) rfl, gin 62 (by decide +kernel) rfl, by decide +kernel⟩
theorem clX4_9 : Cond.classLink RX4 9 RX0 ∈ lw_g := gin 110 (by decide +kernel) rfl
theorem nwX10_43 : gNw RX10 43 6 14 [.null, .int 0, .null, .null, .null, .int 0, .null, .null, .null, .null, .null, .int 0, .int 0, .null] := ⟨_, _, tyX8, rfl, iX8, tyX8_ok, gin 120 (by decide +kernel) rfl, gin 121 (by decide +kernel) rfl, gin 57 (by decide +kernel) rfl, by decide +kernel⟩
theorem clX10_43 : Cond.classLink RX10 43 RX8 ∈ lw_g := gin 120 (by decide +kernel) rfl
theorem clX8_19 : Cond.classLink RX8 19 "[[J" ∈ lw_g := gin 126 (by decide +kernel) rfl
theorem nwX10_100 : gNw RX10 100 0 5 [.int 0, .int 0, .int 0, .long 0, .null] := ⟨_, _, tyX0, rfl, iX0, tyX0_ok, gin 249 (by decide +kernel) rfl, gin 250 (by decide +kernel) rfl, gin 62 (by decide +kernel) rfl, by decide +kernel⟩
theorem clX10_100 : Cond.classLink RX10 100 RX0 ∈ lw_g := gin 249 (by decide +kernel) rfl
theorem nwX10_114 : gNw RX10 114 7 6 [.null, .null, .int 0, .long 0, .int 0, .long 0] := ⟨_, _, tyX9, rfl, iX9, tyX9_ok, gin 319 (by decide +kernel) rfl, gin 320 (by decide +kernel) rfl, gin 65 (by decide +kernel) rfl, by decide +kernel⟩
theorem clX10_114 : Cond.classLink RX10 114 RX9 ∈ lw_g := gin 319 (by decide +kernel) rfl
theorem nwX10_109 : gNw RX10 109 1 4 [.int 0, .int 0, .int 0, .long 0] := ⟨_, _, tyX1, rfl, iX1, tyX1_ok, gin 321 (by decide +kernel) rfl, gin 322 (by decide +kernel) rfl, gin 64 (by decide +kernel) rfl, by decide +kernel⟩
theorem clX10_109 : Cond.classLink RX10 109 RX1 ∈ lw_g := gin 321 (by decide +kernel) rfl
theorem nwX9_91 : gNw RX9 91 5 4 [.int 0, .long 0, .int 0, .long 0] := ⟨_, _, tyX7, rfl, iX7, tyX7_ok, gin 392 (by decide +kernel) rfl, gin 393 (by decide +kernel) rfl, gin 67 (by decide +kernel) rfl, by decide +kernel⟩
theorem clX9_91 : Cond.classLink RX9 91 RX7 ∈ lw_g := gin 392 (by decide +kernel) rfl
theorem nwX10_158 : gNw RX10 158 5 4 [.int 0, .long 0, .int 0, .long 0] := ⟨_, _, tyX7, rfl, iX7, tyX7_ok, gin 561 (by decide +kernel) rfl, gin 393 (by decide +kernel) rfl, gin 67 (by decide +kernel) rfl, by decide +kernel⟩
theorem clX10_158 : Cond.classLink RX10 158 RX7 ∈ lw_g := gin 561 (by decide +kernel) rfl
theorem nwL_10 : gNw RL 10 9 40 [.int 0, .long 0, .int 0, .null, .null, .null, .null, .null, .null, .null, .int 0, .null, .null, .null, .null, .null, .null, .null, .long 0, .int 0, .long 0, .long 0, .int 0, .int 0, .long 0, .int 0, .null, .null, .int 0, .null, .null, .null, .null, .null, .null, .null, .null, .null, .int 0, .int 0] := ⟨_, _, tyX11, rfl, iX11, tyX11_ok, gin 700 (by decide +kernel) rfl, gin 701 (by decide +kernel) rfl, gin 59 (by decide +kernel) rfl, by decide +kernel⟩
theorem clL_10 : Cond.classLink RL 10 RX11 ∈ lw_g := gin 700 (by decide +kernel) rfl
theorem klX2_7 : Cond.constantLong RX2 7 (-1) ∈ lw_g := gin 303 (by decide +kernel) rfl
theorem klJ13_314 : Cond.constantLong RJ13 314 (6148914691236517205) ∈ lw_g := gin 353 (by decide +kernel) rfl
theorem klJ13_316 : Cond.constantLong RJ13 316 (3689348814741910323) ∈ lw_g := gin 354 (by decide +kernel) rfl
theorem klJ13_318 : Cond.constantLong RJ13 318 (1085102592571150095) ∈ lw_g := gin 355 (by decide +kernel) rfl
theorem klX2_11 : Cond.constantLong RX2 11 (-9223372036854775808) ∈ lw_g := gin 405 (by decide +kernel) rfl
theorem klX2_33 : Cond.constantLong RX2 33 (2) ∈ lw_g := gin 453 (by decide +kernel) rfl
theorem klX10_135 : Cond.constantLong RX10 135 (-1) ∈ lw_g := gin 488 (by decide +kernel) rfl
theorem klX2_31 : Cond.constantLong RX2 31 (4294967295) ∈ lw_g := gin 522 (by decide +kernel) rfl
theorem klX8_101 : Cond.constantLong RX8 101 (8) ∈ lw_g := gin 607 (by decide +kernel) rfl
theorem klX11_93 : Cond.constantLong RX11 93 (-9223372036854775808) ∈ lw_g := gin 909 (by decide +kernel) rfl
theorem klX11_116 : Cond.constantLong RX11 116 (2) ∈ lw_g := gin 910 (by decide +kernel) rfl
theorem klX11_202 : Cond.constantLong RX11 202 (-1) ∈ lw_g := gin 922 (by decide +kernel) rfl
theorem klX11_95 : Cond.constantLong RX11 95 (4294967295) ∈ lw_g := gin 975 (by decide +kernel) rfl
theorem klX11_259 : Cond.constantLong RX11 259 (4294967296) ∈ lw_g := gin 1011 (by decide +kernel) rfl
theorem klX11_261 : Cond.constantLong RX11 261 (255) ∈ lw_g := gin 1036 (by decide +kernel) rfl
theorem klX11_263 : Cond.constantLong RX11 263 (7) ∈ lw_g := gin 1037 (by decide +kernel) rfl
theorem klX11_298 : Cond.constantLong RX11 298 (4) ∈ lw_g := gin 1077 (by decide +kernel) rfl
theorem klL_18 : Cond.constantLong RL 18 (4294967295) ∈ lw_g := gin 1082 (by decide +kernel) rfl
theorem ac_int : Cond.arrayClass .int ∈ lw_g := gin 102 (by decide +kernel) rfl
theorem ac_long : Cond.arrayClass .long ∈ lw_g := gin 103 (by decide +kernel) rfl
theorem ac_boolean : Cond.arrayClass .boolean ∈ lw_g := gin 826 (by decide +kernel) rfl
theorem oi_code : Cond.code Lib.objectInit ⟨#[0xb1]⟩ 1 none ∈ lw_g := gin 75 (by decide +kernel) rfl
theorem oi_inst : Cond.instanceMethod Lib.objectInit ∈ lw_g := gin 74 (by decide +kernel) rfl
theorem ay_static : Cond.static arraycopyName ∈ lw_g := gin 175 (by decide +kernel) rfl
theorem ay_native : Cond.native arraycopyName ∈ lw_g := gin 176 (by decide +kernel) rfl
theorem ay_init : Cond.initialized "java/lang/System" ∈ lw_g := gin 58 (by decide +kernel) rfl
end
