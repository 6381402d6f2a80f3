section
-- ===== PART A: goes FIRST, ahead of the names: the tables' words, and 'selects' of the private methods out of them =====
/-- a private method of a class that the tables say can be made, by its rows of tables_1 -/
def lw_okq (q : MethodName × Nat) : Prop := (q.1.cls ≠ "java/lang/invoke/MethodHandle" ∧ q.1.cls ≠ "java/lang/invoke/VarHandle") ∧ Cond.instantiable q.1.cls q.2 ∈ tables_1 ∧ Cond.privateMethod q.1 ∈ tables_1 ∧ Cond.instanceMethod q.1 ∈ tables_1
theorem lw_p0 : lw_okq (⟨"PutBack$House", "measure", "()V"⟩, 11) := ⟨⟨by decide +kernel, by decide +kernel⟩, List.mem_of_getElem? (i := 36) (by decide +kernel), List.mem_of_getElem? (i := 89) (by decide +kernel), List.mem_of_getElem? (i := 90) (by decide +kernel)⟩
theorem lw_p1 : lw_okq (⟨"PutBack", "refuseBad", "(I)I"⟩, 13) := ⟨⟨by decide +kernel, by decide +kernel⟩, List.mem_of_getElem? (i := 22) (by decide +kernel), List.mem_of_getElem? (i := 320) (by decide +kernel), List.mem_of_getElem? (i := 321) (by decide +kernel)⟩
theorem lw_p2 : lw_okq (⟨"PutBack", "refuseFull", "()I"⟩, 13) := ⟨⟨by decide +kernel, by decide +kernel⟩, List.mem_of_getElem? (i := 22) (by decide +kernel), List.mem_of_getElem? (i := 332) (by decide +kernel), List.mem_of_getElem? (i := 333) (by decide +kernel)⟩
theorem lw_p3 : lw_okq (⟨"PutBack", "isThing", "(I)Z"⟩, 13) := ⟨⟨by decide +kernel, by decide +kernel⟩, List.mem_of_getElem? (i := 22) (by decide +kernel), List.mem_of_getElem? (i := 352) (by decide +kernel), List.mem_of_getElem? (i := 353) (by decide +kernel)⟩
theorem lw_p4 : lw_okq (⟨"PutBack$Reader", "advance", "()V"⟩, 5) := ⟨⟨by decide +kernel, by decide +kernel⟩, List.mem_of_getElem? (i := 201) (by decide +kernel), List.mem_of_getElem? (i := 388) (by decide +kernel), List.mem_of_getElem? (i := 389) (by decide +kernel)⟩
theorem lw_p5 : lw_okq (⟨"PutBack$Reader", "endOfRun", "(CC)I"⟩, 5) := ⟨⟨by decide +kernel, by decide +kernel⟩, List.mem_of_getElem? (i := 201) (by decide +kernel), List.mem_of_getElem? (i := 392) (by decide +kernel), List.mem_of_getElem? (i := 393) (by decide +kernel)⟩
theorem lw_p6 : lw_okq (⟨"PutBack$Reader", "isWord", "(Ljava/lang/String;)Z"⟩, 5) := ⟨⟨by decide +kernel, by decide +kernel⟩, List.mem_of_getElem? (i := 201) (by decide +kernel), List.mem_of_getElem? (i := 397) (by decide +kernel), List.mem_of_getElem? (i := 398) (by decide +kernel)⟩
theorem lw_p7 : lw_okq (⟨"PutBack$Reader", "stopNext", "()Z"⟩, 5) := ⟨⟨by decide +kernel, by decide +kernel⟩, List.mem_of_getElem? (i := 201) (by decide +kernel), List.mem_of_getElem? (i := 449) (by decide +kernel), List.mem_of_getElem? (i := 450) (by decide +kernel)⟩
theorem lw_p8 : lw_okq (⟨"PutBack$Reader", "readItem", "(LPutBack$House;)Z"⟩, 5) := ⟨⟨by decide +kernel, by decide +kernel⟩, List.mem_of_getElem? (i := 201) (by decide +kernel), List.mem_of_getElem? (i := 453) (by decide +kernel), List.mem_of_getElem? (i := 454) (by decide +kernel)⟩
theorem lw_p9 : lw_okq (⟨"PutBack$Reader", "readStair", "(LPutBack$House;)Z"⟩, 5) := ⟨⟨by decide +kernel, by decide +kernel⟩, List.mem_of_getElem? (i := 201) (by decide +kernel), List.mem_of_getElem? (i := 458) (by decide +kernel), List.mem_of_getElem? (i := 459) (by decide +kernel)⟩
theorem lw_p10 : lw_okq (⟨"PutBack$Reader", "numberNext", "(I)I"⟩, 5) := ⟨⟨by decide +kernel, by decide +kernel⟩, List.mem_of_getElem? (i := 201) (by decide +kernel), List.mem_of_getElem? (i := 462) (by decide +kernel), List.mem_of_getElem? (i := 463) (by decide +kernel)⟩
theorem lw_p11 : lw_okq (⟨"PutBack$Reader", "readSleeper", "(LPutBack$House;)Z"⟩, 5) := ⟨⟨by decide +kernel, by decide +kernel⟩, List.mem_of_getElem? (i := 201) (by decide +kernel), List.mem_of_getElem? (i := 468) (by decide +kernel), List.mem_of_getElem? (i := 469) (by decide +kernel)⟩
theorem lw_p12 : lw_okq (⟨"PutBack$Reader", "readThing", "(LPutBack$House;)Z"⟩, 5) := ⟨⟨by decide +kernel, by decide +kernel⟩, List.mem_of_getElem? (i := 201) (by decide +kernel), List.mem_of_getElem? (i := 474) (by decide +kernel), List.mem_of_getElem? (i := 475) (by decide +kernel)⟩
theorem lw_p13 : lw_okq (⟨"PutBack", "refuseNo", "()I"⟩, 13) := ⟨⟨by decide +kernel, by decide +kernel⟩, List.mem_of_getElem? (i := 22) (by decide +kernel), List.mem_of_getElem? (i := 493) (by decide +kernel), List.mem_of_getElem? (i := 494) (by decide +kernel)⟩
theorem lw_p14 : lw_okq (⟨"PutBack$Night", "dropOldest", "()V"⟩, 13) := ⟨⟨by decide +kernel, by decide +kernel⟩, List.mem_of_getElem? (i := 30) (by decide +kernel), List.mem_of_getElem? (i := 505) (by decide +kernel), List.mem_of_getElem? (i := 506) (by decide +kernel)⟩
theorem lw_p15 : lw_okq (⟨"PutBack", "isSleeper", "(I)Z"⟩, 13) := ⟨⟨by decide +kernel, by decide +kernel⟩, List.mem_of_getElem? (i := 22) (by decide +kernel), List.mem_of_getElem? (i := 561) (by decide +kernel), List.mem_of_getElem? (i := 562) (by decide +kernel)⟩
def lw_privs_1 : List (MethodName × Nat) := [(⟨"PutBack$House", "measure", "()V"⟩, 11), (⟨"PutBack", "refuseBad", "(I)I"⟩, 13), (⟨"PutBack", "refuseFull", "()I"⟩, 13), (⟨"PutBack", "isThing", "(I)Z"⟩, 13), (⟨"PutBack$Reader", "advance", "()V"⟩, 5), (⟨"PutBack$Reader", "endOfRun", "(CC)I"⟩, 5), (⟨"PutBack$Reader", "isWord", "(Ljava/lang/String;)Z"⟩, 5), (⟨"PutBack$Reader", "stopNext", "()Z"⟩, 5), (⟨"PutBack$Reader", "readItem", "(LPutBack$House;)Z"⟩, 5), (⟨"PutBack$Reader", "readStair", "(LPutBack$House;)Z"⟩, 5), (⟨"PutBack$Reader", "numberNext", "(I)I"⟩, 5), (⟨"PutBack$Reader", "readSleeper", "(LPutBack$House;)Z"⟩, 5), (⟨"PutBack$Reader", "readThing", "(LPutBack$House;)Z"⟩, 5), (⟨"PutBack", "refuseNo", "()I"⟩, 13), (⟨"PutBack$Night", "dropOldest", "()V"⟩, 13), (⟨"PutBack", "isSleeper", "(I)Z"⟩, 13)]
theorem lw_r1 : ∀ q ∈ lw_privs_1, lw_okq q := List.forall_mem_cons.mpr ⟨lw_p0, List.forall_mem_cons.mpr ⟨lw_p1, List.forall_mem_cons.mpr ⟨lw_p2, List.forall_mem_cons.mpr ⟨lw_p3, List.forall_mem_cons.mpr ⟨lw_p4, List.forall_mem_cons.mpr ⟨lw_p5, List.forall_mem_cons.mpr ⟨lw_p6, List.forall_mem_cons.mpr ⟨lw_p7, List.forall_mem_cons.mpr ⟨lw_p8, List.forall_mem_cons.mpr ⟨lw_p9, List.forall_mem_cons.mpr ⟨lw_p10, List.forall_mem_cons.mpr ⟨lw_p11, List.forall_mem_cons.mpr ⟨lw_p12, List.forall_mem_cons.mpr ⟨lw_p13, List.forall_mem_cons.mpr ⟨lw_p14, List.forall_mem_cons.mpr ⟨lw_p15, fun _ h => absurd h List.not_mem_nil⟩⟩⟩⟩⟩⟩⟩⟩⟩⟩⟩⟩⟩⟩⟩⟩
theorem lw_p16 : lw_okq (⟨"PutBack$Finder", "lookAt", "(LPutBack$House;I)V"⟩, 3) := ⟨⟨by decide +kernel, by decide +kernel⟩, List.mem_of_getElem? (i := 228) (by decide +kernel), List.mem_of_getElem? (i := 598) (by decide +kernel), List.mem_of_getElem? (i := 599) (by decide +kernel)⟩
theorem lw_p17 : lw_okq (⟨"PutBack$Finder", "stayOnly", "()V"⟩, 3) := ⟨⟨by decide +kernel, by decide +kernel⟩, List.mem_of_getElem? (i := 228) (by decide +kernel), List.mem_of_getElem? (i := 602) (by decide +kernel), List.mem_of_getElem? (i := 603) (by decide +kernel)⟩
theorem lw_p18 : lw_okq (⟨"PutBack$Finder", "allowInto", "(LPutBack$House;II)V"⟩, 3) := ⟨⟨by decide +kernel, by decide +kernel⟩, List.mem_of_getElem? (i := 228) (by decide +kernel), List.mem_of_getElem? (i := 607) (by decide +kernel), List.mem_of_getElem? (i := 608) (by decide +kernel)⟩
theorem lw_p19 : lw_okq (⟨"PutBack$Finder", "roomsAfter", "(I)I"⟩, 3) := ⟨⟨by decide +kernel, by decide +kernel⟩, List.mem_of_getElem? (i := 228) (by decide +kernel), List.mem_of_getElem? (i := 612) (by decide +kernel), List.mem_of_getElem? (i := 613) (by decide +kernel)⟩
theorem lw_p20 : lw_okq (⟨"PutBack$Finder", "roomsAhead", "(I)I"⟩, 3) := ⟨⟨by decide +kernel, by decide +kernel⟩, List.mem_of_getElem? (i := 228) (by decide +kernel), List.mem_of_getElem? (i := 620) (by decide +kernel), List.mem_of_getElem? (i := 621) (by decide +kernel)⟩
theorem lw_p21 : lw_okq (⟨"PutBack$Finder", "allowCreaks", "(LPutBack$House;I)V"⟩, 3) := ⟨⟨by decide +kernel, by decide +kernel⟩, List.mem_of_getElem? (i := 228) (by decide +kernel), List.mem_of_getElem? (i := 632) (by decide +kernel), List.mem_of_getElem? (i := 633) (by decide +kernel)⟩
theorem lw_p22 : lw_okq (⟨"PutBack$Finder", "goTogether", "()V"⟩, 3) := ⟨⟨by decide +kernel, by decide +kernel⟩, List.mem_of_getElem? (i := 228) (by decide +kernel), List.mem_of_getElem? (i := 644) (by decide +kernel), List.mem_of_getElem? (i := 645) (by decide +kernel)⟩
theorem lw_p23 : lw_okq (⟨"PutBack$Finder", "secondGoes", "(II)I"⟩, 3) := ⟨⟨by decide +kernel, by decide +kernel⟩, List.mem_of_getElem? (i := 228) (by decide +kernel), List.mem_of_getElem? (i := 648) (by decide +kernel), List.mem_of_getElem? (i := 649) (by decide +kernel)⟩
theorem lw_p24 : lw_okq (⟨"PutBack$Rows", "findLeads", "(LPutBack$Night;I)V"⟩, 3) := ⟨⟨by decide +kernel, by decide +kernel⟩, List.mem_of_getElem? (i := 244) (by decide +kernel), List.mem_of_getElem? (i := 694) (by decide +kernel), List.mem_of_getElem? (i := 695) (by decide +kernel)⟩
theorem lw_p25 : lw_okq (⟨"PutBack$Rows", "tallyBefore", "()V"⟩, 3) := ⟨⟨by decide +kernel, by decide +kernel⟩, List.mem_of_getElem? (i := 244) (by decide +kernel), List.mem_of_getElem? (i := 703) (by decide +kernel), List.mem_of_getElem? (i := 704) (by decide +kernel)⟩
theorem lw_p26 : lw_okq (⟨"PutBack$Rows", "tallyBehind", "()V"⟩, 3) := ⟨⟨by decide +kernel, by decide +kernel⟩, List.mem_of_getElem? (i := 244) (by decide +kernel), List.mem_of_getElem? (i := 708) (by decide +kernel), List.mem_of_getElem? (i := 709) (by decide +kernel)⟩
theorem lw_p27 : lw_okq (⟨"PutBack$Rows", "rowsHeardBy", "(LPutBack$House;II)J"⟩, 3) := ⟨⟨by decide +kernel, by decide +kernel⟩, List.mem_of_getElem? (i := 244) (by decide +kernel), List.mem_of_getElem? (i := 734) (by decide +kernel), List.mem_of_getElem? (i := 735) (by decide +kernel)⟩
theorem lw_p28 : lw_okq (⟨"PutBack", "weighClocks", "(II)V"⟩, 13) := ⟨⟨by decide +kernel, by decide +kernel⟩, List.mem_of_getElem? (i := 22) (by decide +kernel), List.mem_of_getElem? (i := 746) (by decide +kernel), List.mem_of_getElem? (i := 747) (by decide +kernel)⟩
theorem lw_p29 : lw_okq (⟨"PutBack", "keepFraction", "(JJ)V"⟩, 13) := ⟨⟨by decide +kernel, by decide +kernel⟩, List.mem_of_getElem? (i := 22) (by decide +kernel), List.mem_of_getElem? (i := 757) (by decide +kernel), List.mem_of_getElem? (i := 758) (by decide +kernel)⟩
theorem lw_p30 : lw_okq (⟨"PutBackModel", "anew", "()V"⟩, 29) := ⟨⟨by decide +kernel, by decide +kernel⟩, List.mem_of_getElem? (i := 832) (by decide +kernel), List.mem_of_getElem? (i := 838) (by decide +kernel), List.mem_of_getElem? (i := 839) (by decide +kernel)⟩
theorem lw_p31 : lw_okq (⟨"PutBackModel", "bad", "()I"⟩, 29) := ⟨⟨by decide +kernel, by decide +kernel⟩, List.mem_of_getElem? (i := 832) (by decide +kernel), List.mem_of_getElem? (i := 946) (by decide +kernel), List.mem_of_getElem? (i := 947) (by decide +kernel)⟩
def lw_privs_2 : List (MethodName × Nat) := [(⟨"PutBack$Finder", "lookAt", "(LPutBack$House;I)V"⟩, 3), (⟨"PutBack$Finder", "stayOnly", "()V"⟩, 3), (⟨"PutBack$Finder", "allowInto", "(LPutBack$House;II)V"⟩, 3), (⟨"PutBack$Finder", "roomsAfter", "(I)I"⟩, 3), (⟨"PutBack$Finder", "roomsAhead", "(I)I"⟩, 3), (⟨"PutBack$Finder", "allowCreaks", "(LPutBack$House;I)V"⟩, 3), (⟨"PutBack$Finder", "goTogether", "()V"⟩, 3), (⟨"PutBack$Finder", "secondGoes", "(II)I"⟩, 3), (⟨"PutBack$Rows", "findLeads", "(LPutBack$Night;I)V"⟩, 3), (⟨"PutBack$Rows", "tallyBefore", "()V"⟩, 3), (⟨"PutBack$Rows", "tallyBehind", "()V"⟩, 3), (⟨"PutBack$Rows", "rowsHeardBy", "(LPutBack$House;II)J"⟩, 3), (⟨"PutBack", "weighClocks", "(II)V"⟩, 13), (⟨"PutBack", "keepFraction", "(JJ)V"⟩, 13), (⟨"PutBackModel", "anew", "()V"⟩, 29), (⟨"PutBackModel", "bad", "()I"⟩, 29)]
theorem lw_r2 : ∀ q ∈ lw_privs_2, lw_okq q := List.forall_mem_cons.mpr ⟨lw_p16, List.forall_mem_cons.mpr ⟨lw_p17, List.forall_mem_cons.mpr ⟨lw_p18, List.forall_mem_cons.mpr ⟨lw_p19, List.forall_mem_cons.mpr ⟨lw_p20, List.forall_mem_cons.mpr ⟨lw_p21, List.forall_mem_cons.mpr ⟨lw_p22, List.forall_mem_cons.mpr ⟨lw_p23, List.forall_mem_cons.mpr ⟨lw_p24, List.forall_mem_cons.mpr ⟨lw_p25, List.forall_mem_cons.mpr ⟨lw_p26, List.forall_mem_cons.mpr ⟨lw_p27, List.forall_mem_cons.mpr ⟨lw_p28, List.forall_mem_cons.mpr ⟨lw_p29, List.forall_mem_cons.mpr ⟨lw_p30, List.forall_mem_cons.mpr ⟨lw_p31, fun _ h => absurd h List.not_mem_nil⟩⟩⟩⟩⟩⟩⟩⟩⟩⟩⟩⟩⟩⟩⟩⟩
theorem lw_p32 : lw_okq (⟨"PutBackModel", "creakOf", "(II)I"⟩, 29) := ⟨⟨by decide +kernel, by decide +kernel⟩, List.mem_of_getElem? (i := 832) (by decide +kernel), List.mem_of_getElem? (i := 950) (by decide +kernel), List.mem_of_getElem? (i := 951) (by decide +kernel)⟩
theorem lw_p33 : lw_okq (⟨"PutBackModel", "full", "()I"⟩, 29) := ⟨⟨by decide +kernel, by decide +kernel⟩, List.mem_of_getElem? (i := 832) (by decide +kernel), List.mem_of_getElem? (i := 962) (by decide +kernel), List.mem_of_getElem? (i := 963) (by decide +kernel)⟩
theorem lw_p34 : lw_okq (⟨"PutBackModel", "addSleeper", "(III)V"⟩, 29) := ⟨⟨by decide +kernel, by decide +kernel⟩, List.mem_of_getElem? (i := 832) (by decide +kernel), List.mem_of_getElem? (i := 966) (by decide +kernel), List.mem_of_getElem? (i := 967) (by decide +kernel)⟩
theorem lw_p35 : lw_okq (⟨"PutBackModel", "addThing", "(I)V"⟩, 29) := ⟨⟨by decide +kernel, by decide +kernel⟩, List.mem_of_getElem? (i := 832) (by decide +kernel), List.mem_of_getElem? (i := 974) (by decide +kernel), List.mem_of_getElem? (i := 975) (by decide +kernel)⟩
theorem lw_p36 : lw_okq (⟨"PutBackModel", "isThing", "(I)Z"⟩, 29) := ⟨⟨by decide +kernel, by decide +kernel⟩, List.mem_of_getElem? (i := 832) (by decide +kernel), List.mem_of_getElem? (i := 982) (by decide +kernel), List.mem_of_getElem? (i := 983) (by decide +kernel)⟩
theorem lw_p37 : lw_okq (⟨"PutBackModel", "lastOwner", "(I)I"⟩, 29) := ⟨⟨by decide +kernel, by decide +kernel⟩, List.mem_of_getElem? (i := 832) (by decide +kernel), List.mem_of_getElem? (i := 987) (by decide +kernel), List.mem_of_getElem? (i := 988) (by decide +kernel)⟩
theorem lw_p38 : lw_okq (⟨"PutBackModel", "addOwner", "(II)V"⟩, 29) := ⟨⟨by decide +kernel, by decide +kernel⟩, List.mem_of_getElem? (i := 832) (by decide +kernel), List.mem_of_getElem? (i := 991) (by decide +kernel), List.mem_of_getElem? (i := 992) (by decide +kernel)⟩
theorem lw_p39 : lw_okq (⟨"PutBackModel", "readText", "(Z)I"⟩, 29) := ⟨⟨by decide +kernel, by decide +kernel⟩, List.mem_of_getElem? (i := 832) (by decide +kernel), List.mem_of_getElem? (i := 1008) (by decide +kernel), List.mem_of_getElem? (i := 1009) (by decide +kernel)⟩
theorem lw_p40 : lw_okq (⟨"PutBackModel", "nextToken", "()V"⟩, 29) := ⟨⟨by decide +kernel, by decide +kernel⟩, List.mem_of_getElem? (i := 832) (by decide +kernel), List.mem_of_getElem? (i := 1012) (by decide +kernel), List.mem_of_getElem? (i := 1013) (by decide +kernel)⟩
theorem lw_p41 : lw_okq (⟨"PutBackModel", "byteAt", "(I)I"⟩, 29) := ⟨⟨by decide +kernel, by decide +kernel⟩, List.mem_of_getElem? (i := 832) (by decide +kernel), List.mem_of_getElem? (i := 1016) (by decide +kernel), List.mem_of_getElem? (i := 1017) (by decide +kernel)⟩
theorem lw_p42 : lw_okq (⟨"PutBackModel", "readItem", "(IZ)Z"⟩, 29) := ⟨⟨by decide +kernel, by decide +kernel⟩, List.mem_of_getElem? (i := 832) (by decide +kernel), List.mem_of_getElem? (i := 1024) (by decide +kernel), List.mem_of_getElem? (i := 1025) (by decide +kernel)⟩
theorem lw_p43 : lw_okq (⟨"PutBackModel", "isWord", "(J)Z"⟩, 29) := ⟨⟨by decide +kernel, by decide +kernel⟩, List.mem_of_getElem? (i := 832) (by decide +kernel), List.mem_of_getElem? (i := 1033) (by decide +kernel), List.mem_of_getElem? (i := 1034) (by decide +kernel)⟩
theorem lw_p44 : lw_okq (⟨"PutBackModel", "ends", "()Z"⟩, 29) := ⟨⟨by decide +kernel, by decide +kernel⟩, List.mem_of_getElem? (i := 832) (by decide +kernel), List.mem_of_getElem? (i := 1037) (by decide +kernel), List.mem_of_getElem? (i := 1038) (by decide +kernel)⟩
theorem lw_p45 : lw_okq (⟨"PutBackModel", "reads", "(II)Z"⟩, 29) := ⟨⟨by decide +kernel, by decide +kernel⟩, List.mem_of_getElem? (i := 832) (by decide +kernel), List.mem_of_getElem? (i := 1041) (by decide +kernel), List.mem_of_getElem? (i := 1042) (by decide +kernel)⟩
theorem lw_p46 : lw_okq (⟨"PutBackModel", "readOwners", "()Z"⟩, 29) := ⟨⟨by decide +kernel, by decide +kernel⟩, List.mem_of_getElem? (i := 832) (by decide +kernel), List.mem_of_getElem? (i := 1045) (by decide +kernel), List.mem_of_getElem? (i := 1046) (by decide +kernel)⟩
theorem lw_p47 : lw_okq (⟨"PutBackModel", "findFar", "(I)V"⟩, 29) := ⟨⟨by decide +kernel, by decide +kernel⟩, List.mem_of_getElem? (i := 832) (by decide +kernel), List.mem_of_getElem? (i := 1053) (by decide +kernel), List.mem_of_getElem? (i := 1054) (by decide +kernel)⟩
def lw_privs_3 : List (MethodName × Nat) := [(⟨"PutBackModel", "creakOf", "(II)I"⟩, 29), (⟨"PutBackModel", "full", "()I"⟩, 29), (⟨"PutBackModel", "addSleeper", "(III)V"⟩, 29), (⟨"PutBackModel", "addThing", "(I)V"⟩, 29), (⟨"PutBackModel", "isThing", "(I)Z"⟩, 29), (⟨"PutBackModel", "lastOwner", "(I)I"⟩, 29), (⟨"PutBackModel", "addOwner", "(II)V"⟩, 29), (⟨"PutBackModel", "readText", "(Z)I"⟩, 29), (⟨"PutBackModel", "nextToken", "()V"⟩, 29), (⟨"PutBackModel", "byteAt", "(I)I"⟩, 29), (⟨"PutBackModel", "readItem", "(IZ)Z"⟩, 29), (⟨"PutBackModel", "isWord", "(J)Z"⟩, 29), (⟨"PutBackModel", "ends", "()Z"⟩, 29), (⟨"PutBackModel", "reads", "(II)Z"⟩, 29), (⟨"PutBackModel", "readOwners", "()Z"⟩, 29), (⟨"PutBackModel", "findFar", "(I)V"⟩, 29)]
theorem lw_r3 : ∀ q ∈ lw_privs_3, lw_okq q := List.forall_mem_cons.mpr ⟨lw_p32, List.forall_mem_cons.mpr ⟨lw_p33, List.forall_mem_cons.mpr ⟨lw_p34, List.forall_mem_cons.mpr ⟨lw_p35, List.forall_mem_cons.mpr ⟨lw_p36, List.forall_mem_cons.mpr ⟨lw_p37, List.forall_mem_cons.mpr ⟨lw_p38, List.forall_mem_cons.mpr ⟨lw_p39, List.forall_mem_cons.mpr ⟨lw_p40, List.forall_mem_cons.mpr ⟨lw_p41, List.forall_mem_cons.mpr ⟨lw_p42, List.forall_mem_cons.mpr ⟨lw_p43, List.forall_mem_cons.mpr ⟨lw_p44, List.forall_mem_cons.mpr ⟨lw_p45, List.forall_mem_cons.mpr ⟨lw_p46, List.forall_mem_cons.mpr ⟨lw_p47, fun _ h => absurd h List.not_mem_nil⟩⟩⟩⟩⟩⟩⟩⟩⟩⟩⟩⟩⟩⟩⟩⟩
theorem lw_p48 : lw_okq (⟨"PutBackModel", "wakesBy", "(III)I"⟩, 29) := ⟨⟨by decide +kernel, by decide +kernel⟩, List.mem_of_getElem? (i := 832) (by decide +kernel), List.mem_of_getElem? (i := 1066) (by decide +kernel), List.mem_of_getElem? (i := 1067) (by decide +kernel)⟩
theorem lw_p49 : lw_okq (⟨"PutBackModel", "wakesFrom", "(III)I"⟩, 29) := ⟨⟨by decide +kernel, by decide +kernel⟩, List.mem_of_getElem? (i := 832) (by decide +kernel), List.mem_of_getElem? (i := 1070) (by decide +kernel), List.mem_of_getElem? (i := 1071) (by decide +kernel)⟩
theorem lw_p50 : lw_okq (⟨"PutBackModel", "no", "()I"⟩, 29) := ⟨⟨by decide +kernel, by decide +kernel⟩, List.mem_of_getElem? (i := 832) (by decide +kernel), List.mem_of_getElem? (i := 1082) (by decide +kernel), List.mem_of_getElem? (i := 1083) (by decide +kernel)⟩
theorem lw_p51 : lw_okq (⟨"PutBackModel", "note", "()V"⟩, 29) := ⟨⟨by decide +kernel, by decide +kernel⟩, List.mem_of_getElem? (i := 832) (by decide +kernel), List.mem_of_getElem? (i := 1086) (by decide +kernel), List.mem_of_getElem? (i := 1087) (by decide +kernel)⟩
theorem lw_p52 : lw_okq (⟨"PutBackModel", "goes", "(II)I"⟩, 29) := ⟨⟨by decide +kernel, by decide +kernel⟩, List.mem_of_getElem? (i := 832) (by decide +kernel), List.mem_of_getElem? (i := 1090) (by decide +kernel), List.mem_of_getElem? (i := 1091) (by decide +kernel)⟩
theorem lw_p53 : lw_okq (⟨"PutBackModel", "passes", "(I)V"⟩, 29) := ⟨⟨by decide +kernel, by decide +kernel⟩, List.mem_of_getElem? (i := 832) (by decide +kernel), List.mem_of_getElem? (i := 1094) (by decide +kernel), List.mem_of_getElem? (i := 1095) (by decide +kernel)⟩
theorem lw_p54 : lw_okq (⟨"PutBackModel", "isSleeper", "(I)Z"⟩, 29) := ⟨⟨by decide +kernel, by decide +kernel⟩, List.mem_of_getElem? (i := 832) (by decide +kernel), List.mem_of_getElem? (i := 1110) (by decide +kernel), List.mem_of_getElem? (i := 1111) (by decide +kernel)⟩
theorem lw_p55 : lw_okq (⟨"PutBackModel", "findWays", "(II)V"⟩, 29) := ⟨⟨by decide +kernel, by decide +kernel⟩, List.mem_of_getElem? (i := 832) (by decide +kernel), List.mem_of_getElem? (i := 1126) (by decide +kernel), List.mem_of_getElem? (i := 1127) (by decide +kernel)⟩
theorem lw_p56 : lw_okq (⟨"PutBackModel", "findQuiet", "(I)V"⟩, 29) := ⟨⟨by decide +kernel, by decide +kernel⟩, List.mem_of_getElem? (i := 832) (by decide +kernel), List.mem_of_getElem? (i := 1130) (by decide +kernel), List.mem_of_getElem? (i := 1131) (by decide +kernel)⟩
theorem lw_p57 : lw_okq (⟨"PutBackModel", "isQuiet", "(III)Z"⟩, 29) := ⟨⟨by decide +kernel, by decide +kernel⟩, List.mem_of_getElem? (i := 832) (by decide +kernel), List.mem_of_getElem? (i := 1134) (by decide +kernel), List.mem_of_getElem? (i := 1135) (by decide +kernel)⟩
theorem lw_p58 : lw_okq (⟨"PutBackModel", "bothGo", "(II)V"⟩, 29) := ⟨⟨by decide +kernel, by decide +kernel⟩, List.mem_of_getElem? (i := 832) (by decide +kernel), List.mem_of_getElem? (i := 1146) (by decide +kernel), List.mem_of_getElem? (i := 1147) (by decide +kernel)⟩
theorem lw_p59 : lw_okq (⟨"PutBackModel", "findHeard", "()V"⟩, 29) := ⟨⟨by decide +kernel, by decide +kernel⟩, List.mem_of_getElem? (i := 832) (by decide +kernel), List.mem_of_getElem? (i := 1175) (by decide +kernel), List.mem_of_getElem? (i := 1176) (by decide +kernel)⟩
theorem lw_p60 : lw_okq (⟨"PutBackModel", "canBe", "(III)Z"⟩, 29) := ⟨⟨by decide +kernel, by decide +kernel⟩, List.mem_of_getElem? (i := 832) (by decide +kernel), List.mem_of_getElem? (i := 1179) (by decide +kernel), List.mem_of_getElem? (i := 1180) (by decide +kernel)⟩
theorem lw_p61 : lw_okq (⟨"PutBackModel", "heardBy", "(III)I"⟩, 29) := ⟨⟨by decide +kernel, by decide +kernel⟩, List.mem_of_getElem? (i := 832) (by decide +kernel), List.mem_of_getElem? (i := 1183) (by decide +kernel), List.mem_of_getElem? (i := 1184) (by decide +kernel)⟩
theorem lw_p62 : lw_okq (⟨"PutBackModel", "setFraction", "(JJ)V"⟩, 29) := ⟨⟨by decide +kernel, by decide +kernel⟩, List.mem_of_getElem? (i := 832) (by decide +kernel), List.mem_of_getElem? (i := 1207) (by decide +kernel), List.mem_of_getElem? (i := 1208) (by decide +kernel)⟩
theorem lw_p63 : lw_okq (⟨"PutBackModel", "countOf", "(I)I"⟩, 29) := ⟨⟨by decide +kernel, by decide +kernel⟩, List.mem_of_getElem? (i := 832) (by decide +kernel), List.mem_of_getElem? (i := 1242) (by decide +kernel), List.mem_of_getElem? (i := 1243) (by decide +kernel)⟩
def lw_privs_4 : List (MethodName × Nat) := [(⟨"PutBackModel", "wakesBy", "(III)I"⟩, 29), (⟨"PutBackModel", "wakesFrom", "(III)I"⟩, 29), (⟨"PutBackModel", "no", "()I"⟩, 29), (⟨"PutBackModel", "note", "()V"⟩, 29), (⟨"PutBackModel", "goes", "(II)I"⟩, 29), (⟨"PutBackModel", "passes", "(I)V"⟩, 29), (⟨"PutBackModel", "isSleeper", "(I)Z"⟩, 29), (⟨"PutBackModel", "findWays", "(II)V"⟩, 29), (⟨"PutBackModel", "findQuiet", "(I)V"⟩, 29), (⟨"PutBackModel", "isQuiet", "(III)Z"⟩, 29), (⟨"PutBackModel", "bothGo", "(II)V"⟩, 29), (⟨"PutBackModel", "findHeard", "()V"⟩, 29), (⟨"PutBackModel", "canBe", "(III)Z"⟩, 29), (⟨"PutBackModel", "heardBy", "(III)I"⟩, 29), (⟨"PutBackModel", "setFraction", "(JJ)V"⟩, 29), (⟨"PutBackModel", "countOf", "(I)I"⟩, 29)]
theorem lw_r4 : ∀ q ∈ lw_privs_4, lw_okq q := List.forall_mem_cons.mpr ⟨lw_p48, List.forall_mem_cons.mpr ⟨lw_p49, List.forall_mem_cons.mpr ⟨lw_p50, List.forall_mem_cons.mpr ⟨lw_p51, List.forall_mem_cons.mpr ⟨lw_p52, List.forall_mem_cons.mpr ⟨lw_p53, List.forall_mem_cons.mpr ⟨lw_p54, List.forall_mem_cons.mpr ⟨lw_p55, List.forall_mem_cons.mpr ⟨lw_p56, List.forall_mem_cons.mpr ⟨lw_p57, List.forall_mem_cons.mpr ⟨lw_p58, List.forall_mem_cons.mpr ⟨lw_p59, List.forall_mem_cons.mpr ⟨lw_p60, List.forall_mem_cons.mpr ⟨lw_p61, List.forall_mem_cons.mpr ⟨lw_p62, List.forall_mem_cons.mpr ⟨lw_p63, fun _ h => absurd h List.not_mem_nil⟩⟩⟩⟩⟩⟩⟩⟩⟩⟩⟩⟩⟩⟩⟩⟩
def lw_privs : List (MethodName × Nat) := lw_privs_1 ++ (lw_privs_2 ++ (lw_privs_3 ++ (lw_privs_4)))
def lw_tbl : List Cond := k2_sels lw_privs ++ tables_1
theorem lw_privs_ok : ∀ q ∈ lw_privs, lw_okq q := by
  show ∀ q ∈ lw_privs_1 ++ (lw_privs_2 ++ (lw_privs_3 ++ (lw_privs_4))), lw_okq q
  exact List.forall_mem_append.mpr ⟨lw_r1, List.forall_mem_append.mpr ⟨lw_r2, List.forall_mem_append.mpr ⟨lw_r3, lw_r4⟩⟩⟩
end
section
def RX0 : String := "PutBack$Dog"
def TX0 : u_T := fun k => match k with
  | _ => ("", "", "", false)
def tyX0 : Nat → FieldType := fun k => match k with
  | _ => .int
abbrev wsX00 : List Cond := u_ws RX0 TX0 0
theorem nmX0 : ∀ a, a < 0 → ∀ b, b < 0 → a ≠ b → (TX0 a).2.1 ≠ (TX0 b).2.1 := by decide +kernel
theorem tyX0_ok : ∀ k, k < 0 → parseFieldDescriptor (TX0 k).2.2.1 = some (tyX0 k) := by decide +kernel
abbrev cX0_init : ByteArray := prog_2_method_1_code
def yX0_init : MethodName := ⟨RX0, "<init>", "()V"⟩
abbrev cX0_wakingNoise : ByteArray := prog_2_method_2_code
def yX0_wakingNoise : MethodName := ⟨RX0, "wakingNoise", "(IIZ)I"⟩
def RX1 : String := "PutBack$Finder"
def TX1 : u_T := fun k => match k with
  | 0 => ("PutBack$Finder", "quiet", "[I", true)
  | 1 => ("PutBack$Finder", "pairs", "[I", true)
  | _ => ("PutBack$Finder", "nextPairs", "[I", true)
def tyX1 : Nat → FieldType := fun k => match k with
  | 0 => .array .int
  | 1 => .array .int
  | _ => .array .int
abbrev wsX10 : List Cond := u_ws RX1 TX1 3
theorem nmX1 : ∀ a, a < 3 → ∀ b, b < 3 → a ≠ b → (TX1 a).2.1 ≠ (TX1 b).2.1 := by decide +kernel
theorem tyX1_ok : ∀ k, k < 3 → parseFieldDescriptor (TX1 k).2.2.1 = some (tyX1 k) := by decide +kernel
abbrev cX1_init : ByteArray := prog_3_method_1_code
def yX1_init : MethodName := ⟨RX1, "<init>", "()V"⟩
abbrev cX1_lookAt : ByteArray := prog_3_method_2_code
def yX1_lookAt : MethodName := ⟨RX1, "lookAt", "(LPutBack$House;I)V"⟩
abbrev cX1_allowCreaks : ByteArray := prog_3_method_3_code
def yX1_allowCreaks : MethodName := ⟨RX1, "allowCreaks", "(LPutBack$House;I)V"⟩
abbrev cX1_stayOnly : ByteArray := prog_3_method_4_code
def yX1_stayOnly : MethodName := ⟨RX1, "stayOnly", "()V"⟩
abbrev cX1_allowInto : ByteArray := prog_3_method_5_code
def yX1_allowInto : MethodName := ⟨RX1, "allowInto", "(LPutBack$House;II)V"⟩
abbrev cX1_roomsAfter : ByteArray := prog_3_method_6_code
def yX1_roomsAfter : MethodName := ⟨RX1, "roomsAfter", "(I)I"⟩
abbrev cX1_roomsAhead : ByteArray := prog_3_method_7_code
def yX1_roomsAhead : MethodName := ⟨RX1, "roomsAhead", "(I)I"⟩
abbrev cX1_fewestMinutes : ByteArray := prog_3_method_8_code
def yX1_fewestMinutes : MethodName := ⟨RX1, "fewestMinutes", "(LPutBack$House;III)I"⟩
abbrev cX1_firstRoom : ByteArray := prog_3_method_9_code
def yX1_firstRoom : MethodName := ⟨RX1, "firstRoom", "(LPutBack$House;IIII)I"⟩
abbrev cX1_reachedByDawn : ByteArray := prog_3_method_10_code
def yX1_reachedByDawn : MethodName := ⟨RX1, "reachedByDawn", "(LPutBack$House;)I"⟩
abbrev cX1_leastWorstCreak : ByteArray := prog_3_method_11_code
def yX1_leastWorstCreak : MethodName := ⟨RX1, "leastWorstCreak", "(LPutBack$House;II)I"⟩
abbrev cX1_fewestMinutesOfTwo : ByteArray := prog_3_method_12_code
def yX1_fewestMinutesOfTwo : MethodName := ⟨RX1, "fewestMinutesOfTwo", "(LPutBack$House;II)I"⟩
abbrev cX1_goTogether : ByteArray := prog_3_method_13_code
def yX1_goTogether : MethodName := ⟨RX1, "goTogether", "()V"⟩
abbrev cX1_secondGoes : ByteArray := prog_3_method_14_code
def yX1_secondGoes : MethodName := ⟨RX1, "secondGoes", "(II)I"⟩
def RX2 : String := "PutBack$House"
def TX2 : u_T := fun k => match k with
  | 0 => ("PutBack$House", "kinds", "[LPutBack$Plain;", true)
  | 1 => ("PutBack$House", "creaks", "[I", true)
  | 2 => ("PutBack$House", "gaps", "[I", true)
  | 3 => ("PutBack$House", "kindOf", "[I", true)
  | 4 => ("PutBack$House", "roomOf", "[I", true)
  | 5 => ("PutBack$House", "earsOf", "[I", true)
  | 6 => ("PutBack$House", "homes", "[I", true)
  | 7 => ("PutBack$House", "ownerCounts", "[I", true)
  | 8 => ("PutBack$House", "owners", "[I", true)
  | 9 => ("PutBack$House", "sleepers", "I", false)
  | _ => ("PutBack$House", "things", "I", false)
def tyX2 : Nat → FieldType := fun k => match k with
  | 0 => .array (.object "PutBack$Plain")
  | 1 => .array .int
  | 2 => .array .int
  | 3 => .array .int
  | 4 => .array .int
  | 5 => .array .int
  | 6 => .array .int
  | 7 => .array .int
  | 8 => .array .int
  | 9 => .int
  | _ => .int
abbrev wsX20 : List Cond := u_ws RX2 TX2 11
theorem nmX2 : ∀ a, a < 11 → ∀ b, b < 11 → a ≠ b → (TX2 a).2.1 ≠ (TX2 b).2.1 := by decide +kernel
theorem tyX2_ok : ∀ k, k < 11 → parseFieldDescriptor (TX2 k).2.2.1 = some (tyX2 k) := by decide +kernel
abbrev cX2_init : ByteArray := prog_4_method_1_code
def yX2_init : MethodName := ⟨RX2, "<init>", "()V"⟩
abbrev cX2_empty : ByteArray := prog_4_method_2_code
def yX2_empty : MethodName := ⟨RX2, "empty", "()V"⟩
abbrev cX2_copyFrom : ByteArray := prog_4_method_3_code
def yX2_copyFrom : MethodName := ⟨RX2, "copyFrom", "(LPutBack$House;)V"⟩
abbrev cX2_addStair : ByteArray := prog_4_method_4_code
def yX2_addStair : MethodName := ⟨RX2, "addStair", "(III)I"⟩
abbrev cX2_addSleeper : ByteArray := prog_4_method_5_code
def yX2_addSleeper : MethodName := ⟨RX2, "addSleeper", "(III)I"⟩
abbrev cX2_addThing : ByteArray := prog_4_method_6_code
def yX2_addThing : MethodName := ⟨RX2, "addThing", "(I)I"⟩
abbrev cX2_addOwner : ByteArray := prog_4_method_7_code
def yX2_addOwner : MethodName := ⟨RX2, "addOwner", "(II)I"⟩
abbrev cX2_lastOwner : ByteArray := prog_4_method_8_code
def yX2_lastOwner : MethodName := ⟨RX2, "lastOwner", "(I)I"⟩
abbrev cX2_wasTakenFrom : ByteArray := prog_4_method_9_code
def yX2_wasTakenFrom : MethodName := ⟨RX2, "wasTakenFrom", "(II)Z"⟩
abbrev cX2_measure : ByteArray := prog_4_method_10_code
def yX2_measure : MethodName := ⟨RX2, "measure", "()V"⟩
abbrev cX2_leastNoise : ByteArray := prog_4_method_11_code
def yX2_leastNoise : MethodName := ⟨RX2, "leastNoise", "(III)I"⟩
abbrev cX2_wakers : ByteArray := prog_4_method_12_code
def yX2_wakers : MethodName := ⟨RX2, "wakers", "(III)I"⟩
abbrev cX2_loudest : ByteArray := prog_4_method_13_code
def yX2_loudest : MethodName := ⟨RX2, "loudest", "(II)I"⟩
abbrev cX2_foldStairs : ByteArray := prog_4_method_14_code
def yX2_foldStairs : MethodName := ⟨RX2, "foldStairs", "(J)J"⟩
abbrev cX2_foldThings : ByteArray := prog_4_method_15_code
def yX2_foldThings : MethodName := ⟨RX2, "foldThings", "(J)J"⟩
def RX3 : String := "PutBack$Light"
def TX3 : u_T := fun k => match k with
  | _ => ("", "", "", false)
def tyX3 : Nat → FieldType := fun k => match k with
  | _ => .int
abbrev wsX30 : List Cond := u_ws RX3 TX3 0
theorem nmX3 : ∀ a, a < 0 → ∀ b, b < 0 → a ≠ b → (TX3 a).2.1 ≠ (TX3 b).2.1 := by decide +kernel
theorem tyX3_ok : ∀ k, k < 0 → parseFieldDescriptor (TX3 k).2.2.1 = some (tyX3 k) := by decide +kernel
abbrev cX3_init : ByteArray := prog_5_method_1_code
def yX3_init : MethodName := ⟨RX3, "<init>", "()V"⟩
abbrev cX3_wakingNoise : ByteArray := prog_5_method_2_code
def yX3_wakingNoise : MethodName := ⟨RX3, "wakingNoise", "(IIZ)I"⟩
def RX4 : String := "PutBack$Night"
def TX4 : u_T := fun k => match k with
  | 0 => ("PutBack$Night", "dwelling", "LPutBack$House;", true)
  | 1 => ("PutBack$Night", "rooms", "[I", true)
  | 2 => ("PutBack$Night", "roaming", "[I", true)
  | 3 => ("PutBack$Night", "undoMinutes", "[I", true)
  | 4 => ("PutBack$Night", "undoAwake", "[I", true)
  | 5 => ("PutBack$Night", "undoRooms", "[I", true)
  | 6 => ("PutBack$Night", "heardSleepers", "[I", true)
  | 7 => ("PutBack$Night", "heardMinutes", "[I", true)
  | 8 => ("PutBack$Night", "heardSigns", "[I", true)
  | 9 => ("PutBack$Night", "minute", "I", false)
  | 10 => ("PutBack$Night", "awake", "I", false)
  | 11 => ("PutBack$Night", "undos", "I", false)
  | _ => ("PutBack$Night", "heards", "I", false)
def tyX4 : Nat → FieldType := fun k => match k with
  | 0 => .object "PutBack$House"
  | 1 => .array .int
  | 2 => .array .int
  | 3 => .array .int
  | 4 => .array .int
  | 5 => .array .int
  | 6 => .array .int
  | 7 => .array .int
  | 8 => .array .int
  | 9 => .int
  | 10 => .int
  | 11 => .int
  | _ => .int
abbrev wsX40 : List Cond := u_ws RX4 TX4 13
theorem nmX4 : ∀ a, a < 13 → ∀ b, b < 13 → a ≠ b → (TX4 a).2.1 ≠ (TX4 b).2.1 := by decide +kernel
theorem tyX4_ok : ∀ k, k < 13 → parseFieldDescriptor (TX4 k).2.2.1 = some (tyX4 k) := by decide +kernel
abbrev cX4_init : ByteArray := prog_6_method_1_code
def yX4_init : MethodName := ⟨RX4, "<init>", "()V"⟩
abbrev cX4_begin : ByteArray := prog_6_method_2_code
def yX4_begin : MethodName := ⟨RX4, "begin", "()V"⟩
abbrev cX4_copyFrom : ByteArray := prog_6_method_3_code
def yX4_copyFrom : MethodName := ⟨RX4, "copyFrom", "(LPutBack$Night;)V"⟩
abbrev cX4_go : ByteArray := prog_6_method_4_code
def yX4_go : MethodName := ⟨RX4, "go", "(III)I"⟩
abbrev cX4_remember : ByteArray := prog_6_method_5_code
def yX4_remember : MethodName := ⟨RX4, "remember", "()V"⟩
abbrev cX4_dropOldest : ByteArray := prog_6_method_6_code
def yX4_dropOldest : MethodName := ⟨RX4, "dropOldest", "()V"⟩
abbrev cX4_goBack : ByteArray := prog_6_method_7_code
def yX4_goBack : MethodName := ⟨RX4, "goBack", "()I"⟩
abbrev cX4_addHeard : ByteArray := prog_6_method_8_code
def yX4_addHeard : MethodName := ⟨RX4, "addHeard", "(III)I"⟩
abbrev cX4_toldOf : ByteArray := prog_6_method_9_code
def yX4_toldOf : MethodName := ⟨RX4, "toldOf", "(II)I"⟩
abbrev cX4_awakeAfter : ByteArray := prog_6_method_10_code
def yX4_awakeAfter : MethodName := ⟨RX4, "awakeAfter", "(II)I"⟩
abbrev cX4_foldSleepersAndPupils : ByteArray := prog_6_method_11_code
def yX4_foldSleepersAndPupils : MethodName := ⟨RX4, "foldSleepersAndPupils", "(J)J"⟩
abbrev cX4_foldHeard : ByteArray := prog_6_method_12_code
def yX4_foldHeard : MethodName := ⟨RX4, "foldHeard", "(J)J"⟩
def RX5 : String := "PutBack$Old"
def TX5 : u_T := fun k => match k with
  | _ => ("", "", "", false)
def tyX5 : Nat → FieldType := fun k => match k with
  | _ => .int
abbrev wsX50 : List Cond := u_ws RX5 TX5 0
theorem nmX5 : ∀ a, a < 0 → ∀ b, b < 0 → a ≠ b → (TX5 a).2.1 ≠ (TX5 b).2.1 := by decide +kernel
theorem tyX5_ok : ∀ k, k < 0 → parseFieldDescriptor (TX5 k).2.2.1 = some (tyX5 k) := by decide +kernel
abbrev cX5_init : ByteArray := prog_7_method_1_code
def yX5_init : MethodName := ⟨RX5, "<init>", "()V"⟩
abbrev cX5_wakingNoise : ByteArray := prog_7_method_2_code
def yX5_wakingNoise : MethodName := ⟨RX5, "wakingNoise", "(IIZ)I"⟩
def RX6 : String := "PutBack$Owl"
def TX6 : u_T := fun k => match k with
  | _ => ("", "", "", false)
def tyX6 : Nat → FieldType := fun k => match k with
  | _ => .int
abbrev wsX60 : List Cond := u_ws RX6 TX6 0
theorem nmX6 : ∀ a, a < 0 → ∀ b, b < 0 → a ≠ b → (TX6 a).2.1 ≠ (TX6 b).2.1 := by decide +kernel
theorem tyX6_ok : ∀ k, k < 0 → parseFieldDescriptor (TX6 k).2.2.1 = some (tyX6 k) := by decide +kernel
abbrev cX6_init : ByteArray := prog_8_method_1_code
def yX6_init : MethodName := ⟨RX6, "<init>", "()V"⟩
abbrev cX6_wakingNoise : ByteArray := prog_8_method_2_code
def yX6_wakingNoise : MethodName := ⟨RX6, "wakingNoise", "(IIZ)I"⟩
def RX7 : String := "PutBack$Plain"
def TX7 : u_T := fun k => match k with
  | _ => ("", "", "", false)
def tyX7 : Nat → FieldType := fun k => match k with
  | _ => .int
abbrev wsX70 : List Cond := u_ws RX7 TX7 0
theorem nmX7 : ∀ a, a < 0 → ∀ b, b < 0 → a ≠ b → (TX7 a).2.1 ≠ (TX7 b).2.1 := by decide +kernel
theorem tyX7_ok : ∀ k, k < 0 → parseFieldDescriptor (TX7 k).2.2.1 = some (tyX7 k) := by decide +kernel
abbrev cX7_init : ByteArray := prog_9_method_1_code
def yX7_init : MethodName := ⟨RX7, "<init>", "()V"⟩
abbrev cX7_wakingNoise : ByteArray := prog_9_method_2_code
def yX7_wakingNoise : MethodName := ⟨RX7, "wakingNoise", "(IIZ)I"⟩
def RX8 : String := "PutBack$Reader"
def TX8 : u_T := fun k => match k with
  | 0 => ("PutBack$Reader", "text", "[B", true)
  | 1 => ("PutBack$Reader", "length", "I", false)
  | 2 => ("PutBack$Reader", "start", "I", false)
  | 3 => ("PutBack$Reader", "end", "I", false)
  | _ => ("PutBack$Reader", "sort", "I", false)
def tyX8 : Nat → FieldType := fun k => match k with
  | 0 => .array .byte
  | 1 => .int
  | 2 => .int
  | 3 => .int
  | _ => .int
abbrev wsX80 : List Cond := u_ws RX8 TX8 5
theorem nmX8 : ∀ a, a < 5 → ∀ b, b < 5 → a ≠ b → (TX8 a).2.1 ≠ (TX8 b).2.1 := by decide +kernel
theorem tyX8_ok : ∀ k, k < 5 → parseFieldDescriptor (TX8 k).2.2.1 = some (tyX8 k) := by decide +kernel
abbrev cX8_init : ByteArray := prog_10_method_1_code
def yX8_init : MethodName := ⟨RX8, "<init>", "()V"⟩
abbrev cX8_append : ByteArray := prog_10_method_2_code
def yX8_append : MethodName := ⟨RX8, "append", "(I)I"⟩
abbrev cX8_readInto : ByteArray := prog_10_method_3_code
def yX8_readInto : MethodName := ⟨RX8, "readInto", "(LPutBack$House;)I"⟩
abbrev cX8_readItem : ByteArray := prog_10_method_4_code
def yX8_readItem : MethodName := ⟨RX8, "readItem", "(LPutBack$House;)Z"⟩
abbrev cX8_readStair : ByteArray := prog_10_method_5_code
def yX8_readStair : MethodName := ⟨RX8, "readStair", "(LPutBack$House;)Z"⟩
abbrev cX8_readSleeper : ByteArray := prog_10_method_6_code
def yX8_readSleeper : MethodName := ⟨RX8, "readSleeper", "(LPutBack$House;)Z"⟩
abbrev cX8_readThing : ByteArray := prog_10_method_7_code
def yX8_readThing : MethodName := ⟨RX8, "readThing", "(LPutBack$House;)Z"⟩
abbrev cX8_stopNext : ByteArray := prog_10_method_8_code
def yX8_stopNext : MethodName := ⟨RX8, "stopNext", "()Z"⟩
abbrev cX8_numberNext : ByteArray := prog_10_method_9_code
def yX8_numberNext : MethodName := ⟨RX8, "numberNext", "(I)I"⟩
abbrev cX8_isWord : ByteArray := prog_10_method_10_code
def yX8_isWord : MethodName := ⟨RX8, "isWord", "(Ljava/lang/String;)Z"⟩
abbrev cX8_advance : ByteArray := prog_10_method_11_code
def yX8_advance : MethodName := ⟨RX8, "advance", "()V"⟩
abbrev cX8_endOfRun : ByteArray := prog_10_method_12_code
def yX8_endOfRun : MethodName := ⟨RX8, "endOfRun", "(CC)I"⟩
def RX9 : String := "PutBack$Rows"
def TX9 : u_T := fun k => match k with
  | 0 => ("PutBack$Rows", "leads", "[I", true)
  | 1 => ("PutBack$Rows", "before", "[J", true)
  | _ => ("PutBack$Rows", "behind", "[J", true)
def tyX9 : Nat → FieldType := fun k => match k with
  | 0 => .array .int
  | 1 => .array .long
  | _ => .array .long
abbrev wsX90 : List Cond := u_ws RX9 TX9 3
theorem nmX9 : ∀ a, a < 3 → ∀ b, b < 3 → a ≠ b → (TX9 a).2.1 ≠ (TX9 b).2.1 := by decide +kernel
theorem tyX9_ok : ∀ k, k < 3 → parseFieldDescriptor (TX9 k).2.2.1 = some (tyX9 k) := by decide +kernel
abbrev cX9_init : ByteArray := prog_11_method_1_code
def yX9_init : MethodName := ⟨RX9, "<init>", "()V"⟩
abbrev cX9_tally : ByteArray := prog_11_method_2_code
def yX9_tally : MethodName := ⟨RX9, "tally", "(LPutBack$Night;)V"⟩
abbrev cX9_findLeads : ByteArray := prog_11_method_3_code
def yX9_findLeads : MethodName := ⟨RX9, "findLeads", "(LPutBack$Night;I)V"⟩
abbrev cX9_tallyBefore : ByteArray := prog_11_method_4_code
def yX9_tallyBefore : MethodName := ⟨RX9, "tallyBefore", "()V"⟩
abbrev cX9_tallyBehind : ByteArray := prog_11_method_5_code
def yX9_tallyBehind : MethodName := ⟨RX9, "tallyBehind", "()V"⟩
abbrev cX9_total : ByteArray := prog_11_method_6_code
def yX9_total : MethodName := ⟨RX9, "total", "()J"⟩
abbrev cX9_roomsIn : ByteArray := prog_11_method_7_code
def yX9_roomsIn : MethodName := ⟨RX9, "roomsIn", "(I)I"⟩
abbrev cX9_bestListener : ByteArray := prog_11_method_8_code
def yX9_bestListener : MethodName := ⟨RX9, "bestListener", "(LPutBack$House;I)I"⟩
abbrev cX9_rowsHeardBy : ByteArray := prog_11_method_9_code
def yX9_rowsHeardBy : MethodName := ⟨RX9, "rowsHeardBy", "(LPutBack$House;II)J"⟩
def RX10 : String := "PutBack$Snorer"
def TX10 : u_T := fun k => match k with
  | _ => ("", "", "", false)
def tyX10 : Nat → FieldType := fun k => match k with
  | _ => .int
abbrev wsX100 : List Cond := u_ws RX10 TX10 0
theorem nmX10 : ∀ a, a < 0 → ∀ b, b < 0 → a ≠ b → (TX10 a).2.1 ≠ (TX10 b).2.1 := by decide +kernel
theorem tyX10_ok : ∀ k, k < 0 → parseFieldDescriptor (TX10 k).2.2.1 = some (tyX10 k) := by decide +kernel
abbrev cX10_init : ByteArray := prog_12_method_1_code
def yX10_init : MethodName := ⟨RX10, "<init>", "()V"⟩
abbrev cX10_wakingNoise : ByteArray := prog_12_method_2_code
def yX10_wakingNoise : MethodName := ⟨RX10, "wakingNoise", "(IIZ)I"⟩
def RX11 : String := "PutBack"
def TX11 : u_T := fun k => match k with
  | 0 => ("PutBack", "night", "LPutBack$Night;", true)
  | 1 => ("PutBack", "images", "[LPutBack$Night;", true)
  | 2 => ("PutBack", "kept", "[Z", true)
  | 3 => ("PutBack", "reader", "LPutBack$Reader;", true)
  | 4 => ("PutBack", "draft", "LPutBack$House;", true)
  | 5 => ("PutBack", "finder", "LPutBack$Finder;", true)
  | 6 => ("PutBack", "rows", "LPutBack$Rows;", true)
  | 7 => ("PutBack", "chances", "[J", true)
  | 8 => ("PutBack", "above", "J", false)
  | 9 => ("PutBack", "below", "J", false)
  | 10 => ("PutBack", "bads", "I", false)
  | 11 => ("PutBack", "nos", "I", false)
  | _ => ("PutBack", "fulls", "I", false)
def tyX11 : Nat → FieldType := fun k => match k with
  | 0 => .object "PutBack$Night"
  | 1 => .array (.object "PutBack$Night")
  | 2 => .array .boolean
  | 3 => .object "PutBack$Reader"
  | 4 => .object "PutBack$House"
  | 5 => .object "PutBack$Finder"
  | 6 => .object "PutBack$Rows"
  | 7 => .array .long
  | 8 => .long
  | 9 => .long
  | 10 => .int
  | 11 => .int
  | _ => .int
abbrev wsX110 : List Cond := u_ws RX11 TX11 13
theorem nmX11 : ∀ a, a < 13 → ∀ b, b < 13 → a ≠ b → (TX11 a).2.1 ≠ (TX11 b).2.1 := by decide +kernel
theorem tyX11_ok : ∀ k, k < 13 → parseFieldDescriptor (TX11 k).2.2.1 = some (tyX11 k) := by decide +kernel
abbrev cX11_init : ByteArray := prog_1_method_1_code
def yX11_init : MethodName := ⟨RX11, "<init>", "()V"⟩
abbrev cX11_house : ByteArray := prog_1_method_2_code
def yX11_house : MethodName := ⟨RX11, "house", "()I"⟩
abbrev cX11_stair : ByteArray := prog_1_method_3_code
def yX11_stair : MethodName := ⟨RX11, "stair", "(III)I"⟩
abbrev cX11_sleeper : ByteArray := prog_1_method_4_code
def yX11_sleeper : MethodName := ⟨RX11, "sleeper", "(III)I"⟩
abbrev cX11_thing : ByteArray := prog_1_method_5_code
def yX11_thing : MethodName := ⟨RX11, "thing", "(I)I"⟩
abbrev cX11_owner : ByteArray := prog_1_method_6_code
def yX11_owner : MethodName := ⟨RX11, "owner", "(II)I"⟩
abbrev cX11_type : ByteArray := prog_1_method_7_code
def yX11_type : MethodName := ⟨RX11, "type", "(I)I"⟩
abbrev cX11_clear : ByteArray := prog_1_method_8_code
def yX11_clear : MethodName := ⟨RX11, "clear", "()I"⟩
abbrev cX11_read : ByteArray := prog_1_method_9_code
def yX11_read : MethodName := ⟨RX11, "read", "()I"⟩
abbrev cX11_step : ByteArray := prog_1_method_10_code
def yX11_step : MethodName := ⟨RX11, "step", "(II)I"⟩
abbrev cX11_waits : ByteArray := prog_1_method_11_code
def yX11_waits : MethodName := ⟨RX11, "waits", "(I)I"⟩
abbrev cX11_undo : ByteArray := prog_1_method_12_code
def yX11_undo : MethodName := ⟨RX11, "undo", "()I"⟩
abbrev cX11_of : ByteArray := prog_1_method_13_code
def yX11_of : MethodName := ⟨RX11, "of", "(II)I"⟩
abbrev cX11_where : ByteArray := prog_1_method_14_code
def yX11_where : MethodName := ⟨RX11, "where", "(I)I"⟩
abbrev cX11_far : ByteArray := prog_1_method_15_code
def yX11_far : MethodName := ⟨RX11, "far", "(II)I"⟩
abbrev cX11_wakes : ByteArray := prog_1_method_16_code
def yX11_wakes : MethodName := ⟨RX11, "wakes", "(III)I"⟩
abbrev cX11_loud : ByteArray := prog_1_method_17_code
def yX11_loud : MethodName := ⟨RX11, "loud", "(II)I"⟩
abbrev cX11_way : ByteArray := prog_1_method_18_code
def yX11_way : MethodName := ⟨RX11, "way", "(IIII)I"⟩
abbrev cX11_softest : ByteArray := prog_1_method_19_code
def yX11_softest : MethodName := ⟨RX11, "softest", "(II)I"⟩
abbrev cX11_schedule : ByteArray := prog_1_method_20_code
def yX11_schedule : MethodName := ⟨RX11, "schedule", "(II)I"⟩
abbrev cX11_owed : ByteArray := prog_1_method_21_code
def yX11_owed : MethodName := ⟨RX11, "owed", "(I)I"⟩
abbrev cX11_took : ByteArray := prog_1_method_22_code
def yX11_took : MethodName := ⟨RX11, "took", "(I)I"⟩
abbrev cX11_canNot : ByteArray := prog_1_method_23_code
def yX11_canNot : MethodName := ⟨RX11, "canNot", "()I"⟩
abbrev cX11_heard : ByteArray := prog_1_method_24_code
def yX11_heard : MethodName := ⟨RX11, "heard", "(III)I"⟩
abbrev cX11_forget : ByteArray := prog_1_method_25_code
def yX11_forget : MethodName := ⟨RX11, "forget", "()I"⟩
abbrev cX11_may : ByteArray := prog_1_method_26_code
def yX11_may : MethodName := ⟨RX11, "may", "(I)I"⟩
abbrev cX11_ways : ByteArray := prog_1_method_27_code
def yX11_ways : MethodName := ⟨RX11, "ways", "()J"⟩
abbrev cX11_listen : ByteArray := prog_1_method_28_code
def yX11_listen : MethodName := ⟨RX11, "listen", "(I)I"⟩
abbrev cX11_clocks : ByteArray := prog_1_method_29_code
def yX11_clocks : MethodName := ⟨RX11, "clocks", "(III)I"⟩
abbrev cX11_nights : ByteArray := prog_1_method_30_code
def yX11_nights : MethodName := ⟨RX11, "nights", "(II)I"⟩
abbrev cX11_part : ByteArray := prog_1_method_31_code
def yX11_part : MethodName := ⟨RX11, "part", "(I)J"⟩
abbrev cX11_image : ByteArray := prog_1_method_32_code
def yX11_image : MethodName := ⟨RX11, "image", "(I)I"⟩
abbrev cX11_from : ByteArray := prog_1_method_33_code
def yX11_from : MethodName := ⟨RX11, "from", "(I)I"⟩
abbrev cX11_status : ByteArray := prog_1_method_34_code
def yX11_status : MethodName := ⟨RX11, "status", "(I)I"⟩
abbrev cX11_count : ByteArray := prog_1_method_35_code
def yX11_count : MethodName := ⟨RX11, "count", "(I)I"⟩
abbrev cX11_digest : ByteArray := prog_1_method_36_code
def yX11_digest : MethodName := ⟨RX11, "digest", "()J"⟩
abbrev cX11_refuseBad : ByteArray := prog_1_method_37_code
def yX11_refuseBad : MethodName := ⟨RX11, "refuseBad", "(I)I"⟩
abbrev cX11_refuseNo : ByteArray := prog_1_method_38_code
def yX11_refuseNo : MethodName := ⟨RX11, "refuseNo", "()I"⟩
abbrev cX11_refuseFull : ByteArray := prog_1_method_39_code
def yX11_refuseFull : MethodName := ⟨RX11, "refuseFull", "()I"⟩
abbrev cX11_isSleeper : ByteArray := prog_1_method_40_code
def yX11_isSleeper : MethodName := ⟨RX11, "isSleeper", "(I)Z"⟩
abbrev cX11_isThing : ByteArray := prog_1_method_41_code
def yX11_isThing : MethodName := ⟨RX11, "isThing", "(I)Z"⟩
abbrev cX11_isRoom : ByteArray := prog_1_method_42_code
def yX11_isRoom : MethodName := ⟨RX11, "isRoom", "(I)Z"⟩
abbrev cX11_isPupil : ByteArray := prog_1_method_43_code
def yX11_isPupil : MethodName := ⟨RX11, "isPupil", "(I)Z"⟩
abbrev cX11_within : ByteArray := prog_1_method_44_code
def yX11_within : MethodName := ⟨RX11, "within", "(II)Z"⟩
abbrev cX11_bit : ByteArray := prog_1_method_45_code
def yX11_bit : MethodName := ⟨RX11, "bit", "(II)I"⟩
abbrev cX11_pair : ByteArray := prog_1_method_46_code
def yX11_pair : MethodName := ⟨RX11, "pair", "(II)I"⟩
abbrev cX11_weighClocks : ByteArray := prog_1_method_47_code
def yX11_weighClocks : MethodName := ⟨RX11, "weighClocks", "(II)V"⟩
abbrev cX11_keepFraction : ByteArray := prog_1_method_48_code
def yX11_keepFraction : MethodName := ⟨RX11, "keepFraction", "(JJ)V"⟩
abbrev cX11_commonDivisor : ByteArray := prog_1_method_49_code
def yX11_commonDivisor : MethodName := ⟨RX11, "commonDivisor", "(JJ)J"⟩
def RX12 : String := "PutBackModel"
def TX12 : u_T := fun k => match k with
  | 0 => ("PutBackModel", "st", "[I", true)
  | 1 => ("PutBackModel", "above", "J", false)
  | 2 => ("PutBackModel", "below", "J", false)
  | 3 => ("PutBackModel", "refused", "[I", true)
  | 4 => ("PutBackModel", "text", "[I", true)
  | 5 => ("PutBackModel", "bytes", "I", false)
  | 6 => ("PutBackModel", "place", "I", false)
  | 7 => ("PutBackModel", "token", "I", false)
  | 8 => ("PutBackModel", "value", "I", false)
  | 9 => ("PutBackModel", "begins", "I", false)
  | 10 => ("PutBackModel", "row", "[I", true)
  | 11 => ("PutBackModel", "owners", "I", false)
  | 12 => ("PutBackModel", "toldSleepers", "I", false)
  | 13 => ("PutBackModel", "toldThings", "I", false)
  | 14 => ("PutBackModel", "farOf", "[I", true)
  | 15 => ("PutBackModel", "ahead", "[I", true)
  | 16 => ("PutBackModel", "undoMany", "I", false)
  | 17 => ("PutBackModel", "quiet", "[Z", true)
  | 18 => ("PutBackModel", "left", "[I", true)
  | 19 => ("PutBackModel", "both", "[Z", true)
  | 20 => ("PutBackModel", "then", "[Z", true)
  | 21 => ("PutBackModel", "came", "[J", true)
  | 22 => ("PutBackModel", "on", "[J", true)
  | 23 => ("PutBackModel", "open", "[Z", true)
  | 24 => ("PutBackModel", "aside", "[I", true)
  | 25 => ("PutBackModel", "isKept", "[Z", true)
  | 26 => ("PutBackModel", "kept", "[I", true)
  | 27 => ("PutBackModel", "keptAhead", "[I", true)
  | _ => ("PutBackModel", "keptMany", "[I", true)
def tyX12 : Nat → FieldType := fun k => match k with
  | 0 => .array .int
  | 1 => .long
  | 2 => .long
  | 3 => .array .int
  | 4 => .array .int
  | 5 => .int
  | 6 => .int
  | 7 => .int
  | 8 => .int
  | 9 => .int
  | 10 => .array .int
  | 11 => .int
  | 12 => .int
  | 13 => .int
  | 14 => .array .int
  | 15 => .array .int
  | 16 => .int
  | 17 => .array .boolean
  | 18 => .array .int
  | 19 => .array .boolean
  | 20 => .array .boolean
  | 21 => .array .long
  | 22 => .array .long
  | 23 => .array .boolean
  | 24 => .array .int
  | 25 => .array .boolean
  | 26 => .array .int
  | 27 => .array .int
  | _ => .array .int
abbrev wsX120 : List Cond := u_ws RX12 TX12 29
theorem nmX12 : ∀ a, a < 29 → ∀ b, b < 29 → a ≠ b → (TX12 a).2.1 ≠ (TX12 b).2.1 := by decide +kernel
theorem tyX12_ok : ∀ k, k < 29 → parseFieldDescriptor (TX12 k).2.2.1 = some (tyX12 k) := by decide +kernel
abbrev cX12_init : ByteArray := prog_14_method_1_code
def yX12_init : MethodName := ⟨RX12, "<init>", "()V"⟩
abbrev cX12_in : ByteArray := prog_14_method_2_code
def yX12_in : MethodName := ⟨RX12, "in", "(JJJ)Z"⟩
abbrev cX12_has : ByteArray := prog_14_method_3_code
def yX12_has : MethodName := ⟨RX12, "has", "(II)Z"⟩
abbrev cX12_ones : ByteArray := prog_14_method_4_code
def yX12_ones : MethodName := ⟨RX12, "ones", "(I)I"⟩
abbrev cX12_bad : ByteArray := prog_14_method_5_code
def yX12_bad : MethodName := ⟨RX12, "bad", "()I"⟩
abbrev cX12_no : ByteArray := prog_14_method_6_code
def yX12_no : MethodName := ⟨RX12, "no", "()I"⟩
abbrev cX12_full : ByteArray := prog_14_method_7_code
def yX12_full : MethodName := ⟨RX12, "full", "()I"⟩
abbrev cX12_isRoom : ByteArray := prog_14_method_8_code
def yX12_isRoom : MethodName := ⟨RX12, "isRoom", "(I)Z"⟩
abbrev cX12_isMinute : ByteArray := prog_14_method_9_code
def yX12_isMinute : MethodName := ⟨RX12, "isMinute", "(I)Z"⟩
abbrev cX12_isWhat : ByteArray := prog_14_method_10_code
def yX12_isWhat : MethodName := ⟨RX12, "isWhat", "(I)Z"⟩
abbrev cX12_isSleeper : ByteArray := prog_14_method_11_code
def yX12_isSleeper : MethodName := ⟨RX12, "isSleeper", "(I)Z"⟩
abbrev cX12_anew : ByteArray := prog_14_method_12_code
def yX12_anew : MethodName := ⟨RX12, "anew", "()V"⟩
abbrev cX12_house : ByteArray := prog_14_method_13_code
def yX12_house : MethodName := ⟨RX12, "house", "()I"⟩
abbrev cX12_pairOf : ByteArray := prog_14_method_14_code
def yX12_pairOf : MethodName := ⟨RX12, "pairOf", "(II)I"⟩
abbrev cX12_creakOf : ByteArray := prog_14_method_15_code
def yX12_creakOf : MethodName := ⟨RX12, "creakOf", "(II)I"⟩
abbrev cX12_stair : ByteArray := prog_14_method_16_code
def yX12_stair : MethodName := ⟨RX12, "stair", "(III)I"⟩
abbrev cX12_addSleeper : ByteArray := prog_14_method_17_code
def yX12_addSleeper : MethodName := ⟨RX12, "addSleeper", "(III)V"⟩
abbrev cX12_sleeper : ByteArray := prog_14_method_18_code
def yX12_sleeper : MethodName := ⟨RX12, "sleeper", "(III)I"⟩
abbrev cX12_addThing : ByteArray := prog_14_method_19_code
def yX12_addThing : MethodName := ⟨RX12, "addThing", "(I)V"⟩
abbrev cX12_thing : ByteArray := prog_14_method_20_code
def yX12_thing : MethodName := ⟨RX12, "thing", "(I)I"⟩
abbrev cX12_isThing : ByteArray := prog_14_method_21_code
def yX12_isThing : MethodName := ⟨RX12, "isThing", "(I)Z"⟩
abbrev cX12_lastOwner : ByteArray := prog_14_method_22_code
def yX12_lastOwner : MethodName := ⟨RX12, "lastOwner", "(I)I"⟩
abbrev cX12_addOwner : ByteArray := prog_14_method_23_code
def yX12_addOwner : MethodName := ⟨RX12, "addOwner", "(II)V"⟩
abbrev cX12_owner : ByteArray := prog_14_method_24_code
def yX12_owner : MethodName := ⟨RX12, "owner", "(II)I"⟩
abbrev cX12_type : ByteArray := prog_14_method_25_code
def yX12_type : MethodName := ⟨RX12, "type", "(I)I"⟩
abbrev cX12_clear : ByteArray := prog_14_method_26_code
def yX12_clear : MethodName := ⟨RX12, "clear", "()I"⟩
abbrev cX12_byteAt : ByteArray := prog_14_method_27_code
def yX12_byteAt : MethodName := ⟨RX12, "byteAt", "(I)I"⟩
abbrev cX12_nextToken : ByteArray := prog_14_method_28_code
def yX12_nextToken : MethodName := ⟨RX12, "nextToken", "()V"⟩
abbrev cX12_isWord : ByteArray := prog_14_method_29_code
def yX12_isWord : MethodName := ⟨RX12, "isWord", "(J)Z"⟩
abbrev cX12_spelt : ByteArray := prog_14_method_30_code
def yX12_spelt : MethodName := ⟨RX12, "spelt", "(IIIIIII)J"⟩
abbrev cX12_reads : ByteArray := prog_14_method_31_code
def yX12_reads : MethodName := ⟨RX12, "reads", "(II)Z"⟩
abbrev cX12_ends : ByteArray := prog_14_method_32_code
def yX12_ends : MethodName := ⟨RX12, "ends", "()Z"⟩
abbrev cX12_readOwners : ByteArray := prog_14_method_33_code
def yX12_readOwners : MethodName := ⟨RX12, "readOwners", "()Z"⟩
abbrev cX12_readItem : ByteArray := prog_14_method_34_code
def yX12_readItem : MethodName := ⟨RX12, "readItem", "(IZ)Z"⟩
abbrev cX12_readText : ByteArray := prog_14_method_35_code
def yX12_readText : MethodName := ⟨RX12, "readText", "(Z)I"⟩
abbrev cX12_read : ByteArray := prog_14_method_36_code
def yX12_read : MethodName := ⟨RX12, "read", "()I"⟩
abbrev cX12_findFar : ByteArray := prog_14_method_37_code
def yX12_findFar : MethodName := ⟨RX12, "findFar", "(I)V"⟩
abbrev cX12_far : ByteArray := prog_14_method_38_code
def yX12_far : MethodName := ⟨RX12, "far", "(II)I"⟩
abbrev cX12_wakesFrom : ByteArray := prog_14_method_39_code
def yX12_wakesFrom : MethodName := ⟨RX12, "wakesFrom", "(III)I"⟩
abbrev cX12_wakesBy : ByteArray := prog_14_method_40_code
def yX12_wakesBy : MethodName := ⟨RX12, "wakesBy", "(III)I"⟩
abbrev cX12_wakes : ByteArray := prog_14_method_41_code
def yX12_wakes : MethodName := ⟨RX12, "wakes", "(III)I"⟩
abbrev cX12_loud : ByteArray := prog_14_method_42_code
def yX12_loud : MethodName := ⟨RX12, "loud", "(II)I"⟩
abbrev cX12_note : ByteArray := prog_14_method_43_code
def yX12_note : MethodName := ⟨RX12, "note", "()V"⟩
abbrev cX12_passes : ByteArray := prog_14_method_44_code
def yX12_passes : MethodName := ⟨RX12, "passes", "(I)V"⟩
abbrev cX12_goes : ByteArray := prog_14_method_45_code
def yX12_goes : MethodName := ⟨RX12, "goes", "(II)I"⟩
abbrev cX12_step : ByteArray := prog_14_method_46_code
def yX12_step : MethodName := ⟨RX12, "step", "(II)I"⟩
abbrev cX12_waits : ByteArray := prog_14_method_47_code
def yX12_waits : MethodName := ⟨RX12, "waits", "(I)I"⟩
abbrev cX12_undo : ByteArray := prog_14_method_48_code
def yX12_undo : MethodName := ⟨RX12, "undo", "()I"⟩
abbrev cX12_of : ByteArray := prog_14_method_49_code
def yX12_of : MethodName := ⟨RX12, "of", "(II)I"⟩
abbrev cX12_where : ByteArray := prog_14_method_50_code
def yX12_where : MethodName := ⟨RX12, "where", "(I)I"⟩
abbrev cX12_isQuiet : ByteArray := prog_14_method_51_code
def yX12_isQuiet : MethodName := ⟨RX12, "isQuiet", "(III)Z"⟩
abbrev cX12_findQuiet : ByteArray := prog_14_method_52_code
def yX12_findQuiet : MethodName := ⟨RX12, "findQuiet", "(I)V"⟩
abbrev cX12_findWays : ByteArray := prog_14_method_53_code
def yX12_findWays : MethodName := ⟨RX12, "findWays", "(II)V"⟩
abbrev cX12_way : ByteArray := prog_14_method_54_code
def yX12_way : MethodName := ⟨RX12, "way", "(IIII)I"⟩
abbrev cX12_softest : ByteArray := prog_14_method_55_code
def yX12_softest : MethodName := ⟨RX12, "softest", "(II)I"⟩
abbrev cX12_bothGo : ByteArray := prog_14_method_56_code
def yX12_bothGo : MethodName := ⟨RX12, "bothGo", "(II)V"⟩
abbrev cX12_schedule : ByteArray := prog_14_method_57_code
def yX12_schedule : MethodName := ⟨RX12, "schedule", "(II)I"⟩
abbrev cX12_owed : ByteArray := prog_14_method_58_code
def yX12_owed : MethodName := ⟨RX12, "owed", "(I)I"⟩
abbrev cX12_took : ByteArray := prog_14_method_59_code
def yX12_took : MethodName := ⟨RX12, "took", "(I)I"⟩
abbrev cX12_canNot : ByteArray := prog_14_method_60_code
def yX12_canNot : MethodName := ⟨RX12, "canNot", "()I"⟩
abbrev cX12_heard : ByteArray := prog_14_method_61_code
def yX12_heard : MethodName := ⟨RX12, "heard", "(III)I"⟩
abbrev cX12_forget : ByteArray := prog_14_method_62_code
def yX12_forget : MethodName := ⟨RX12, "forget", "()I"⟩
abbrev cX12_heardBy : ByteArray := prog_14_method_63_code
def yX12_heardBy : MethodName := ⟨RX12, "heardBy", "(III)I"⟩
abbrev cX12_canBe : ByteArray := prog_14_method_64_code
def yX12_canBe : MethodName := ⟨RX12, "canBe", "(III)Z"⟩
abbrev cX12_findHeard : ByteArray := prog_14_method_65_code
def yX12_findHeard : MethodName := ⟨RX12, "findHeard", "()V"⟩
abbrev cX12_may : ByteArray := prog_14_method_66_code
def yX12_may : MethodName := ⟨RX12, "may", "(I)I"⟩
abbrev cX12_ways : ByteArray := prog_14_method_67_code
def yX12_ways : MethodName := ⟨RX12, "ways", "()J"⟩
abbrev cX12_listen : ByteArray := prog_14_method_68_code
def yX12_listen : MethodName := ⟨RX12, "listen", "(I)I"⟩
abbrev cX12_setFraction : ByteArray := prog_14_method_69_code
def yX12_setFraction : MethodName := ⟨RX12, "setFraction", "(JJ)V"⟩
abbrev cX12_clocks : ByteArray := prog_14_method_70_code
def yX12_clocks : MethodName := ⟨RX12, "clocks", "(III)I"⟩
abbrev cX12_nights : ByteArray := prog_14_method_71_code
def yX12_nights : MethodName := ⟨RX12, "nights", "(II)I"⟩
abbrev cX12_part : ByteArray := prog_14_method_72_code
def yX12_part : MethodName := ⟨RX12, "part", "(I)J"⟩
abbrev cX12_image : ByteArray := prog_14_method_73_code
def yX12_image : MethodName := ⟨RX12, "image", "(I)I"⟩
abbrev cX12_from : ByteArray := prog_14_method_74_code
def yX12_from : MethodName := ⟨RX12, "from", "(I)I"⟩
abbrev cX12_status : ByteArray := prog_14_method_75_code
def yX12_status : MethodName := ⟨RX12, "status", "(I)I"⟩
abbrev cX12_countOf : ByteArray := prog_14_method_76_code
def yX12_countOf : MethodName := ⟨RX12, "countOf", "(I)I"⟩
abbrev cX12_count : ByteArray := prog_14_method_77_code
def yX12_count : MethodName := ⟨RX12, "count", "(I)I"⟩
abbrev cX12_digest : ByteArray := prog_14_method_78_code
def yX12_digest : MethodName := ⟨RX12, "digest", "()J"⟩
def RJ6 : String := "java/lang/Integer"
abbrev cJ6_bitCount_0f7a4 : ByteArray := prog_15_method_49_code
def yJ6_bitCount_0f7a4 : MethodName := ⟨RJ6, "bitCount", "(I)I"⟩
def RJ9 : String := "java/lang/Math"
abbrev cJ9_max_f86c9 : ByteArray := prog_16_method_66_code
def yJ9_max_f86c9 : MethodName := ⟨RJ9, "max", "(JJ)J"⟩
abbrev cJ9_min_7cf53 : ByteArray := prog_16_method_69_code
def yJ9_min_7cf53 : MethodName := ⟨RJ9, "min", "(II)I"⟩
def RJ0 : String := "java/lang/String"
abbrev cJ0_length_8abf5 : ByteArray := prog_17_method_54_code
def yJ0_length_8abf5 : MethodName := ⟨RJ0, "length", "()I"⟩
abbrev cJ0_charAt_5068e : ByteArray := prog_17_method_56_code
def yJ0_charAt_5068e : MethodName := ⟨RJ0, "charAt", "(I)C"⟩
abbrev cJ0_coder_7d493 : ByteArray := prog_17_method_152_code
def yJ0_coder_7d493 : MethodName := ⟨RJ0, "coder", "()B"⟩
abbrev cJ0_isLatin1_aae02 : ByteArray := prog_17_method_154_code
def yJ0_isLatin1_aae02 : MethodName := ⟨RJ0, "isLatin1", "()Z"⟩
abbrev cJ0_checkIndex_df160 : ByteArray := prog_17_method_155_code
def yJ0_checkIndex_df160 : MethodName := ⟨RJ0, "checkIndex", "(II)V"⟩
def RJ1 : String := "java/lang/StringLatin1"
abbrev cJ1_charAt_3b067 : ByteArray := prog_18_method_2_code
def yJ1_charAt_3b067 : MethodName := ⟨RJ1, "charAt", "([BI)C"⟩
def RJ2 : String := "java/lang/StringUTF16"
abbrev cJ2_getChar_3b067 : ByteArray := prog_19_method_5_code
def yJ2_getChar_3b067 : MethodName := ⟨RJ2, "getChar", "([BI)C"⟩
abbrev cJ2_length_9d52b : ByteArray := prog_19_method_6_code
def yJ2_length_9d52b : MethodName := ⟨RJ2, "length", "([B)I"⟩
abbrev cJ2_charAt_3b067 : ByteArray := prog_19_method_83_code
def yJ2_charAt_3b067 : MethodName := ⟨RJ2, "charAt", "([BI)C"⟩
abbrev cJ2_checkIndex_2214a : ByteArray := prog_19_method_91_code
def yJ2_checkIndex_2214a : MethodName := ⟨RJ2, "checkIndex", "(I[B)V"⟩
def RJ10 : String := "java/lang/System"
def RJ3 : String := "jdk/internal/util/Preconditions"
abbrev cJ3_checkIndex_8e157 : ByteArray := prog_21_method_11_code
def yJ3_checkIndex_8e157 : MethodName := ⟨RJ3, "checkIndex", "(IILjava/util/function/BiFunction;)I"⟩
def RL : String := "PutBackLaw"
abbrev cL_law : ByteArray := code
def yL_law : MethodName := ⟨RL, "law", "([I)Z"⟩
abbrev vwCl : List vw_C := [(RX0, TX0, 0), (RX1, TX1, 3), (RX2, TX2, 11), (RX3, TX3, 0), (RX4, TX4, 13), (RX5, TX5, 0), (RX6, TX6, 0), (RX7, TX7, 0), (RX8, TX8, 5), (RX9, TX9, 3), (RX10, TX10, 0), (RX11, TX11, 13), (RX12, TX12, 29)]
end
section
theorem dX0_init_0 : decode cX0_init 0 = .ok (.aload_n 0, 1) := by decide +kernel
theorem dX0_init_1 : decode cX0_init 1 = .ok (.invokespecial 1, 3) := by decide +kernel
theorem dX0_init_4 : decode cX0_init 4 = .ok (.return_, 1) := by decide +kernel
theorem dX0_wakingNoise_0 : decode cX0_wakingNoise 0 = .ok (.iload_n 3, 1) := by decide +kernel
theorem dX0_wakingNoise_1 : decode cX0_wakingNoise 1 = .ok (.ifCond .eq 7, 3) := by decide +kernel
theorem dX0_wakingNoise_4 : decode cX0_wakingNoise 4 = .ok (.iconst 1, 1) := by decide +kernel
theorem dX0_wakingNoise_5 : decode cX0_wakingNoise 5 = .ok (.goto 10, 3) := by decide +kernel
theorem dX0_wakingNoise_8 : decode cX0_wakingNoise 8 = .ok (.aload_n 0, 1) := by decide +kernel
theorem dX0_wakingNoise_9 : decode cX0_wakingNoise 9 = .ok (.iload_n 1, 1) := by decide +kernel
theorem dX0_wakingNoise_10 : decode cX0_wakingNoise 10 = .ok (.iload_n 2, 1) := by decide +kernel
theorem dX0_wakingNoise_11 : decode cX0_wakingNoise 11 = .ok (.iload_n 3, 1) := by decide +kernel
theorem dX0_wakingNoise_12 : decode cX0_wakingNoise 12 = .ok (.invokespecial 7, 3) := by decide +kernel
theorem dX0_wakingNoise_15 : decode cX0_wakingNoise 15 = .ok (.ireturn, 1) := by decide +kernel
theorem dX1_init_0 : decode cX1_init 0 = .ok (.aload_n 0, 1) := by decide +kernel
theorem dX1_init_1 : decode cX1_init 1 = .ok (.invokespecial 3, 3) := by decide +kernel
theorem dX1_init_4 : decode cX1_init 4 = .ok (.aload_n 0, 1) := by decide +kernel
theorem dX1_init_5 : decode cX1_init 5 = .ok (.bipush 8, 2) := by decide +kernel
theorem dX1_init_7 : decode cX1_init 7 = .ok (.newarray .int, 2) := by decide +kernel
theorem dX1_init_9 : decode cX1_init 9 = .ok (.putfield 9, 3) := by decide +kernel
theorem dX1_init_12 : decode cX1_init 12 = .ok (.aload_n 0, 1) := by decide +kernel
theorem dX1_init_13 : decode cX1_init 13 = .ok (.bipush 8, 2) := by decide +kernel
theorem dX1_init_15 : decode cX1_init 15 = .ok (.newarray .int, 2) := by decide +kernel
theorem dX1_init_17 : decode cX1_init 17 = .ok (.putfield 15, 3) := by decide +kernel
theorem dX1_init_20 : decode cX1_init 20 = .ok (.aload_n 0, 1) := by decide +kernel
theorem dX1_init_21 : decode cX1_init 21 = .ok (.bipush 8, 2) := by decide +kernel
theorem dX1_init_23 : decode cX1_init 23 = .ok (.newarray .int, 2) := by decide +kernel
theorem dX1_init_25 : decode cX1_init 25 = .ok (.putfield 18, 3) := by decide +kernel
theorem dX1_init_28 : decode cX1_init 28 = .ok (.return_, 1) := by decide +kernel
theorem dX1_lookAt_0 : decode cX1_lookAt 0 = .ok (.aload_n 0, 1) := by decide +kernel
theorem dX1_lookAt_1 : decode cX1_lookAt 1 = .ok (.invokevirtual 21, 3) := by decide +kernel
theorem dX1_lookAt_4 : decode cX1_lookAt 4 = .ok (.iconst 0, 1) := by decide +kernel
theorem dX1_lookAt_5 : decode cX1_lookAt 5 = .ok (.istore_n 3, 1) := by decide +kernel
theorem dX1_lookAt_6 : decode cX1_lookAt 6 = .ok (.iload_n 3, 1) := by decide +kernel
theorem dX1_lookAt_7 : decode cX1_lookAt 7 = .ok (.bipush 8, 2) := by decide +kernel
theorem dX1_lookAt_9 : decode cX1_lookAt 9 = .ok (.if_icmp .ge 21, 3) := by decide +kernel
theorem dX1_lookAt_12 : decode cX1_lookAt 12 = .ok (.aload_n 0, 1) := by decide +kernel
theorem dX1_lookAt_13 : decode cX1_lookAt 13 = .ok (.aload_n 1, 1) := by decide +kernel
theorem dX1_lookAt_14 : decode cX1_lookAt 14 = .ok (.iload_n 3, 1) := by decide +kernel
theorem dX1_lookAt_15 : decode cX1_lookAt 15 = .ok (.aload_n 1, 1) := by decide +kernel
theorem dX1_lookAt_16 : decode cX1_lookAt 16 = .ok (.iload_n 3, 1) := by decide +kernel
theorem dX1_lookAt_17 : decode cX1_lookAt 17 = .ok (.iload_n 2, 1) := by decide +kernel
theorem dX1_lookAt_18 : decode cX1_lookAt 18 = .ok (.invokevirtual 24, 3) := by decide +kernel
theorem dX1_lookAt_21 : decode cX1_lookAt 21 = .ok (.invokevirtual 30, 3) := by decide +kernel
theorem dX1_lookAt_24 : decode cX1_lookAt 24 = .ok (.iinc 3 1, 3) := by decide +kernel
theorem dX1_lookAt_27 : decode cX1_lookAt 27 = .ok (.goto (-21), 3) := by decide +kernel
theorem dX1_lookAt_30 : decode cX1_lookAt 30 = .ok (.return_, 1) := by decide +kernel
theorem dX1_allowCreaks_0 : decode cX1_allowCreaks 0 = .ok (.aload_n 0, 1) := by decide +kernel
theorem dX1_allowCreaks_1 : decode cX1_allowCreaks 1 = .ok (.invokevirtual 21, 3) := by decide +kernel
theorem dX1_allowCreaks_4 : decode cX1_allowCreaks 4 = .ok (.iconst 0, 1) := by decide +kernel
theorem dX1_allowCreaks_5 : decode cX1_allowCreaks 5 = .ok (.istore_n 3, 1) := by decide +kernel
theorem dX1_allowCreaks_6 : decode cX1_allowCreaks 6 = .ok (.iload_n 3, 1) := by decide +kernel
theorem dX1_allowCreaks_7 : decode cX1_allowCreaks 7 = .ok (.bipush 8, 2) := by decide +kernel
theorem dX1_allowCreaks_9 : decode cX1_allowCreaks 9 = .ok (.if_icmp .ge 16, 3) := by decide +kernel
theorem dX1_allowCreaks_12 : decode cX1_allowCreaks 12 = .ok (.aload_n 0, 1) := by decide +kernel
theorem dX1_allowCreaks_13 : decode cX1_allowCreaks 13 = .ok (.aload_n 1, 1) := by decide +kernel
theorem dX1_allowCreaks_14 : decode cX1_allowCreaks 14 = .ok (.iload_n 3, 1) := by decide +kernel
theorem dX1_allowCreaks_15 : decode cX1_allowCreaks 15 = .ok (.iload_n 2, 1) := by decide +kernel
theorem dX1_allowCreaks_16 : decode cX1_allowCreaks 16 = .ok (.invokevirtual 30, 3) := by decide +kernel
theorem dX1_allowCreaks_19 : decode cX1_allowCreaks 19 = .ok (.iinc 3 1, 3) := by decide +kernel
theorem dX1_allowCreaks_22 : decode cX1_allowCreaks 22 = .ok (.goto (-16), 3) := by decide +kernel
theorem dX1_allowCreaks_25 : decode cX1_allowCreaks 25 = .ok (.return_, 1) := by decide +kernel
theorem dX1_stayOnly_0 : decode cX1_stayOnly 0 = .ok (.iconst 0, 1) := by decide +kernel
theorem dX1_stayOnly_1 : decode cX1_stayOnly 1 = .ok (.istore_n 1, 1) := by decide +kernel
theorem dX1_stayOnly_2 : decode cX1_stayOnly 2 = .ok (.iload_n 1, 1) := by decide +kernel
theorem dX1_stayOnly_3 : decode cX1_stayOnly 3 = .ok (.bipush 8, 2) := by decide +kernel
theorem dX1_stayOnly_5 : decode cX1_stayOnly 5 = .ok (.if_icmp .ge 18, 3) := by decide +kernel
theorem dX1_stayOnly_8 : decode cX1_stayOnly 8 = .ok (.aload_n 0, 1) := by decide +kernel
theorem dX1_stayOnly_9 : decode cX1_stayOnly 9 = .ok (.getfield 9, 3) := by decide +kernel
theorem dX1_stayOnly_12 : decode cX1_stayOnly 12 = .ok (.iload_n 1, 1) := by decide +kernel
theorem dX1_stayOnly_13 : decode cX1_stayOnly 13 = .ok (.iconst 1, 1) := by decide +kernel
theorem dX1_stayOnly_14 : decode cX1_stayOnly 14 = .ok (.iload_n 1, 1) := by decide +kernel
theorem dX1_stayOnly_15 : decode cX1_stayOnly 15 = .ok (.ishl, 1) := by decide +kernel
theorem dX1_stayOnly_16 : decode cX1_stayOnly 16 = .ok (.iastore, 1) := by decide +kernel
theorem dX1_stayOnly_17 : decode cX1_stayOnly 17 = .ok (.iinc 1 1, 3) := by decide +kernel
theorem dX1_stayOnly_20 : decode cX1_stayOnly 20 = .ok (.goto (-18), 3) := by decide +kernel
theorem dX1_stayOnly_23 : decode cX1_stayOnly 23 = .ok (.return_, 1) := by decide +kernel
theorem dX1_allowInto_0 : decode cX1_allowInto 0 = .ok (.iconst 0, 1) := by decide +kernel
theorem dX1_allowInto_1 : decode cX1_allowInto 1 = .ok (.istore 4, 2) := by decide +kernel
theorem dX1_allowInto_3 : decode cX1_allowInto 3 = .ok (.iload 4, 2) := by decide +kernel
theorem dX1_allowInto_5 : decode cX1_allowInto 5 = .ok (.bipush 8, 2) := by decide +kernel
theorem dX1_allowInto_7 : decode cX1_allowInto 7 = .ok (.if_icmp .ge 46, 3) := by decide +kernel
theorem dX1_allowInto_10 : decode cX1_allowInto 10 = .ok (.aload_n 1, 1) := by decide +kernel
theorem dX1_allowInto_11 : decode cX1_allowInto 11 = .ok (.getfield 34, 3) := by decide +kernel
theorem dX1_allowInto_14 : decode cX1_allowInto 14 = .ok (.iload 4, 2) := by decide +kernel
theorem dX1_allowInto_16 : decode cX1_allowInto 16 = .ok (.iload_n 2, 1) := by decide +kernel
theorem dX1_allowInto_17 : decode cX1_allowInto 17 = .ok (.invokestatic 37, 3) := by decide +kernel
theorem dX1_allowInto_20 : decode cX1_allowInto 20 = .ok (.iaload, 1) := by decide +kernel
theorem dX1_allowInto_21 : decode cX1_allowInto 21 = .ok (.istore 5, 2) := by decide +kernel
theorem dX1_allowInto_23 : decode cX1_allowInto 23 = .ok (.iload 5, 2) := by decide +kernel
theorem dX1_allowInto_25 : decode cX1_allowInto 25 = .ok (.ifCond .lt 22, 3) := by decide +kernel
theorem dX1_allowInto_28 : decode cX1_allowInto 28 = .ok (.iload 5, 2) := by decide +kernel
theorem dX1_allowInto_30 : decode cX1_allowInto 30 = .ok (.iload_n 3, 1) := by decide +kernel
theorem dX1_allowInto_31 : decode cX1_allowInto 31 = .ok (.if_icmp .gt 16, 3) := by decide +kernel
theorem dX1_allowInto_34 : decode cX1_allowInto 34 = .ok (.aload_n 0, 1) := by decide +kernel
theorem dX1_allowInto_35 : decode cX1_allowInto 35 = .ok (.getfield 9, 3) := by decide +kernel
theorem dX1_allowInto_38 : decode cX1_allowInto 38 = .ok (.iload 4, 2) := by decide +kernel
theorem dX1_allowInto_40 : decode cX1_allowInto 40 = .ok (.dup2, 1) := by decide +kernel
theorem dX1_allowInto_41 : decode cX1_allowInto 41 = .ok (.iaload, 1) := by decide +kernel
theorem dX1_allowInto_42 : decode cX1_allowInto 42 = .ok (.iconst 1, 1) := by decide +kernel
theorem dX1_allowInto_43 : decode cX1_allowInto 43 = .ok (.iload_n 2, 1) := by decide +kernel
theorem dX1_allowInto_44 : decode cX1_allowInto 44 = .ok (.ishl, 1) := by decide +kernel
theorem dX1_allowInto_45 : decode cX1_allowInto 45 = .ok (.ior, 1) := by decide +kernel
theorem dX1_allowInto_46 : decode cX1_allowInto 46 = .ok (.iastore, 1) := by decide +kernel
theorem dX1_allowInto_47 : decode cX1_allowInto 47 = .ok (.iinc 4 1, 3) := by decide +kernel
theorem dX1_allowInto_50 : decode cX1_allowInto 50 = .ok (.goto (-47), 3) := by decide +kernel
theorem dX1_allowInto_53 : decode cX1_allowInto 53 = .ok (.return_, 1) := by decide +kernel
theorem dX1_roomsAfter_0 : decode cX1_roomsAfter 0 = .ok (.iconst 0, 1) := by decide +kernel
theorem dX1_roomsAfter_1 : decode cX1_roomsAfter 1 = .ok (.istore_n 2, 1) := by decide +kernel
theorem dX1_roomsAfter_2 : decode cX1_roomsAfter 2 = .ok (.iconst 0, 1) := by decide +kernel
theorem dX1_roomsAfter_3 : decode cX1_roomsAfter 3 = .ok (.istore_n 3, 1) := by decide +kernel
theorem dX1_roomsAfter_4 : decode cX1_roomsAfter 4 = .ok (.iload_n 3, 1) := by decide +kernel
theorem dX1_roomsAfter_5 : decode cX1_roomsAfter 5 = .ok (.bipush 8, 2) := by decide +kernel
theorem dX1_roomsAfter_7 : decode cX1_roomsAfter 7 = .ok (.if_icmp .ge 27, 3) := by decide +kernel
theorem dX1_roomsAfter_10 : decode cX1_roomsAfter 10 = .ok (.iload_n 1, 1) := by decide +kernel
theorem dX1_roomsAfter_11 : decode cX1_roomsAfter 11 = .ok (.iload_n 3, 1) := by decide +kernel
theorem dX1_roomsAfter_12 : decode cX1_roomsAfter 12 = .ok (.invokestatic 40, 3) := by decide +kernel
theorem dX1_roomsAfter_15 : decode cX1_roomsAfter 15 = .ok (.iconst 1, 1) := by decide +kernel
theorem dX1_roomsAfter_16 : decode cX1_roomsAfter 16 = .ok (.if_icmp .ne 12, 3) := by decide +kernel
theorem dX1_roomsAfter_19 : decode cX1_roomsAfter 19 = .ok (.iload_n 2, 1) := by decide +kernel
theorem dX1_roomsAfter_20 : decode cX1_roomsAfter 20 = .ok (.aload_n 0, 1) := by decide +kernel
theorem dX1_roomsAfter_21 : decode cX1_roomsAfter 21 = .ok (.getfield 9, 3) := by decide +kernel
theorem dX1_roomsAfter_24 : decode cX1_roomsAfter 24 = .ok (.iload_n 3, 1) := by decide +kernel
theorem dX1_roomsAfter_25 : decode cX1_roomsAfter 25 = .ok (.iaload, 1) := by decide +kernel
theorem dX1_roomsAfter_26 : decode cX1_roomsAfter 26 = .ok (.ior, 1) := by decide +kernel
theorem dX1_roomsAfter_27 : decode cX1_roomsAfter 27 = .ok (.istore_n 2, 1) := by decide +kernel
theorem dX1_roomsAfter_28 : decode cX1_roomsAfter 28 = .ok (.iinc 3 1, 3) := by decide +kernel
theorem dX1_roomsAfter_31 : decode cX1_roomsAfter 31 = .ok (.goto (-27), 3) := by decide +kernel
theorem dX1_roomsAfter_34 : decode cX1_roomsAfter 34 = .ok (.iload_n 2, 1) := by decide +kernel
theorem dX1_roomsAfter_35 : decode cX1_roomsAfter 35 = .ok (.ireturn, 1) := by decide +kernel
theorem dX1_roomsAhead_0 : decode cX1_roomsAhead 0 = .ok (.iconst 0, 1) := by decide +kernel
theorem dX1_roomsAhead_1 : decode cX1_roomsAhead 1 = .ok (.istore_n 2, 1) := by decide +kernel
theorem dX1_roomsAhead_2 : decode cX1_roomsAhead 2 = .ok (.iconst 0, 1) := by decide +kernel
theorem dX1_roomsAhead_3 : decode cX1_roomsAhead 3 = .ok (.istore_n 3, 1) := by decide +kernel
theorem dX1_roomsAhead_4 : decode cX1_roomsAhead 4 = .ok (.iload_n 3, 1) := by decide +kernel
theorem dX1_roomsAhead_5 : decode cX1_roomsAhead 5 = .ok (.bipush 8, 2) := by decide +kernel
theorem dX1_roomsAhead_7 : decode cX1_roomsAhead 7 = .ok (.if_icmp .ge 26, 3) := by decide +kernel
theorem dX1_roomsAhead_10 : decode cX1_roomsAhead 10 = .ok (.aload_n 0, 1) := by decide +kernel
theorem dX1_roomsAhead_11 : decode cX1_roomsAhead 11 = .ok (.getfield 9, 3) := by decide +kernel
theorem dX1_roomsAhead_14 : decode cX1_roomsAhead 14 = .ok (.iload_n 3, 1) := by decide +kernel
theorem dX1_roomsAhead_15 : decode cX1_roomsAhead 15 = .ok (.iaload, 1) := by decide +kernel
theorem dX1_roomsAhead_16 : decode cX1_roomsAhead 16 = .ok (.iload_n 1, 1) := by decide +kernel
theorem dX1_roomsAhead_17 : decode cX1_roomsAhead 17 = .ok (.iand, 1) := by decide +kernel
theorem dX1_roomsAhead_18 : decode cX1_roomsAhead 18 = .ok (.ifCond .eq 9, 3) := by decide +kernel
theorem dX1_roomsAhead_21 : decode cX1_roomsAhead 21 = .ok (.iload_n 2, 1) := by decide +kernel
theorem dX1_roomsAhead_22 : decode cX1_roomsAhead 22 = .ok (.iconst 1, 1) := by decide +kernel
theorem dX1_roomsAhead_23 : decode cX1_roomsAhead 23 = .ok (.iload_n 3, 1) := by decide +kernel
theorem dX1_roomsAhead_24 : decode cX1_roomsAhead 24 = .ok (.ishl, 1) := by decide +kernel
theorem dX1_roomsAhead_25 : decode cX1_roomsAhead 25 = .ok (.ior, 1) := by decide +kernel
theorem dX1_roomsAhead_26 : decode cX1_roomsAhead 26 = .ok (.istore_n 2, 1) := by decide +kernel
theorem dX1_roomsAhead_27 : decode cX1_roomsAhead 27 = .ok (.iinc 3 1, 3) := by decide +kernel
theorem dX1_roomsAhead_30 : decode cX1_roomsAhead 30 = .ok (.goto (-26), 3) := by decide +kernel
theorem dX1_roomsAhead_33 : decode cX1_roomsAhead 33 = .ok (.iload_n 2, 1) := by decide +kernel
theorem dX1_roomsAhead_34 : decode cX1_roomsAhead 34 = .ok (.ireturn, 1) := by decide +kernel
theorem dX1_fewestMinutes_0 : decode cX1_fewestMinutes 0 = .ok (.iconst 1, 1) := by decide +kernel
theorem dX1_fewestMinutes_1 : decode cX1_fewestMinutes 1 = .ok (.iload_n 2, 1) := by decide +kernel
theorem dX1_fewestMinutes_2 : decode cX1_fewestMinutes 2 = .ok (.ishl, 1) := by decide +kernel
theorem dX1_fewestMinutes_3 : decode cX1_fewestMinutes 3 = .ok (.istore 5, 2) := by decide +kernel
theorem dX1_fewestMinutes_5 : decode cX1_fewestMinutes 5 = .ok (.iload 4, 2) := by decide +kernel
theorem dX1_fewestMinutes_7 : decode cX1_fewestMinutes 7 = .ok (.istore 6, 2) := by decide +kernel
theorem dX1_fewestMinutes_9 : decode cX1_fewestMinutes 9 = .ok (.iload 6, 2) := by decide +kernel
theorem dX1_fewestMinutes_11 : decode cX1_fewestMinutes 11 = .ok (.bipush 59, 2) := by decide +kernel
theorem dX1_fewestMinutes_13 : decode cX1_fewestMinutes 13 = .ok (.if_icmp .ge 40, 3) := by decide +kernel
theorem dX1_fewestMinutes_16 : decode cX1_fewestMinutes 16 = .ok (.iload 5, 2) := by decide +kernel
theorem dX1_fewestMinutes_18 : decode cX1_fewestMinutes 18 = .ok (.iload_n 3, 1) := by decide +kernel
theorem dX1_fewestMinutes_19 : decode cX1_fewestMinutes 19 = .ok (.invokestatic 40, 3) := by decide +kernel
theorem dX1_fewestMinutes_22 : decode cX1_fewestMinutes 22 = .ok (.iconst 1, 1) := by decide +kernel
theorem dX1_fewestMinutes_23 : decode cX1_fewestMinutes 23 = .ok (.if_icmp .ne 9, 3) := by decide +kernel
theorem dX1_fewestMinutes_26 : decode cX1_fewestMinutes 26 = .ok (.iload 6, 2) := by decide +kernel
theorem dX1_fewestMinutes_28 : decode cX1_fewestMinutes 28 = .ok (.iload 4, 2) := by decide +kernel
theorem dX1_fewestMinutes_30 : decode cX1_fewestMinutes 30 = .ok (.isub, 1) := by decide +kernel
theorem dX1_fewestMinutes_31 : decode cX1_fewestMinutes 31 = .ok (.ireturn, 1) := by decide +kernel
theorem dX1_fewestMinutes_32 : decode cX1_fewestMinutes 32 = .ok (.aload_n 0, 1) := by decide +kernel
theorem dX1_fewestMinutes_33 : decode cX1_fewestMinutes 33 = .ok (.aload_n 1, 1) := by decide +kernel
theorem dX1_fewestMinutes_34 : decode cX1_fewestMinutes 34 = .ok (.iload 6, 2) := by decide +kernel
theorem dX1_fewestMinutes_36 : decode cX1_fewestMinutes 36 = .ok (.invokevirtual 43, 3) := by decide +kernel
theorem dX1_fewestMinutes_39 : decode cX1_fewestMinutes 39 = .ok (.aload_n 0, 1) := by decide +kernel
theorem dX1_fewestMinutes_40 : decode cX1_fewestMinutes 40 = .ok (.iload 5, 2) := by decide +kernel
theorem dX1_fewestMinutes_42 : decode cX1_fewestMinutes 42 = .ok (.invokevirtual 47, 3) := by decide +kernel
theorem dX1_fewestMinutes_45 : decode cX1_fewestMinutes 45 = .ok (.istore 5, 2) := by decide +kernel
theorem dX1_fewestMinutes_47 : decode cX1_fewestMinutes 47 = .ok (.iinc 6 1, 3) := by decide +kernel
theorem dX1_fewestMinutes_50 : decode cX1_fewestMinutes 50 = .ok (.goto (-41), 3) := by decide +kernel
theorem dX1_fewestMinutes_53 : decode cX1_fewestMinutes 53 = .ok (.iload 5, 2) := by decide +kernel
theorem dX1_fewestMinutes_55 : decode cX1_fewestMinutes 55 = .ok (.iload_n 3, 1) := by decide +kernel
theorem dX1_fewestMinutes_56 : decode cX1_fewestMinutes 56 = .ok (.invokestatic 40, 3) := by decide +kernel
theorem dX1_fewestMinutes_59 : decode cX1_fewestMinutes 59 = .ok (.iconst 1, 1) := by decide +kernel
theorem dX1_fewestMinutes_60 : decode cX1_fewestMinutes 60 = .ok (.if_icmp .ne 11, 3) := by decide +kernel
theorem dX1_fewestMinutes_63 : decode cX1_fewestMinutes 63 = .ok (.bipush 59, 2) := by decide +kernel
theorem dX1_fewestMinutes_65 : decode cX1_fewestMinutes 65 = .ok (.iload 4, 2) := by decide +kernel
theorem dX1_fewestMinutes_67 : decode cX1_fewestMinutes 67 = .ok (.isub, 1) := by decide +kernel
theorem dX1_fewestMinutes_68 : decode cX1_fewestMinutes 68 = .ok (.goto 4, 3) := by decide +kernel
theorem dX1_fewestMinutes_71 : decode cX1_fewestMinutes 71 = .ok (.iconst (-1), 1) := by decide +kernel
theorem dX1_fewestMinutes_72 : decode cX1_fewestMinutes 72 = .ok (.ireturn, 1) := by decide +kernel
theorem dX1_firstRoom_0 : decode cX1_firstRoom 0 = .ok (.iload 5, 2) := by decide +kernel
theorem dX1_firstRoom_2 : decode cX1_firstRoom 2 = .ok (.ifCond .ne 5, 3) := by decide +kernel
theorem dX1_firstRoom_5 : decode cX1_firstRoom 5 = .ok (.iload_n 3, 1) := by decide +kernel
theorem dX1_firstRoom_6 : decode cX1_firstRoom 6 = .ok (.ireturn, 1) := by decide +kernel
theorem dX1_firstRoom_7 : decode cX1_firstRoom 7 = .ok (.iconst 1, 1) := by decide +kernel
theorem dX1_firstRoom_8 : decode cX1_firstRoom 8 = .ok (.iload_n 3, 1) := by decide +kernel
theorem dX1_firstRoom_9 : decode cX1_firstRoom 9 = .ok (.ishl, 1) := by decide +kernel
theorem dX1_firstRoom_10 : decode cX1_firstRoom 10 = .ok (.istore 6, 2) := by decide +kernel
theorem dX1_firstRoom_12 : decode cX1_firstRoom 12 = .ok (.iload 4, 2) := by decide +kernel
theorem dX1_firstRoom_14 : decode cX1_firstRoom 14 = .ok (.iload 5, 2) := by decide +kernel
theorem dX1_firstRoom_16 : decode cX1_firstRoom 16 = .ok (.iadd, 1) := by decide +kernel
theorem dX1_firstRoom_17 : decode cX1_firstRoom 17 = .ok (.iconst 1, 1) := by decide +kernel
theorem dX1_firstRoom_18 : decode cX1_firstRoom 18 = .ok (.isub, 1) := by decide +kernel
theorem dX1_firstRoom_19 : decode cX1_firstRoom 19 = .ok (.istore 7, 2) := by decide +kernel
theorem dX1_firstRoom_21 : decode cX1_firstRoom 21 = .ok (.iload 7, 2) := by decide +kernel
theorem dX1_firstRoom_23 : decode cX1_firstRoom 23 = .ok (.iload 4, 2) := by decide +kernel
theorem dX1_firstRoom_25 : decode cX1_firstRoom 25 = .ok (.if_icmp .le 24, 3) := by decide +kernel
theorem dX1_firstRoom_28 : decode cX1_firstRoom 28 = .ok (.aload_n 0, 1) := by decide +kernel
theorem dX1_firstRoom_29 : decode cX1_firstRoom 29 = .ok (.aload_n 1, 1) := by decide +kernel
theorem dX1_firstRoom_30 : decode cX1_firstRoom 30 = .ok (.iload 7, 2) := by decide +kernel
theorem dX1_firstRoom_32 : decode cX1_firstRoom 32 = .ok (.invokevirtual 43, 3) := by decide +kernel
theorem dX1_firstRoom_35 : decode cX1_firstRoom 35 = .ok (.aload_n 0, 1) := by decide +kernel
theorem dX1_firstRoom_36 : decode cX1_firstRoom 36 = .ok (.iload 6, 2) := by decide +kernel
theorem dX1_firstRoom_38 : decode cX1_firstRoom 38 = .ok (.invokevirtual 51, 3) := by decide +kernel
theorem dX1_firstRoom_41 : decode cX1_firstRoom 41 = .ok (.istore 6, 2) := by decide +kernel
theorem dX1_firstRoom_43 : decode cX1_firstRoom 43 = .ok (.iinc 7 (-1), 3) := by decide +kernel
theorem dX1_firstRoom_46 : decode cX1_firstRoom 46 = .ok (.goto (-25), 3) := by decide +kernel
theorem dX1_firstRoom_49 : decode cX1_firstRoom 49 = .ok (.aload_n 0, 1) := by decide +kernel
theorem dX1_firstRoom_50 : decode cX1_firstRoom 50 = .ok (.aload_n 1, 1) := by decide +kernel
theorem dX1_firstRoom_51 : decode cX1_firstRoom 51 = .ok (.iload 4, 2) := by decide +kernel
theorem dX1_firstRoom_53 : decode cX1_firstRoom 53 = .ok (.invokevirtual 43, 3) := by decide +kernel
theorem dX1_firstRoom_56 : decode cX1_firstRoom 56 = .ok (.iconst 0, 1) := by decide +kernel
theorem dX1_firstRoom_57 : decode cX1_firstRoom 57 = .ok (.istore 7, 2) := by decide +kernel
theorem dX1_firstRoom_59 : decode cX1_firstRoom 59 = .ok (.iload 7, 2) := by decide +kernel
theorem dX1_firstRoom_61 : decode cX1_firstRoom 61 = .ok (.bipush 8, 2) := by decide +kernel
theorem dX1_firstRoom_63 : decode cX1_firstRoom 63 = .ok (.if_icmp .ge 30, 3) := by decide +kernel
theorem dX1_firstRoom_66 : decode cX1_firstRoom 66 = .ok (.aload_n 0, 1) := by decide +kernel
theorem dX1_firstRoom_67 : decode cX1_firstRoom 67 = .ok (.getfield 9, 3) := by decide +kernel
theorem dX1_firstRoom_70 : decode cX1_firstRoom 70 = .ok (.iload_n 2, 1) := by decide +kernel
theorem dX1_firstRoom_71 : decode cX1_firstRoom 71 = .ok (.iaload, 1) := by decide +kernel
theorem dX1_firstRoom_72 : decode cX1_firstRoom 72 = .ok (.iload 6, 2) := by decide +kernel
theorem dX1_firstRoom_74 : decode cX1_firstRoom 74 = .ok (.iand, 1) := by decide +kernel
theorem dX1_firstRoom_75 : decode cX1_firstRoom 75 = .ok (.iload 7, 2) := by decide +kernel
theorem dX1_firstRoom_77 : decode cX1_firstRoom 77 = .ok (.invokestatic 40, 3) := by decide +kernel
theorem dX1_firstRoom_80 : decode cX1_firstRoom 80 = .ok (.iconst 1, 1) := by decide +kernel
theorem dX1_firstRoom_81 : decode cX1_firstRoom 81 = .ok (.if_icmp .ne 6, 3) := by decide +kernel
theorem dX1_firstRoom_84 : decode cX1_firstRoom 84 = .ok (.iload 7, 2) := by decide +kernel
theorem dX1_firstRoom_86 : decode cX1_firstRoom 86 = .ok (.ireturn, 1) := by decide +kernel
theorem dX1_firstRoom_87 : decode cX1_firstRoom 87 = .ok (.iinc 7 1, 3) := by decide +kernel
theorem dX1_firstRoom_90 : decode cX1_firstRoom 90 = .ok (.goto (-31), 3) := by decide +kernel
theorem dX1_firstRoom_93 : decode cX1_firstRoom 93 = .ok (.iconst (-1), 1) := by decide +kernel
theorem dX1_firstRoom_94 : decode cX1_firstRoom 94 = .ok (.ireturn, 1) := by decide +kernel
theorem dX1_reachedByDawn_0 : decode cX1_reachedByDawn 0 = .ok (.iconst 1, 1) := by decide +kernel
theorem dX1_reachedByDawn_1 : decode cX1_reachedByDawn 1 = .ok (.istore_n 2, 1) := by decide +kernel
theorem dX1_reachedByDawn_2 : decode cX1_reachedByDawn 2 = .ok (.iconst 0, 1) := by decide +kernel
theorem dX1_reachedByDawn_3 : decode cX1_reachedByDawn 3 = .ok (.istore_n 3, 1) := by decide +kernel
theorem dX1_reachedByDawn_4 : decode cX1_reachedByDawn 4 = .ok (.iload_n 3, 1) := by decide +kernel
theorem dX1_reachedByDawn_5 : decode cX1_reachedByDawn 5 = .ok (.bipush 59, 2) := by decide +kernel
theorem dX1_reachedByDawn_7 : decode cX1_reachedByDawn 7 = .ok (.if_icmp .ge 21, 3) := by decide +kernel
theorem dX1_reachedByDawn_10 : decode cX1_reachedByDawn 10 = .ok (.aload_n 0, 1) := by decide +kernel
theorem dX1_reachedByDawn_11 : decode cX1_reachedByDawn 11 = .ok (.aload_n 1, 1) := by decide +kernel
theorem dX1_reachedByDawn_12 : decode cX1_reachedByDawn 12 = .ok (.iload_n 3, 1) := by decide +kernel
theorem dX1_reachedByDawn_13 : decode cX1_reachedByDawn 13 = .ok (.invokevirtual 43, 3) := by decide +kernel
theorem dX1_reachedByDawn_16 : decode cX1_reachedByDawn 16 = .ok (.aload_n 0, 1) := by decide +kernel
theorem dX1_reachedByDawn_17 : decode cX1_reachedByDawn 17 = .ok (.iload_n 2, 1) := by decide +kernel
theorem dX1_reachedByDawn_18 : decode cX1_reachedByDawn 18 = .ok (.invokevirtual 47, 3) := by decide +kernel
theorem dX1_reachedByDawn_21 : decode cX1_reachedByDawn 21 = .ok (.istore_n 2, 1) := by decide +kernel
theorem dX1_reachedByDawn_22 : decode cX1_reachedByDawn 22 = .ok (.iinc 3 1, 3) := by decide +kernel
theorem dX1_reachedByDawn_25 : decode cX1_reachedByDawn 25 = .ok (.goto (-21), 3) := by decide +kernel
theorem dX1_reachedByDawn_28 : decode cX1_reachedByDawn 28 = .ok (.iload_n 2, 1) := by decide +kernel
theorem dX1_reachedByDawn_29 : decode cX1_reachedByDawn 29 = .ok (.ireturn, 1) := by decide +kernel
theorem dX1_leastWorstCreak_0 : decode cX1_leastWorstCreak 0 = .ok (.iconst 0, 1) := by decide +kernel
theorem dX1_leastWorstCreak_1 : decode cX1_leastWorstCreak 1 = .ok (.istore 4, 2) := by decide +kernel
theorem dX1_leastWorstCreak_3 : decode cX1_leastWorstCreak 3 = .ok (.iload 4, 2) := by decide +kernel
theorem dX1_leastWorstCreak_5 : decode cX1_leastWorstCreak 5 = .ok (.bipush 9, 2) := by decide +kernel
theorem dX1_leastWorstCreak_7 : decode cX1_leastWorstCreak 7 = .ok (.if_icmp .gt 58, 3) := by decide +kernel
theorem dX1_leastWorstCreak_10 : decode cX1_leastWorstCreak 10 = .ok (.aload_n 0, 1) := by decide +kernel
theorem dX1_leastWorstCreak_11 : decode cX1_leastWorstCreak 11 = .ok (.aload_n 1, 1) := by decide +kernel
theorem dX1_leastWorstCreak_12 : decode cX1_leastWorstCreak 12 = .ok (.iload 4, 2) := by decide +kernel
theorem dX1_leastWorstCreak_14 : decode cX1_leastWorstCreak 14 = .ok (.invokevirtual 54, 3) := by decide +kernel
theorem dX1_leastWorstCreak_17 : decode cX1_leastWorstCreak 17 = .ok (.iconst 1, 1) := by decide +kernel
theorem dX1_leastWorstCreak_18 : decode cX1_leastWorstCreak 18 = .ok (.iload_n 2, 1) := by decide +kernel
theorem dX1_leastWorstCreak_19 : decode cX1_leastWorstCreak 19 = .ok (.ishl, 1) := by decide +kernel
theorem dX1_leastWorstCreak_20 : decode cX1_leastWorstCreak 20 = .ok (.istore 5, 2) := by decide +kernel
theorem dX1_leastWorstCreak_22 : decode cX1_leastWorstCreak 22 = .ok (.iconst 1, 1) := by decide +kernel
theorem dX1_leastWorstCreak_23 : decode cX1_leastWorstCreak 23 = .ok (.istore 6, 2) := by decide +kernel
theorem dX1_leastWorstCreak_25 : decode cX1_leastWorstCreak 25 = .ok (.iload 6, 2) := by decide +kernel
theorem dX1_leastWorstCreak_27 : decode cX1_leastWorstCreak 27 = .ok (.bipush 8, 2) := by decide +kernel
theorem dX1_leastWorstCreak_29 : decode cX1_leastWorstCreak 29 = .ok (.if_icmp .ge 17, 3) := by decide +kernel
theorem dX1_leastWorstCreak_32 : decode cX1_leastWorstCreak 32 = .ok (.aload_n 0, 1) := by decide +kernel
theorem dX1_leastWorstCreak_33 : decode cX1_leastWorstCreak 33 = .ok (.iload 5, 2) := by decide +kernel
theorem dX1_leastWorstCreak_35 : decode cX1_leastWorstCreak 35 = .ok (.invokevirtual 47, 3) := by decide +kernel
theorem dX1_leastWorstCreak_38 : decode cX1_leastWorstCreak 38 = .ok (.istore 5, 2) := by decide +kernel
theorem dX1_leastWorstCreak_40 : decode cX1_leastWorstCreak 40 = .ok (.iinc 6 1, 3) := by decide +kernel
theorem dX1_leastWorstCreak_43 : decode cX1_leastWorstCreak 43 = .ok (.goto (-18), 3) := by decide +kernel
theorem dX1_leastWorstCreak_46 : decode cX1_leastWorstCreak 46 = .ok (.iload 5, 2) := by decide +kernel
theorem dX1_leastWorstCreak_48 : decode cX1_leastWorstCreak 48 = .ok (.iload_n 3, 1) := by decide +kernel
theorem dX1_leastWorstCreak_49 : decode cX1_leastWorstCreak 49 = .ok (.invokestatic 40, 3) := by decide +kernel
theorem dX1_leastWorstCreak_52 : decode cX1_leastWorstCreak 52 = .ok (.iconst 1, 1) := by decide +kernel
theorem dX1_leastWorstCreak_53 : decode cX1_leastWorstCreak 53 = .ok (.if_icmp .ne 6, 3) := by decide +kernel
theorem dX1_leastWorstCreak_56 : decode cX1_leastWorstCreak 56 = .ok (.iload 4, 2) := by decide +kernel
theorem dX1_leastWorstCreak_58 : decode cX1_leastWorstCreak 58 = .ok (.ireturn, 1) := by decide +kernel
theorem dX1_leastWorstCreak_59 : decode cX1_leastWorstCreak 59 = .ok (.iinc 4 1, 3) := by decide +kernel
theorem dX1_leastWorstCreak_62 : decode cX1_leastWorstCreak 62 = .ok (.goto (-59), 3) := by decide +kernel
theorem dX1_leastWorstCreak_65 : decode cX1_leastWorstCreak 65 = .ok (.iconst (-1), 1) := by decide +kernel
theorem dX1_leastWorstCreak_66 : decode cX1_leastWorstCreak 66 = .ok (.ireturn, 1) := by decide +kernel
theorem dX1_fewestMinutesOfTwo_0 : decode cX1_fewestMinutesOfTwo 0 = .ok (.iconst 0, 1) := by decide +kernel
theorem dX1_fewestMinutesOfTwo_1 : decode cX1_fewestMinutesOfTwo 1 = .ok (.istore 4, 2) := by decide +kernel
theorem dX1_fewestMinutesOfTwo_3 : decode cX1_fewestMinutesOfTwo 3 = .ok (.iload 4, 2) := by decide +kernel
theorem dX1_fewestMinutesOfTwo_5 : decode cX1_fewestMinutesOfTwo 5 = .ok (.bipush 8, 2) := by decide +kernel
theorem dX1_fewestMinutesOfTwo_7 : decode cX1_fewestMinutesOfTwo 7 = .ok (.if_icmp .ge 26, 3) := by decide +kernel
theorem dX1_fewestMinutesOfTwo_10 : decode cX1_fewestMinutesOfTwo 10 = .ok (.aload_n 0, 1) := by decide +kernel
theorem dX1_fewestMinutesOfTwo_11 : decode cX1_fewestMinutesOfTwo 11 = .ok (.getfield 15, 3) := by decide +kernel
theorem dX1_fewestMinutesOfTwo_14 : decode cX1_fewestMinutesOfTwo 14 = .ok (.iload 4, 2) := by decide +kernel
theorem dX1_fewestMinutesOfTwo_16 : decode cX1_fewestMinutesOfTwo 16 = .ok (.iload 4, 2) := by decide +kernel
theorem dX1_fewestMinutesOfTwo_18 : decode cX1_fewestMinutesOfTwo 18 = .ok (.ifCond .ne 7, 3) := by decide +kernel
theorem dX1_fewestMinutesOfTwo_21 : decode cX1_fewestMinutesOfTwo 21 = .ok (.iconst 1, 1) := by decide +kernel
theorem dX1_fewestMinutesOfTwo_22 : decode cX1_fewestMinutesOfTwo 22 = .ok (.goto 4, 3) := by decide +kernel
theorem dX1_fewestMinutesOfTwo_25 : decode cX1_fewestMinutesOfTwo 25 = .ok (.iconst 0, 1) := by decide +kernel
theorem dX1_fewestMinutesOfTwo_26 : decode cX1_fewestMinutesOfTwo 26 = .ok (.iastore, 1) := by decide +kernel
theorem dX1_fewestMinutesOfTwo_27 : decode cX1_fewestMinutesOfTwo 27 = .ok (.iinc 4 1, 3) := by decide +kernel
theorem dX1_fewestMinutesOfTwo_30 : decode cX1_fewestMinutesOfTwo 30 = .ok (.goto (-27), 3) := by decide +kernel
theorem dX1_fewestMinutesOfTwo_33 : decode cX1_fewestMinutesOfTwo 33 = .ok (.iconst 0, 1) := by decide +kernel
theorem dX1_fewestMinutesOfTwo_34 : decode cX1_fewestMinutesOfTwo 34 = .ok (.istore 4, 2) := by decide +kernel
theorem dX1_fewestMinutesOfTwo_36 : decode cX1_fewestMinutesOfTwo 36 = .ok (.iload 4, 2) := by decide +kernel
theorem dX1_fewestMinutesOfTwo_38 : decode cX1_fewestMinutesOfTwo 38 = .ok (.bipush 20, 2) := by decide +kernel
theorem dX1_fewestMinutesOfTwo_40 : decode cX1_fewestMinutesOfTwo 40 = .ok (.if_icmp .ge 37, 3) := by decide +kernel
theorem dX1_fewestMinutesOfTwo_43 : decode cX1_fewestMinutesOfTwo 43 = .ok (.aload_n 0, 1) := by decide +kernel
theorem dX1_fewestMinutesOfTwo_44 : decode cX1_fewestMinutesOfTwo 44 = .ok (.getfield 15, 3) := by decide +kernel
theorem dX1_fewestMinutesOfTwo_47 : decode cX1_fewestMinutesOfTwo 47 = .ok (.iload_n 2, 1) := by decide +kernel
theorem dX1_fewestMinutesOfTwo_48 : decode cX1_fewestMinutesOfTwo 48 = .ok (.iaload, 1) := by decide +kernel
theorem dX1_fewestMinutesOfTwo_49 : decode cX1_fewestMinutesOfTwo 49 = .ok (.iload_n 3, 1) := by decide +kernel
theorem dX1_fewestMinutesOfTwo_50 : decode cX1_fewestMinutesOfTwo 50 = .ok (.invokestatic 40, 3) := by decide +kernel
theorem dX1_fewestMinutesOfTwo_53 : decode cX1_fewestMinutesOfTwo 53 = .ok (.iconst 1, 1) := by decide +kernel
theorem dX1_fewestMinutesOfTwo_54 : decode cX1_fewestMinutesOfTwo 54 = .ok (.if_icmp .ne 6, 3) := by decide +kernel
theorem dX1_fewestMinutesOfTwo_57 : decode cX1_fewestMinutesOfTwo 57 = .ok (.iload 4, 2) := by decide +kernel
theorem dX1_fewestMinutesOfTwo_59 : decode cX1_fewestMinutesOfTwo 59 = .ok (.ireturn, 1) := by decide +kernel
theorem dX1_fewestMinutesOfTwo_60 : decode cX1_fewestMinutesOfTwo 60 = .ok (.aload_n 0, 1) := by decide +kernel
theorem dX1_fewestMinutesOfTwo_61 : decode cX1_fewestMinutesOfTwo 61 = .ok (.aload_n 1, 1) := by decide +kernel
theorem dX1_fewestMinutesOfTwo_62 : decode cX1_fewestMinutesOfTwo 62 = .ok (.iload 4, 2) := by decide +kernel
theorem dX1_fewestMinutesOfTwo_64 : decode cX1_fewestMinutesOfTwo 64 = .ok (.invokevirtual 43, 3) := by decide +kernel
theorem dX1_fewestMinutesOfTwo_67 : decode cX1_fewestMinutesOfTwo 67 = .ok (.aload_n 0, 1) := by decide +kernel
theorem dX1_fewestMinutesOfTwo_68 : decode cX1_fewestMinutesOfTwo 68 = .ok (.invokevirtual 57, 3) := by decide +kernel
theorem dX1_fewestMinutesOfTwo_71 : decode cX1_fewestMinutesOfTwo 71 = .ok (.iinc 4 1, 3) := by decide +kernel
theorem dX1_fewestMinutesOfTwo_74 : decode cX1_fewestMinutesOfTwo 74 = .ok (.goto (-38), 3) := by decide +kernel
theorem dX1_fewestMinutesOfTwo_77 : decode cX1_fewestMinutesOfTwo 77 = .ok (.aload_n 0, 1) := by decide +kernel
theorem dX1_fewestMinutesOfTwo_78 : decode cX1_fewestMinutesOfTwo 78 = .ok (.getfield 15, 3) := by decide +kernel
theorem dX1_fewestMinutesOfTwo_81 : decode cX1_fewestMinutesOfTwo 81 = .ok (.iload_n 2, 1) := by decide +kernel
theorem dX1_fewestMinutesOfTwo_82 : decode cX1_fewestMinutesOfTwo 82 = .ok (.iaload, 1) := by decide +kernel
theorem dX1_fewestMinutesOfTwo_83 : decode cX1_fewestMinutesOfTwo 83 = .ok (.iload_n 3, 1) := by decide +kernel
theorem dX1_fewestMinutesOfTwo_84 : decode cX1_fewestMinutesOfTwo 84 = .ok (.invokestatic 40, 3) := by decide +kernel
theorem dX1_fewestMinutesOfTwo_87 : decode cX1_fewestMinutesOfTwo 87 = .ok (.iconst 1, 1) := by decide +kernel
theorem dX1_fewestMinutesOfTwo_88 : decode cX1_fewestMinutesOfTwo 88 = .ok (.if_icmp .ne 8, 3) := by decide +kernel
theorem dX1_fewestMinutesOfTwo_91 : decode cX1_fewestMinutesOfTwo 91 = .ok (.bipush 20, 2) := by decide +kernel
theorem dX1_fewestMinutesOfTwo_93 : decode cX1_fewestMinutesOfTwo 93 = .ok (.goto 4, 3) := by decide +kernel
theorem dX1_fewestMinutesOfTwo_96 : decode cX1_fewestMinutesOfTwo 96 = .ok (.iconst (-1), 1) := by decide +kernel
theorem dX1_fewestMinutesOfTwo_97 : decode cX1_fewestMinutesOfTwo 97 = .ok (.ireturn, 1) := by decide +kernel
theorem dX1_goTogether_0 : decode cX1_goTogether 0 = .ok (.iconst 0, 1) := by decide +kernel
theorem dX1_goTogether_1 : decode cX1_goTogether 1 = .ok (.istore_n 1, 1) := by decide +kernel
theorem dX1_goTogether_2 : decode cX1_goTogether 2 = .ok (.iload_n 1, 1) := by decide +kernel
theorem dX1_goTogether_3 : decode cX1_goTogether 3 = .ok (.bipush 8, 2) := by decide +kernel
theorem dX1_goTogether_5 : decode cX1_goTogether 5 = .ok (.if_icmp .ge 69, 3) := by decide +kernel
theorem dX1_goTogether_8 : decode cX1_goTogether 8 = .ok (.iconst 0, 1) := by decide +kernel
theorem dX1_goTogether_9 : decode cX1_goTogether 9 = .ok (.istore_n 2, 1) := by decide +kernel
theorem dX1_goTogether_10 : decode cX1_goTogether 10 = .ok (.iconst 0, 1) := by decide +kernel
theorem dX1_goTogether_11 : decode cX1_goTogether 11 = .ok (.istore_n 3, 1) := by decide +kernel
theorem dX1_goTogether_12 : decode cX1_goTogether 12 = .ok (.iload_n 3, 1) := by decide +kernel
theorem dX1_goTogether_13 : decode cX1_goTogether 13 = .ok (.bipush 8, 2) := by decide +kernel
theorem dX1_goTogether_15 : decode cX1_goTogether 15 = .ok (.if_icmp .ge 32, 3) := by decide +kernel
theorem dX1_goTogether_18 : decode cX1_goTogether 18 = .ok (.aload_n 0, 1) := by decide +kernel
theorem dX1_goTogether_19 : decode cX1_goTogether 19 = .ok (.getfield 9, 3) := by decide +kernel
theorem dX1_goTogether_22 : decode cX1_goTogether 22 = .ok (.iload_n 3, 1) := by decide +kernel
theorem dX1_goTogether_23 : decode cX1_goTogether 23 = .ok (.iaload, 1) := by decide +kernel
theorem dX1_goTogether_24 : decode cX1_goTogether 24 = .ok (.iload_n 1, 1) := by decide +kernel
theorem dX1_goTogether_25 : decode cX1_goTogether 25 = .ok (.invokestatic 40, 3) := by decide +kernel
theorem dX1_goTogether_28 : decode cX1_goTogether 28 = .ok (.iconst 1, 1) := by decide +kernel
theorem dX1_goTogether_29 : decode cX1_goTogether 29 = .ok (.if_icmp .ne 12, 3) := by decide +kernel
theorem dX1_goTogether_32 : decode cX1_goTogether 32 = .ok (.iload_n 2, 1) := by decide +kernel
theorem dX1_goTogether_33 : decode cX1_goTogether 33 = .ok (.aload_n 0, 1) := by decide +kernel
theorem dX1_goTogether_34 : decode cX1_goTogether 34 = .ok (.iload_n 3, 1) := by decide +kernel
theorem dX1_goTogether_35 : decode cX1_goTogether 35 = .ok (.iload_n 1, 1) := by decide +kernel
theorem dX1_goTogether_36 : decode cX1_goTogether 36 = .ok (.invokevirtual 60, 3) := by decide +kernel
theorem dX1_goTogether_39 : decode cX1_goTogether 39 = .ok (.ior, 1) := by decide +kernel
theorem dX1_goTogether_40 : decode cX1_goTogether 40 = .ok (.istore_n 2, 1) := by decide +kernel
theorem dX1_goTogether_41 : decode cX1_goTogether 41 = .ok (.iinc 3 1, 3) := by decide +kernel
theorem dX1_goTogether_44 : decode cX1_goTogether 44 = .ok (.goto (-32), 3) := by decide +kernel
theorem dX1_goTogether_47 : decode cX1_goTogether 47 = .ok (.aload_n 0, 1) := by decide +kernel
theorem dX1_goTogether_48 : decode cX1_goTogether 48 = .ok (.getfield 18, 3) := by decide +kernel
theorem dX1_goTogether_51 : decode cX1_goTogether 51 = .ok (.iload_n 1, 1) := by decide +kernel
theorem dX1_goTogether_52 : decode cX1_goTogether 52 = .ok (.iload_n 1, 1) := by decide +kernel
theorem dX1_goTogether_53 : decode cX1_goTogether 53 = .ok (.ifCond .ne 7, 3) := by decide +kernel
theorem dX1_goTogether_56 : decode cX1_goTogether 56 = .ok (.iload_n 2, 1) := by decide +kernel
theorem dX1_goTogether_57 : decode cX1_goTogether 57 = .ok (.goto 10, 3) := by decide +kernel
theorem dX1_goTogether_60 : decode cX1_goTogether 60 = .ok (.iload_n 2, 1) := by decide +kernel
theorem dX1_goTogether_61 : decode cX1_goTogether 61 = .ok (.iconst 1, 1) := by decide +kernel
theorem dX1_goTogether_62 : decode cX1_goTogether 62 = .ok (.iload_n 1, 1) := by decide +kernel
theorem dX1_goTogether_63 : decode cX1_goTogether 63 = .ok (.ishl, 1) := by decide +kernel
theorem dX1_goTogether_64 : decode cX1_goTogether 64 = .ok (.iconst (-1), 1) := by decide +kernel
theorem dX1_goTogether_65 : decode cX1_goTogether 65 = .ok (.ixor, 1) := by decide +kernel
theorem dX1_goTogether_66 : decode cX1_goTogether 66 = .ok (.iand, 1) := by decide +kernel
theorem dX1_goTogether_67 : decode cX1_goTogether 67 = .ok (.iastore, 1) := by decide +kernel
theorem dX1_goTogether_68 : decode cX1_goTogether 68 = .ok (.iinc 1 1, 3) := by decide +kernel
theorem dX1_goTogether_71 : decode cX1_goTogether 71 = .ok (.goto (-69), 3) := by decide +kernel
theorem dX1_goTogether_74 : decode cX1_goTogether 74 = .ok (.aload_n 0, 1) := by decide +kernel
theorem dX1_goTogether_75 : decode cX1_goTogether 75 = .ok (.getfield 18, 3) := by decide +kernel
theorem dX1_goTogether_78 : decode cX1_goTogether 78 = .ok (.iconst 0, 1) := by decide +kernel
theorem dX1_goTogether_79 : decode cX1_goTogether 79 = .ok (.aload_n 0, 1) := by decide +kernel
theorem dX1_goTogether_80 : decode cX1_goTogether 80 = .ok (.getfield 15, 3) := by decide +kernel
theorem dX1_goTogether_83 : decode cX1_goTogether 83 = .ok (.iconst 0, 1) := by decide +kernel
theorem dX1_goTogether_84 : decode cX1_goTogether 84 = .ok (.bipush 8, 2) := by decide +kernel
theorem dX1_goTogether_86 : decode cX1_goTogether 86 = .ok (.invokestatic 63, 3) := by decide +kernel
theorem dX1_goTogether_89 : decode cX1_goTogether 89 = .ok (.return_, 1) := by decide +kernel
theorem dX1_secondGoes_0 : decode cX1_secondGoes 0 = .ok (.iconst 0, 1) := by decide +kernel
theorem dX1_secondGoes_1 : decode cX1_secondGoes 1 = .ok (.istore_n 3, 1) := by decide +kernel
theorem dX1_secondGoes_2 : decode cX1_secondGoes 2 = .ok (.iconst 0, 1) := by decide +kernel
theorem dX1_secondGoes_3 : decode cX1_secondGoes 3 = .ok (.istore 4, 2) := by decide +kernel
theorem dX1_secondGoes_5 : decode cX1_secondGoes 5 = .ok (.iload 4, 2) := by decide +kernel
theorem dX1_secondGoes_7 : decode cX1_secondGoes 7 = .ok (.bipush 8, 2) := by decide +kernel
theorem dX1_secondGoes_9 : decode cX1_secondGoes 9 = .ok (.if_icmp .ge 73, 3) := by decide +kernel
theorem dX1_secondGoes_12 : decode cX1_secondGoes 12 = .ok (.aload_n 0, 1) := by decide +kernel
theorem dX1_secondGoes_13 : decode cX1_secondGoes 13 = .ok (.getfield 15, 3) := by decide +kernel
theorem dX1_secondGoes_16 : decode cX1_secondGoes 16 = .ok (.iload_n 1, 1) := by decide +kernel
theorem dX1_secondGoes_17 : decode cX1_secondGoes 17 = .ok (.iaload, 1) := by decide +kernel
theorem dX1_secondGoes_18 : decode cX1_secondGoes 18 = .ok (.iload 4, 2) := by decide +kernel
theorem dX1_secondGoes_20 : decode cX1_secondGoes 20 = .ok (.invokestatic 40, 3) := by decide +kernel
theorem dX1_secondGoes_23 : decode cX1_secondGoes 23 = .ok (.iconst 1, 1) := by decide +kernel
theorem dX1_secondGoes_24 : decode cX1_secondGoes 24 = .ok (.if_icmp .ne 52, 3) := by decide +kernel
theorem dX1_secondGoes_27 : decode cX1_secondGoes 27 = .ok (.iload_n 1, 1) := by decide +kernel
theorem dX1_secondGoes_28 : decode cX1_secondGoes 28 = .ok (.iload_n 2, 1) := by decide +kernel
theorem dX1_secondGoes_29 : decode cX1_secondGoes 29 = .ok (.if_icmp .eq 13, 3) := by decide +kernel
theorem dX1_secondGoes_32 : decode cX1_secondGoes 32 = .ok (.iload 4, 2) := by decide +kernel
theorem dX1_secondGoes_34 : decode cX1_secondGoes 34 = .ok (.iload_n 2, 1) := by decide +kernel
theorem dX1_secondGoes_35 : decode cX1_secondGoes 35 = .ok (.if_icmp .ne 7, 3) := by decide +kernel
theorem dX1_secondGoes_38 : decode cX1_secondGoes 38 = .ok (.iconst 1, 1) := by decide +kernel
theorem dX1_secondGoes_39 : decode cX1_secondGoes 39 = .ok (.goto 4, 3) := by decide +kernel
theorem dX1_secondGoes_42 : decode cX1_secondGoes 42 = .ok (.iconst 0, 1) := by decide +kernel
theorem dX1_secondGoes_43 : decode cX1_secondGoes 43 = .ok (.istore 5, 2) := by decide +kernel
theorem dX1_secondGoes_45 : decode cX1_secondGoes 45 = .ok (.iload_n 3, 1) := by decide +kernel
theorem dX1_secondGoes_46 : decode cX1_secondGoes 46 = .ok (.iload 5, 2) := by decide +kernel
theorem dX1_secondGoes_48 : decode cX1_secondGoes 48 = .ok (.ifCond .eq 19, 3) := by decide +kernel
theorem dX1_secondGoes_51 : decode cX1_secondGoes 51 = .ok (.aload_n 0, 1) := by decide +kernel
theorem dX1_secondGoes_52 : decode cX1_secondGoes 52 = .ok (.getfield 9, 3) := by decide +kernel
theorem dX1_secondGoes_55 : decode cX1_secondGoes 55 = .ok (.iload 4, 2) := by decide +kernel
theorem dX1_secondGoes_57 : decode cX1_secondGoes 57 = .ok (.iaload, 1) := by decide +kernel
theorem dX1_secondGoes_58 : decode cX1_secondGoes 58 = .ok (.iconst 1, 1) := by decide +kernel
theorem dX1_secondGoes_59 : decode cX1_secondGoes 59 = .ok (.iload_n 1, 1) := by decide +kernel
theorem dX1_secondGoes_60 : decode cX1_secondGoes 60 = .ok (.ishl, 1) := by decide +kernel
theorem dX1_secondGoes_61 : decode cX1_secondGoes 61 = .ok (.iconst (-1), 1) := by decide +kernel
theorem dX1_secondGoes_62 : decode cX1_secondGoes 62 = .ok (.ixor, 1) := by decide +kernel
theorem dX1_secondGoes_63 : decode cX1_secondGoes 63 = .ok (.iand, 1) := by decide +kernel
theorem dX1_secondGoes_64 : decode cX1_secondGoes 64 = .ok (.goto 10, 3) := by decide +kernel
theorem dX1_secondGoes_67 : decode cX1_secondGoes 67 = .ok (.aload_n 0, 1) := by decide +kernel
theorem dX1_secondGoes_68 : decode cX1_secondGoes 68 = .ok (.getfield 9, 3) := by decide +kernel
theorem dX1_secondGoes_71 : decode cX1_secondGoes 71 = .ok (.iload 4, 2) := by decide +kernel
theorem dX1_secondGoes_73 : decode cX1_secondGoes 73 = .ok (.iaload, 1) := by decide +kernel
theorem dX1_secondGoes_74 : decode cX1_secondGoes 74 = .ok (.ior, 1) := by decide +kernel
theorem dX1_secondGoes_75 : decode cX1_secondGoes 75 = .ok (.istore_n 3, 1) := by decide +kernel
theorem dX1_secondGoes_76 : decode cX1_secondGoes 76 = .ok (.iinc 4 1, 3) := by decide +kernel
theorem dX1_secondGoes_79 : decode cX1_secondGoes 79 = .ok (.goto (-74), 3) := by decide +kernel
theorem dX1_secondGoes_82 : decode cX1_secondGoes 82 = .ok (.iload_n 3, 1) := by decide +kernel
theorem dX1_secondGoes_83 : decode cX1_secondGoes 83 = .ok (.ireturn, 1) := by decide +kernel
theorem dX2_init_0 : decode cX2_init 0 = .ok (.aload_n 0, 1) := by decide +kernel
theorem dX2_init_1 : decode cX2_init 1 = .ok (.invokespecial 3, 3) := by decide +kernel
theorem dX2_init_4 : decode cX2_init 4 = .ok (.aload_n 0, 1) := by decide +kernel
theorem dX2_init_5 : decode cX2_init 5 = .ok (.bipush 6, 2) := by decide +kernel
theorem dX2_init_7 : decode cX2_init 7 = .ok (.anewarray 9, 3) := by decide +kernel
theorem dX2_init_10 : decode cX2_init 10 = .ok (.dup, 1) := by decide +kernel
theorem dX2_init_11 : decode cX2_init 11 = .ok (.iconst 0, 1) := by decide +kernel
theorem dX2_init_12 : decode cX2_init 12 = .ok (.new 9, 3) := by decide +kernel
theorem dX2_init_15 : decode cX2_init 15 = .ok (.dup, 1) := by decide +kernel
theorem dX2_init_16 : decode cX2_init 16 = .ok (.invokespecial 11, 3) := by decide +kernel
theorem dX2_init_19 : decode cX2_init 19 = .ok (.aastore, 1) := by decide +kernel
theorem dX2_init_20 : decode cX2_init 20 = .ok (.dup, 1) := by decide +kernel
theorem dX2_init_21 : decode cX2_init 21 = .ok (.iconst 1, 1) := by decide +kernel
theorem dX2_init_22 : decode cX2_init 22 = .ok (.new 12, 3) := by decide +kernel
theorem dX2_init_25 : decode cX2_init 25 = .ok (.dup, 1) := by decide +kernel
theorem dX2_init_26 : decode cX2_init 26 = .ok (.invokespecial 14, 3) := by decide +kernel
theorem dX2_init_29 : decode cX2_init 29 = .ok (.aastore, 1) := by decide +kernel
theorem dX2_init_30 : decode cX2_init 30 = .ok (.dup, 1) := by decide +kernel
theorem dX2_init_31 : decode cX2_init 31 = .ok (.iconst 2, 1) := by decide +kernel
theorem dX2_init_32 : decode cX2_init 32 = .ok (.new 15, 3) := by decide +kernel
theorem dX2_init_35 : decode cX2_init 35 = .ok (.dup, 1) := by decide +kernel
theorem dX2_init_36 : decode cX2_init 36 = .ok (.invokespecial 17, 3) := by decide +kernel
theorem dX2_init_39 : decode cX2_init 39 = .ok (.aastore, 1) := by decide +kernel
theorem dX2_init_40 : decode cX2_init 40 = .ok (.dup, 1) := by decide +kernel
theorem dX2_init_41 : decode cX2_init 41 = .ok (.iconst 3, 1) := by decide +kernel
theorem dX2_init_42 : decode cX2_init 42 = .ok (.new 18, 3) := by decide +kernel
theorem dX2_init_45 : decode cX2_init 45 = .ok (.dup, 1) := by decide +kernel
theorem dX2_init_46 : decode cX2_init 46 = .ok (.invokespecial 20, 3) := by decide +kernel
theorem dX2_init_49 : decode cX2_init 49 = .ok (.aastore, 1) := by decide +kernel
theorem dX2_init_50 : decode cX2_init 50 = .ok (.dup, 1) := by decide +kernel
theorem dX2_init_51 : decode cX2_init 51 = .ok (.iconst 4, 1) := by decide +kernel
theorem dX2_init_52 : decode cX2_init 52 = .ok (.new 21, 3) := by decide +kernel
theorem dX2_init_55 : decode cX2_init 55 = .ok (.dup, 1) := by decide +kernel
theorem dX2_init_56 : decode cX2_init 56 = .ok (.invokespecial 23, 3) := by decide +kernel
theorem dX2_init_59 : decode cX2_init 59 = .ok (.aastore, 1) := by decide +kernel
theorem dX2_init_60 : decode cX2_init 60 = .ok (.dup, 1) := by decide +kernel
theorem dX2_init_61 : decode cX2_init 61 = .ok (.iconst 5, 1) := by decide +kernel
theorem dX2_init_62 : decode cX2_init 62 = .ok (.new 24, 3) := by decide +kernel
theorem dX2_init_65 : decode cX2_init 65 = .ok (.dup, 1) := by decide +kernel
theorem dX2_init_66 : decode cX2_init 66 = .ok (.invokespecial 26, 3) := by decide +kernel
theorem dX2_init_69 : decode cX2_init 69 = .ok (.aastore, 1) := by decide +kernel
theorem dX2_init_70 : decode cX2_init 70 = .ok (.putfield 27, 3) := by decide +kernel
theorem dX2_init_73 : decode cX2_init 73 = .ok (.aload_n 0, 1) := by decide +kernel
theorem dX2_init_74 : decode cX2_init 74 = .ok (.bipush 64, 2) := by decide +kernel
theorem dX2_init_76 : decode cX2_init 76 = .ok (.newarray .int, 2) := by decide +kernel
theorem dX2_init_78 : decode cX2_init 78 = .ok (.putfield 33, 3) := by decide +kernel
theorem dX2_init_81 : decode cX2_init 81 = .ok (.aload_n 0, 1) := by decide +kernel
theorem dX2_init_82 : decode cX2_init 82 = .ok (.bipush 64, 2) := by decide +kernel
theorem dX2_init_84 : decode cX2_init 84 = .ok (.newarray .int, 2) := by decide +kernel
theorem dX2_init_86 : decode cX2_init 86 = .ok (.putfield 37, 3) := by decide +kernel
theorem dX2_init_89 : decode cX2_init 89 = .ok (.aload_n 0, 1) := by decide +kernel
theorem dX2_init_90 : decode cX2_init 90 = .ok (.iconst 5, 1) := by decide +kernel
theorem dX2_init_91 : decode cX2_init 91 = .ok (.newarray .int, 2) := by decide +kernel
theorem dX2_init_93 : decode cX2_init 93 = .ok (.putfield 40, 3) := by decide +kernel
theorem dX2_init_96 : decode cX2_init 96 = .ok (.aload_n 0, 1) := by decide +kernel
theorem dX2_init_97 : decode cX2_init 97 = .ok (.iconst 5, 1) := by decide +kernel
theorem dX2_init_98 : decode cX2_init 98 = .ok (.newarray .int, 2) := by decide +kernel
theorem dX2_init_100 : decode cX2_init 100 = .ok (.putfield 43, 3) := by decide +kernel
theorem dX2_init_103 : decode cX2_init 103 = .ok (.aload_n 0, 1) := by decide +kernel
theorem dX2_init_104 : decode cX2_init 104 = .ok (.iconst 5, 1) := by decide +kernel
theorem dX2_init_105 : decode cX2_init 105 = .ok (.newarray .int, 2) := by decide +kernel
theorem dX2_init_107 : decode cX2_init 107 = .ok (.putfield 46, 3) := by decide +kernel
theorem dX2_init_110 : decode cX2_init 110 = .ok (.aload_n 0, 1) := by decide +kernel
theorem dX2_init_111 : decode cX2_init 111 = .ok (.iconst 5, 1) := by decide +kernel
theorem dX2_init_112 : decode cX2_init 112 = .ok (.newarray .int, 2) := by decide +kernel
theorem dX2_init_114 : decode cX2_init 114 = .ok (.putfield 49, 3) := by decide +kernel
theorem dX2_init_117 : decode cX2_init 117 = .ok (.aload_n 0, 1) := by decide +kernel
theorem dX2_init_118 : decode cX2_init 118 = .ok (.iconst 5, 1) := by decide +kernel
theorem dX2_init_119 : decode cX2_init 119 = .ok (.newarray .int, 2) := by decide +kernel
theorem dX2_init_121 : decode cX2_init 121 = .ok (.putfield 52, 3) := by decide +kernel
theorem dX2_init_124 : decode cX2_init 124 = .ok (.aload_n 0, 1) := by decide +kernel
theorem dX2_init_125 : decode cX2_init 125 = .ok (.bipush 20, 2) := by decide +kernel
theorem dX2_init_127 : decode cX2_init 127 = .ok (.newarray .int, 2) := by decide +kernel
theorem dX2_init_129 : decode cX2_init 129 = .ok (.putfield 55, 3) := by decide +kernel
theorem dX2_init_132 : decode cX2_init 132 = .ok (.aload_n 0, 1) := by decide +kernel
theorem dX2_init_133 : decode cX2_init 133 = .ok (.invokevirtual 58, 3) := by decide +kernel
theorem dX2_init_136 : decode cX2_init 136 = .ok (.return_, 1) := by decide +kernel
theorem dX2_empty_0 : decode cX2_empty 0 = .ok (.aload_n 0, 1) := by decide +kernel
theorem dX2_empty_1 : decode cX2_empty 1 = .ok (.iconst 0, 1) := by decide +kernel
theorem dX2_empty_2 : decode cX2_empty 2 = .ok (.putfield 61, 3) := by decide +kernel
theorem dX2_empty_5 : decode cX2_empty 5 = .ok (.aload_n 0, 1) := by decide +kernel
theorem dX2_empty_6 : decode cX2_empty 6 = .ok (.iconst 0, 1) := by decide +kernel
theorem dX2_empty_7 : decode cX2_empty 7 = .ok (.putfield 65, 3) := by decide +kernel
theorem dX2_empty_10 : decode cX2_empty 10 = .ok (.iconst 0, 1) := by decide +kernel
theorem dX2_empty_11 : decode cX2_empty 11 = .ok (.istore_n 1, 1) := by decide +kernel
theorem dX2_empty_12 : decode cX2_empty 12 = .ok (.iload_n 1, 1) := by decide +kernel
theorem dX2_empty_13 : decode cX2_empty 13 = .ok (.bipush 64, 2) := by decide +kernel
theorem dX2_empty_15 : decode cX2_empty 15 = .ok (.if_icmp .ge 16, 3) := by decide +kernel
theorem dX2_empty_18 : decode cX2_empty 18 = .ok (.aload_n 0, 1) := by decide +kernel
theorem dX2_empty_19 : decode cX2_empty 19 = .ok (.getfield 33, 3) := by decide +kernel
theorem dX2_empty_22 : decode cX2_empty 22 = .ok (.iload_n 1, 1) := by decide +kernel
theorem dX2_empty_23 : decode cX2_empty 23 = .ok (.iconst (-1), 1) := by decide +kernel
theorem dX2_empty_24 : decode cX2_empty 24 = .ok (.iastore, 1) := by decide +kernel
theorem dX2_empty_25 : decode cX2_empty 25 = .ok (.iinc 1 1, 3) := by decide +kernel
theorem dX2_empty_28 : decode cX2_empty 28 = .ok (.goto (-16), 3) := by decide +kernel
theorem dX2_empty_31 : decode cX2_empty 31 = .ok (.aload_n 0, 1) := by decide +kernel
theorem dX2_empty_32 : decode cX2_empty 32 = .ok (.invokevirtual 68, 3) := by decide +kernel
theorem dX2_empty_35 : decode cX2_empty 35 = .ok (.return_, 1) := by decide +kernel
theorem dX2_copyFrom_0 : decode cX2_copyFrom 0 = .ok (.aload_n 1, 1) := by decide +kernel
theorem dX2_copyFrom_1 : decode cX2_copyFrom 1 = .ok (.getfield 33, 3) := by decide +kernel
theorem dX2_copyFrom_4 : decode cX2_copyFrom 4 = .ok (.iconst 0, 1) := by decide +kernel
theorem dX2_copyFrom_5 : decode cX2_copyFrom 5 = .ok (.aload_n 0, 1) := by decide +kernel
theorem dX2_copyFrom_6 : decode cX2_copyFrom 6 = .ok (.getfield 33, 3) := by decide +kernel
theorem dX2_copyFrom_9 : decode cX2_copyFrom 9 = .ok (.iconst 0, 1) := by decide +kernel
theorem dX2_copyFrom_10 : decode cX2_copyFrom 10 = .ok (.bipush 64, 2) := by decide +kernel
theorem dX2_copyFrom_12 : decode cX2_copyFrom 12 = .ok (.invokestatic 71, 3) := by decide +kernel
theorem dX2_copyFrom_15 : decode cX2_copyFrom 15 = .ok (.aload_n 1, 1) := by decide +kernel
theorem dX2_copyFrom_16 : decode cX2_copyFrom 16 = .ok (.getfield 37, 3) := by decide +kernel
theorem dX2_copyFrom_19 : decode cX2_copyFrom 19 = .ok (.iconst 0, 1) := by decide +kernel
theorem dX2_copyFrom_20 : decode cX2_copyFrom 20 = .ok (.aload_n 0, 1) := by decide +kernel
theorem dX2_copyFrom_21 : decode cX2_copyFrom 21 = .ok (.getfield 37, 3) := by decide +kernel
theorem dX2_copyFrom_24 : decode cX2_copyFrom 24 = .ok (.iconst 0, 1) := by decide +kernel
theorem dX2_copyFrom_25 : decode cX2_copyFrom 25 = .ok (.bipush 64, 2) := by decide +kernel
theorem dX2_copyFrom_27 : decode cX2_copyFrom 27 = .ok (.invokestatic 71, 3) := by decide +kernel
theorem dX2_copyFrom_30 : decode cX2_copyFrom 30 = .ok (.aload_n 1, 1) := by decide +kernel
theorem dX2_copyFrom_31 : decode cX2_copyFrom 31 = .ok (.getfield 40, 3) := by decide +kernel
theorem dX2_copyFrom_34 : decode cX2_copyFrom 34 = .ok (.iconst 0, 1) := by decide +kernel
theorem dX2_copyFrom_35 : decode cX2_copyFrom 35 = .ok (.aload_n 0, 1) := by decide +kernel
theorem dX2_copyFrom_36 : decode cX2_copyFrom 36 = .ok (.getfield 40, 3) := by decide +kernel
theorem dX2_copyFrom_39 : decode cX2_copyFrom 39 = .ok (.iconst 0, 1) := by decide +kernel
theorem dX2_copyFrom_40 : decode cX2_copyFrom 40 = .ok (.iconst 5, 1) := by decide +kernel
theorem dX2_copyFrom_41 : decode cX2_copyFrom 41 = .ok (.invokestatic 71, 3) := by decide +kernel
theorem dX2_copyFrom_44 : decode cX2_copyFrom 44 = .ok (.aload_n 1, 1) := by decide +kernel
theorem dX2_copyFrom_45 : decode cX2_copyFrom 45 = .ok (.getfield 43, 3) := by decide +kernel
theorem dX2_copyFrom_48 : decode cX2_copyFrom 48 = .ok (.iconst 0, 1) := by decide +kernel
theorem dX2_copyFrom_49 : decode cX2_copyFrom 49 = .ok (.aload_n 0, 1) := by decide +kernel
theorem dX2_copyFrom_50 : decode cX2_copyFrom 50 = .ok (.getfield 43, 3) := by decide +kernel
theorem dX2_copyFrom_53 : decode cX2_copyFrom 53 = .ok (.iconst 0, 1) := by decide +kernel
theorem dX2_copyFrom_54 : decode cX2_copyFrom 54 = .ok (.iconst 5, 1) := by decide +kernel
theorem dX2_copyFrom_55 : decode cX2_copyFrom 55 = .ok (.invokestatic 71, 3) := by decide +kernel
theorem dX2_copyFrom_58 : decode cX2_copyFrom 58 = .ok (.aload_n 1, 1) := by decide +kernel
theorem dX2_copyFrom_59 : decode cX2_copyFrom 59 = .ok (.getfield 46, 3) := by decide +kernel
theorem dX2_copyFrom_62 : decode cX2_copyFrom 62 = .ok (.iconst 0, 1) := by decide +kernel
theorem dX2_copyFrom_63 : decode cX2_copyFrom 63 = .ok (.aload_n 0, 1) := by decide +kernel
theorem dX2_copyFrom_64 : decode cX2_copyFrom 64 = .ok (.getfield 46, 3) := by decide +kernel
theorem dX2_copyFrom_67 : decode cX2_copyFrom 67 = .ok (.iconst 0, 1) := by decide +kernel
theorem dX2_copyFrom_68 : decode cX2_copyFrom 68 = .ok (.iconst 5, 1) := by decide +kernel
theorem dX2_copyFrom_69 : decode cX2_copyFrom 69 = .ok (.invokestatic 71, 3) := by decide +kernel
theorem dX2_copyFrom_72 : decode cX2_copyFrom 72 = .ok (.aload_n 1, 1) := by decide +kernel
theorem dX2_copyFrom_73 : decode cX2_copyFrom 73 = .ok (.getfield 49, 3) := by decide +kernel
theorem dX2_copyFrom_76 : decode cX2_copyFrom 76 = .ok (.iconst 0, 1) := by decide +kernel
theorem dX2_copyFrom_77 : decode cX2_copyFrom 77 = .ok (.aload_n 0, 1) := by decide +kernel
theorem dX2_copyFrom_78 : decode cX2_copyFrom 78 = .ok (.getfield 49, 3) := by decide +kernel
theorem dX2_copyFrom_81 : decode cX2_copyFrom 81 = .ok (.iconst 0, 1) := by decide +kernel
theorem dX2_copyFrom_82 : decode cX2_copyFrom 82 = .ok (.iconst 5, 1) := by decide +kernel
theorem dX2_copyFrom_83 : decode cX2_copyFrom 83 = .ok (.invokestatic 71, 3) := by decide +kernel
theorem dX2_copyFrom_86 : decode cX2_copyFrom 86 = .ok (.aload_n 1, 1) := by decide +kernel
theorem dX2_copyFrom_87 : decode cX2_copyFrom 87 = .ok (.getfield 52, 3) := by decide +kernel
theorem dX2_copyFrom_90 : decode cX2_copyFrom 90 = .ok (.iconst 0, 1) := by decide +kernel
theorem dX2_copyFrom_91 : decode cX2_copyFrom 91 = .ok (.aload_n 0, 1) := by decide +kernel
theorem dX2_copyFrom_92 : decode cX2_copyFrom 92 = .ok (.getfield 52, 3) := by decide +kernel
theorem dX2_copyFrom_95 : decode cX2_copyFrom 95 = .ok (.iconst 0, 1) := by decide +kernel
theorem dX2_copyFrom_96 : decode cX2_copyFrom 96 = .ok (.iconst 5, 1) := by decide +kernel
theorem dX2_copyFrom_97 : decode cX2_copyFrom 97 = .ok (.invokestatic 71, 3) := by decide +kernel
theorem dX2_copyFrom_100 : decode cX2_copyFrom 100 = .ok (.aload_n 1, 1) := by decide +kernel
theorem dX2_copyFrom_101 : decode cX2_copyFrom 101 = .ok (.getfield 55, 3) := by decide +kernel
theorem dX2_copyFrom_104 : decode cX2_copyFrom 104 = .ok (.iconst 0, 1) := by decide +kernel
theorem dX2_copyFrom_105 : decode cX2_copyFrom 105 = .ok (.aload_n 0, 1) := by decide +kernel
theorem dX2_copyFrom_106 : decode cX2_copyFrom 106 = .ok (.getfield 55, 3) := by decide +kernel
theorem dX2_copyFrom_109 : decode cX2_copyFrom 109 = .ok (.iconst 0, 1) := by decide +kernel
theorem dX2_copyFrom_110 : decode cX2_copyFrom 110 = .ok (.bipush 20, 2) := by decide +kernel
theorem dX2_copyFrom_112 : decode cX2_copyFrom 112 = .ok (.invokestatic 71, 3) := by decide +kernel
theorem dX2_copyFrom_115 : decode cX2_copyFrom 115 = .ok (.aload_n 0, 1) := by decide +kernel
theorem dX2_copyFrom_116 : decode cX2_copyFrom 116 = .ok (.aload_n 1, 1) := by decide +kernel
theorem dX2_copyFrom_117 : decode cX2_copyFrom 117 = .ok (.getfield 61, 3) := by decide +kernel
theorem dX2_copyFrom_120 : decode cX2_copyFrom 120 = .ok (.putfield 61, 3) := by decide +kernel
theorem dX2_copyFrom_123 : decode cX2_copyFrom 123 = .ok (.aload_n 0, 1) := by decide +kernel
theorem dX2_copyFrom_124 : decode cX2_copyFrom 124 = .ok (.aload_n 1, 1) := by decide +kernel
theorem dX2_copyFrom_125 : decode cX2_copyFrom 125 = .ok (.getfield 65, 3) := by decide +kernel
theorem dX2_copyFrom_128 : decode cX2_copyFrom 128 = .ok (.putfield 65, 3) := by decide +kernel
theorem dX2_copyFrom_131 : decode cX2_copyFrom 131 = .ok (.return_, 1) := by decide +kernel
theorem dX2_addStair_0 : decode cX2_addStair 0 = .ok (.aload_n 0, 1) := by decide +kernel
theorem dX2_addStair_1 : decode cX2_addStair 1 = .ok (.getfield 33, 3) := by decide +kernel
theorem dX2_addStair_4 : decode cX2_addStair 4 = .ok (.iload_n 1, 1) := by decide +kernel
theorem dX2_addStair_5 : decode cX2_addStair 5 = .ok (.iload_n 2, 1) := by decide +kernel
theorem dX2_addStair_6 : decode cX2_addStair 6 = .ok (.invokestatic 77, 3) := by decide +kernel
theorem dX2_addStair_9 : decode cX2_addStair 9 = .ok (.iaload, 1) := by decide +kernel
theorem dX2_addStair_10 : decode cX2_addStair 10 = .ok (.istore 4, 2) := by decide +kernel
theorem dX2_addStair_12 : decode cX2_addStair 12 = .ok (.aload_n 0, 1) := by decide +kernel
theorem dX2_addStair_13 : decode cX2_addStair 13 = .ok (.getfield 33, 3) := by decide +kernel
theorem dX2_addStair_16 : decode cX2_addStair 16 = .ok (.iload_n 1, 1) := by decide +kernel
theorem dX2_addStair_17 : decode cX2_addStair 17 = .ok (.iload_n 2, 1) := by decide +kernel
theorem dX2_addStair_18 : decode cX2_addStair 18 = .ok (.invokestatic 77, 3) := by decide +kernel
theorem dX2_addStair_21 : decode cX2_addStair 21 = .ok (.iload_n 3, 1) := by decide +kernel
theorem dX2_addStair_22 : decode cX2_addStair 22 = .ok (.iastore, 1) := by decide +kernel
theorem dX2_addStair_23 : decode cX2_addStair 23 = .ok (.aload_n 0, 1) := by decide +kernel
theorem dX2_addStair_24 : decode cX2_addStair 24 = .ok (.getfield 33, 3) := by decide +kernel
theorem dX2_addStair_27 : decode cX2_addStair 27 = .ok (.iload_n 2, 1) := by decide +kernel
theorem dX2_addStair_28 : decode cX2_addStair 28 = .ok (.iload_n 1, 1) := by decide +kernel
theorem dX2_addStair_29 : decode cX2_addStair 29 = .ok (.invokestatic 77, 3) := by decide +kernel
theorem dX2_addStair_32 : decode cX2_addStair 32 = .ok (.iload_n 3, 1) := by decide +kernel
theorem dX2_addStair_33 : decode cX2_addStair 33 = .ok (.iastore, 1) := by decide +kernel
theorem dX2_addStair_34 : decode cX2_addStair 34 = .ok (.iload 4, 2) := by decide +kernel
theorem dX2_addStair_36 : decode cX2_addStair 36 = .ok (.iconst (-1), 1) := by decide +kernel
theorem dX2_addStair_37 : decode cX2_addStair 37 = .ok (.if_icmp .ne 7, 3) := by decide +kernel
theorem dX2_addStair_40 : decode cX2_addStair 40 = .ok (.aload_n 0, 1) := by decide +kernel
theorem dX2_addStair_41 : decode cX2_addStair 41 = .ok (.invokevirtual 68, 3) := by decide +kernel
theorem dX2_addStair_44 : decode cX2_addStair 44 = .ok (.iload 4, 2) := by decide +kernel
theorem dX2_addStair_46 : decode cX2_addStair 46 = .ok (.ireturn, 1) := by decide +kernel
theorem dX2_addSleeper_0 : decode cX2_addSleeper 0 = .ok (.aload_n 0, 1) := by decide +kernel
theorem dX2_addSleeper_1 : decode cX2_addSleeper 1 = .ok (.getfield 40, 3) := by decide +kernel
theorem dX2_addSleeper_4 : decode cX2_addSleeper 4 = .ok (.aload_n 0, 1) := by decide +kernel
theorem dX2_addSleeper_5 : decode cX2_addSleeper 5 = .ok (.getfield 61, 3) := by decide +kernel
theorem dX2_addSleeper_8 : decode cX2_addSleeper 8 = .ok (.iload_n 1, 1) := by decide +kernel
theorem dX2_addSleeper_9 : decode cX2_addSleeper 9 = .ok (.iastore, 1) := by decide +kernel
theorem dX2_addSleeper_10 : decode cX2_addSleeper 10 = .ok (.aload_n 0, 1) := by decide +kernel
theorem dX2_addSleeper_11 : decode cX2_addSleeper 11 = .ok (.getfield 43, 3) := by decide +kernel
theorem dX2_addSleeper_14 : decode cX2_addSleeper 14 = .ok (.aload_n 0, 1) := by decide +kernel
theorem dX2_addSleeper_15 : decode cX2_addSleeper 15 = .ok (.getfield 61, 3) := by decide +kernel
theorem dX2_addSleeper_18 : decode cX2_addSleeper 18 = .ok (.iload_n 2, 1) := by decide +kernel
theorem dX2_addSleeper_19 : decode cX2_addSleeper 19 = .ok (.iastore, 1) := by decide +kernel
theorem dX2_addSleeper_20 : decode cX2_addSleeper 20 = .ok (.aload_n 0, 1) := by decide +kernel
theorem dX2_addSleeper_21 : decode cX2_addSleeper 21 = .ok (.getfield 46, 3) := by decide +kernel
theorem dX2_addSleeper_24 : decode cX2_addSleeper 24 = .ok (.aload_n 0, 1) := by decide +kernel
theorem dX2_addSleeper_25 : decode cX2_addSleeper 25 = .ok (.getfield 61, 3) := by decide +kernel
theorem dX2_addSleeper_28 : decode cX2_addSleeper 28 = .ok (.iload_n 3, 1) := by decide +kernel
theorem dX2_addSleeper_29 : decode cX2_addSleeper 29 = .ok (.iastore, 1) := by decide +kernel
theorem dX2_addSleeper_30 : decode cX2_addSleeper 30 = .ok (.aload_n 0, 1) := by decide +kernel
theorem dX2_addSleeper_31 : decode cX2_addSleeper 31 = .ok (.dup, 1) := by decide +kernel
theorem dX2_addSleeper_32 : decode cX2_addSleeper 32 = .ok (.getfield 61, 3) := by decide +kernel
theorem dX2_addSleeper_35 : decode cX2_addSleeper 35 = .ok (.iconst 1, 1) := by decide +kernel
theorem dX2_addSleeper_36 : decode cX2_addSleeper 36 = .ok (.iadd, 1) := by decide +kernel
theorem dX2_addSleeper_37 : decode cX2_addSleeper 37 = .ok (.putfield 61, 3) := by decide +kernel
theorem dX2_addSleeper_40 : decode cX2_addSleeper 40 = .ok (.aload_n 0, 1) := by decide +kernel
theorem dX2_addSleeper_41 : decode cX2_addSleeper 41 = .ok (.getfield 61, 3) := by decide +kernel
theorem dX2_addSleeper_44 : decode cX2_addSleeper 44 = .ok (.iconst 1, 1) := by decide +kernel
theorem dX2_addSleeper_45 : decode cX2_addSleeper 45 = .ok (.isub, 1) := by decide +kernel
theorem dX2_addSleeper_46 : decode cX2_addSleeper 46 = .ok (.ireturn, 1) := by decide +kernel
theorem dX2_addThing_0 : decode cX2_addThing 0 = .ok (.aload_n 0, 1) := by decide +kernel
theorem dX2_addThing_1 : decode cX2_addThing 1 = .ok (.getfield 49, 3) := by decide +kernel
theorem dX2_addThing_4 : decode cX2_addThing 4 = .ok (.aload_n 0, 1) := by decide +kernel
theorem dX2_addThing_5 : decode cX2_addThing 5 = .ok (.getfield 65, 3) := by decide +kernel
theorem dX2_addThing_8 : decode cX2_addThing 8 = .ok (.iload_n 1, 1) := by decide +kernel
theorem dX2_addThing_9 : decode cX2_addThing 9 = .ok (.iastore, 1) := by decide +kernel
theorem dX2_addThing_10 : decode cX2_addThing 10 = .ok (.aload_n 0, 1) := by decide +kernel
theorem dX2_addThing_11 : decode cX2_addThing 11 = .ok (.getfield 52, 3) := by decide +kernel
theorem dX2_addThing_14 : decode cX2_addThing 14 = .ok (.aload_n 0, 1) := by decide +kernel
theorem dX2_addThing_15 : decode cX2_addThing 15 = .ok (.getfield 65, 3) := by decide +kernel
theorem dX2_addThing_18 : decode cX2_addThing 18 = .ok (.iconst 0, 1) := by decide +kernel
theorem dX2_addThing_19 : decode cX2_addThing 19 = .ok (.iastore, 1) := by decide +kernel
theorem dX2_addThing_20 : decode cX2_addThing 20 = .ok (.aload_n 0, 1) := by decide +kernel
theorem dX2_addThing_21 : decode cX2_addThing 21 = .ok (.dup, 1) := by decide +kernel
theorem dX2_addThing_22 : decode cX2_addThing 22 = .ok (.getfield 65, 3) := by decide +kernel
theorem dX2_addThing_25 : decode cX2_addThing 25 = .ok (.iconst 1, 1) := by decide +kernel
theorem dX2_addThing_26 : decode cX2_addThing 26 = .ok (.iadd, 1) := by decide +kernel
theorem dX2_addThing_27 : decode cX2_addThing 27 = .ok (.putfield 65, 3) := by decide +kernel
theorem dX2_addThing_30 : decode cX2_addThing 30 = .ok (.aload_n 0, 1) := by decide +kernel
theorem dX2_addThing_31 : decode cX2_addThing 31 = .ok (.getfield 65, 3) := by decide +kernel
theorem dX2_addThing_34 : decode cX2_addThing 34 = .ok (.iconst 1, 1) := by decide +kernel
theorem dX2_addThing_35 : decode cX2_addThing 35 = .ok (.isub, 1) := by decide +kernel
theorem dX2_addThing_36 : decode cX2_addThing 36 = .ok (.ireturn, 1) := by decide +kernel
theorem dX2_addOwner_0 : decode cX2_addOwner 0 = .ok (.aload_n 0, 1) := by decide +kernel
theorem dX2_addOwner_1 : decode cX2_addOwner 1 = .ok (.getfield 55, 3) := by decide +kernel
theorem dX2_addOwner_4 : decode cX2_addOwner 4 = .ok (.iload_n 1, 1) := by decide +kernel
theorem dX2_addOwner_5 : decode cX2_addOwner 5 = .ok (.iconst 4, 1) := by decide +kernel
theorem dX2_addOwner_6 : decode cX2_addOwner 6 = .ok (.imul, 1) := by decide +kernel
theorem dX2_addOwner_7 : decode cX2_addOwner 7 = .ok (.aload_n 0, 1) := by decide +kernel
theorem dX2_addOwner_8 : decode cX2_addOwner 8 = .ok (.getfield 52, 3) := by decide +kernel
theorem dX2_addOwner_11 : decode cX2_addOwner 11 = .ok (.iload_n 1, 1) := by decide +kernel
theorem dX2_addOwner_12 : decode cX2_addOwner 12 = .ok (.iaload, 1) := by decide +kernel
theorem dX2_addOwner_13 : decode cX2_addOwner 13 = .ok (.iadd, 1) := by decide +kernel
theorem dX2_addOwner_14 : decode cX2_addOwner 14 = .ok (.iload_n 2, 1) := by decide +kernel
theorem dX2_addOwner_15 : decode cX2_addOwner 15 = .ok (.iastore, 1) := by decide +kernel
theorem dX2_addOwner_16 : decode cX2_addOwner 16 = .ok (.aload_n 0, 1) := by decide +kernel
theorem dX2_addOwner_17 : decode cX2_addOwner 17 = .ok (.getfield 52, 3) := by decide +kernel
theorem dX2_addOwner_20 : decode cX2_addOwner 20 = .ok (.iload_n 1, 1) := by decide +kernel
theorem dX2_addOwner_21 : decode cX2_addOwner 21 = .ok (.dup2, 1) := by decide +kernel
theorem dX2_addOwner_22 : decode cX2_addOwner 22 = .ok (.iaload, 1) := by decide +kernel
theorem dX2_addOwner_23 : decode cX2_addOwner 23 = .ok (.iconst 1, 1) := by decide +kernel
theorem dX2_addOwner_24 : decode cX2_addOwner 24 = .ok (.iadd, 1) := by decide +kernel
theorem dX2_addOwner_25 : decode cX2_addOwner 25 = .ok (.iastore, 1) := by decide +kernel
theorem dX2_addOwner_26 : decode cX2_addOwner 26 = .ok (.aload_n 0, 1) := by decide +kernel
theorem dX2_addOwner_27 : decode cX2_addOwner 27 = .ok (.getfield 52, 3) := by decide +kernel
theorem dX2_addOwner_30 : decode cX2_addOwner 30 = .ok (.iload_n 1, 1) := by decide +kernel
theorem dX2_addOwner_31 : decode cX2_addOwner 31 = .ok (.iaload, 1) := by decide +kernel
theorem dX2_addOwner_32 : decode cX2_addOwner 32 = .ok (.ireturn, 1) := by decide +kernel
theorem dX2_lastOwner_0 : decode cX2_lastOwner 0 = .ok (.aload_n 0, 1) := by decide +kernel
theorem dX2_lastOwner_1 : decode cX2_lastOwner 1 = .ok (.getfield 52, 3) := by decide +kernel
theorem dX2_lastOwner_4 : decode cX2_lastOwner 4 = .ok (.iload_n 1, 1) := by decide +kernel
theorem dX2_lastOwner_5 : decode cX2_lastOwner 5 = .ok (.iaload, 1) := by decide +kernel
theorem dX2_lastOwner_6 : decode cX2_lastOwner 6 = .ok (.istore_n 2, 1) := by decide +kernel
theorem dX2_lastOwner_7 : decode cX2_lastOwner 7 = .ok (.iload_n 2, 1) := by decide +kernel
theorem dX2_lastOwner_8 : decode cX2_lastOwner 8 = .ok (.ifCond .ne 7, 3) := by decide +kernel
theorem dX2_lastOwner_11 : decode cX2_lastOwner 11 = .ok (.iconst (-1), 1) := by decide +kernel
theorem dX2_lastOwner_12 : decode cX2_lastOwner 12 = .ok (.goto 15, 3) := by decide +kernel
theorem dX2_lastOwner_15 : decode cX2_lastOwner 15 = .ok (.aload_n 0, 1) := by decide +kernel
theorem dX2_lastOwner_16 : decode cX2_lastOwner 16 = .ok (.getfield 55, 3) := by decide +kernel
theorem dX2_lastOwner_19 : decode cX2_lastOwner 19 = .ok (.iload_n 1, 1) := by decide +kernel
theorem dX2_lastOwner_20 : decode cX2_lastOwner 20 = .ok (.iconst 4, 1) := by decide +kernel
theorem dX2_lastOwner_21 : decode cX2_lastOwner 21 = .ok (.imul, 1) := by decide +kernel
theorem dX2_lastOwner_22 : decode cX2_lastOwner 22 = .ok (.iload_n 2, 1) := by decide +kernel
theorem dX2_lastOwner_23 : decode cX2_lastOwner 23 = .ok (.iadd, 1) := by decide +kernel
theorem dX2_lastOwner_24 : decode cX2_lastOwner 24 = .ok (.iconst 1, 1) := by decide +kernel
theorem dX2_lastOwner_25 : decode cX2_lastOwner 25 = .ok (.isub, 1) := by decide +kernel
theorem dX2_lastOwner_26 : decode cX2_lastOwner 26 = .ok (.iaload, 1) := by decide +kernel
theorem dX2_lastOwner_27 : decode cX2_lastOwner 27 = .ok (.ireturn, 1) := by decide +kernel
theorem dX2_wasTakenFrom_0 : decode cX2_wasTakenFrom 0 = .ok (.iconst 0, 1) := by decide +kernel
theorem dX2_wasTakenFrom_1 : decode cX2_wasTakenFrom 1 = .ok (.istore_n 3, 1) := by decide +kernel
theorem dX2_wasTakenFrom_2 : decode cX2_wasTakenFrom 2 = .ok (.iload_n 3, 1) := by decide +kernel
theorem dX2_wasTakenFrom_3 : decode cX2_wasTakenFrom 3 = .ok (.aload_n 0, 1) := by decide +kernel
theorem dX2_wasTakenFrom_4 : decode cX2_wasTakenFrom 4 = .ok (.getfield 52, 3) := by decide +kernel
theorem dX2_wasTakenFrom_7 : decode cX2_wasTakenFrom 7 = .ok (.iload_n 1, 1) := by decide +kernel
theorem dX2_wasTakenFrom_8 : decode cX2_wasTakenFrom 8 = .ok (.iaload, 1) := by decide +kernel
theorem dX2_wasTakenFrom_9 : decode cX2_wasTakenFrom 9 = .ok (.iconst 1, 1) := by decide +kernel
theorem dX2_wasTakenFrom_10 : decode cX2_wasTakenFrom 10 = .ok (.isub, 1) := by decide +kernel
theorem dX2_wasTakenFrom_11 : decode cX2_wasTakenFrom 11 = .ok (.if_icmp .ge 25, 3) := by decide +kernel
theorem dX2_wasTakenFrom_14 : decode cX2_wasTakenFrom 14 = .ok (.aload_n 0, 1) := by decide +kernel
theorem dX2_wasTakenFrom_15 : decode cX2_wasTakenFrom 15 = .ok (.getfield 55, 3) := by decide +kernel
theorem dX2_wasTakenFrom_18 : decode cX2_wasTakenFrom 18 = .ok (.iload_n 1, 1) := by decide +kernel
theorem dX2_wasTakenFrom_19 : decode cX2_wasTakenFrom 19 = .ok (.iconst 4, 1) := by decide +kernel
theorem dX2_wasTakenFrom_20 : decode cX2_wasTakenFrom 20 = .ok (.imul, 1) := by decide +kernel
theorem dX2_wasTakenFrom_21 : decode cX2_wasTakenFrom 21 = .ok (.iload_n 3, 1) := by decide +kernel
theorem dX2_wasTakenFrom_22 : decode cX2_wasTakenFrom 22 = .ok (.iadd, 1) := by decide +kernel
theorem dX2_wasTakenFrom_23 : decode cX2_wasTakenFrom 23 = .ok (.iaload, 1) := by decide +kernel
theorem dX2_wasTakenFrom_24 : decode cX2_wasTakenFrom 24 = .ok (.iload_n 2, 1) := by decide +kernel
theorem dX2_wasTakenFrom_25 : decode cX2_wasTakenFrom 25 = .ok (.if_icmp .ne 5, 3) := by decide +kernel
theorem dX2_wasTakenFrom_28 : decode cX2_wasTakenFrom 28 = .ok (.iconst 1, 1) := by decide +kernel
theorem dX2_wasTakenFrom_29 : decode cX2_wasTakenFrom 29 = .ok (.ireturn, 1) := by decide +kernel
theorem dX2_wasTakenFrom_30 : decode cX2_wasTakenFrom 30 = .ok (.iinc 3 1, 3) := by decide +kernel
theorem dX2_wasTakenFrom_33 : decode cX2_wasTakenFrom 33 = .ok (.goto (-31), 3) := by decide +kernel
theorem dX2_wasTakenFrom_36 : decode cX2_wasTakenFrom 36 = .ok (.iconst 0, 1) := by decide +kernel
theorem dX2_wasTakenFrom_37 : decode cX2_wasTakenFrom 37 = .ok (.ireturn, 1) := by decide +kernel
theorem dX2_measure_0 : decode cX2_measure 0 = .ok (.iconst 0, 1) := by decide +kernel
theorem dX2_measure_1 : decode cX2_measure 1 = .ok (.istore_n 1, 1) := by decide +kernel
theorem dX2_measure_2 : decode cX2_measure 2 = .ok (.iload_n 1, 1) := by decide +kernel
theorem dX2_measure_3 : decode cX2_measure 3 = .ok (.bipush 8, 2) := by decide +kernel
theorem dX2_measure_5 : decode cX2_measure 5 = .ok (.if_icmp .ge 64, 3) := by decide +kernel
theorem dX2_measure_8 : decode cX2_measure 8 = .ok (.iconst 0, 1) := by decide +kernel
theorem dX2_measure_9 : decode cX2_measure 9 = .ok (.istore_n 2, 1) := by decide +kernel
theorem dX2_measure_10 : decode cX2_measure 10 = .ok (.iload_n 2, 1) := by decide +kernel
theorem dX2_measure_11 : decode cX2_measure 11 = .ok (.bipush 8, 2) := by decide +kernel
theorem dX2_measure_13 : decode cX2_measure 13 = .ok (.if_icmp .ge 50, 3) := by decide +kernel
theorem dX2_measure_16 : decode cX2_measure 16 = .ok (.aload_n 0, 1) := by decide +kernel
theorem dX2_measure_17 : decode cX2_measure 17 = .ok (.getfield 33, 3) := by decide +kernel
theorem dX2_measure_20 : decode cX2_measure 20 = .ok (.iload_n 1, 1) := by decide +kernel
theorem dX2_measure_21 : decode cX2_measure 21 = .ok (.iload_n 2, 1) := by decide +kernel
theorem dX2_measure_22 : decode cX2_measure 22 = .ok (.invokestatic 77, 3) := by decide +kernel
theorem dX2_measure_25 : decode cX2_measure 25 = .ok (.iaload, 1) := by decide +kernel
theorem dX2_measure_26 : decode cX2_measure 26 = .ok (.iconst (-1), 1) := by decide +kernel
theorem dX2_measure_27 : decode cX2_measure 27 = .ok (.if_icmp .ne 8, 3) := by decide +kernel
theorem dX2_measure_30 : decode cX2_measure 30 = .ok (.bipush 100, 2) := by decide +kernel
theorem dX2_measure_32 : decode cX2_measure 32 = .ok (.goto 4, 3) := by decide +kernel
theorem dX2_measure_35 : decode cX2_measure 35 = .ok (.iconst 1, 1) := by decide +kernel
theorem dX2_measure_36 : decode cX2_measure 36 = .ok (.istore_n 3, 1) := by decide +kernel
theorem dX2_measure_37 : decode cX2_measure 37 = .ok (.aload_n 0, 1) := by decide +kernel
theorem dX2_measure_38 : decode cX2_measure 38 = .ok (.getfield 37, 3) := by decide +kernel
theorem dX2_measure_41 : decode cX2_measure 41 = .ok (.iload_n 1, 1) := by decide +kernel
theorem dX2_measure_42 : decode cX2_measure 42 = .ok (.iload_n 2, 1) := by decide +kernel
theorem dX2_measure_43 : decode cX2_measure 43 = .ok (.invokestatic 77, 3) := by decide +kernel
theorem dX2_measure_46 : decode cX2_measure 46 = .ok (.iload_n 1, 1) := by decide +kernel
theorem dX2_measure_47 : decode cX2_measure 47 = .ok (.iload_n 2, 1) := by decide +kernel
theorem dX2_measure_48 : decode cX2_measure 48 = .ok (.if_icmp .ne 7, 3) := by decide +kernel
theorem dX2_measure_51 : decode cX2_measure 51 = .ok (.iconst 0, 1) := by decide +kernel
theorem dX2_measure_52 : decode cX2_measure 52 = .ok (.goto 4, 3) := by decide +kernel
theorem dX2_measure_55 : decode cX2_measure 55 = .ok (.iload_n 3, 1) := by decide +kernel
theorem dX2_measure_56 : decode cX2_measure 56 = .ok (.iastore, 1) := by decide +kernel
theorem dX2_measure_57 : decode cX2_measure 57 = .ok (.iinc 2 1, 3) := by decide +kernel
theorem dX2_measure_60 : decode cX2_measure 60 = .ok (.goto (-50), 3) := by decide +kernel
theorem dX2_measure_63 : decode cX2_measure 63 = .ok (.iinc 1 1, 3) := by decide +kernel
theorem dX2_measure_66 : decode cX2_measure 66 = .ok (.goto (-64), 3) := by decide +kernel
theorem dX2_measure_69 : decode cX2_measure 69 = .ok (.iconst 0, 1) := by decide +kernel
theorem dX2_measure_70 : decode cX2_measure 70 = .ok (.istore_n 1, 1) := by decide +kernel
theorem dX2_measure_71 : decode cX2_measure 71 = .ok (.iload_n 1, 1) := by decide +kernel
theorem dX2_measure_72 : decode cX2_measure 72 = .ok (.bipush 8, 2) := by decide +kernel
theorem dX2_measure_74 : decode cX2_measure 74 = .ok (.if_icmp .ge 85, 3) := by decide +kernel
theorem dX2_measure_77 : decode cX2_measure 77 = .ok (.iconst 0, 1) := by decide +kernel
theorem dX2_measure_78 : decode cX2_measure 78 = .ok (.istore_n 2, 1) := by decide +kernel
theorem dX2_measure_79 : decode cX2_measure 79 = .ok (.iload_n 2, 1) := by decide +kernel
theorem dX2_measure_80 : decode cX2_measure 80 = .ok (.bipush 8, 2) := by decide +kernel
theorem dX2_measure_82 : decode cX2_measure 82 = .ok (.if_icmp .ge 71, 3) := by decide +kernel
theorem dX2_measure_85 : decode cX2_measure 85 = .ok (.iconst 0, 1) := by decide +kernel
theorem dX2_measure_86 : decode cX2_measure 86 = .ok (.istore_n 3, 1) := by decide +kernel
theorem dX2_measure_87 : decode cX2_measure 87 = .ok (.iload_n 3, 1) := by decide +kernel
theorem dX2_measure_88 : decode cX2_measure 88 = .ok (.bipush 8, 2) := by decide +kernel
theorem dX2_measure_90 : decode cX2_measure 90 = .ok (.if_icmp .ge 57, 3) := by decide +kernel
theorem dX2_measure_93 : decode cX2_measure 93 = .ok (.aload_n 0, 1) := by decide +kernel
theorem dX2_measure_94 : decode cX2_measure 94 = .ok (.getfield 37, 3) := by decide +kernel
theorem dX2_measure_97 : decode cX2_measure 97 = .ok (.iload_n 2, 1) := by decide +kernel
theorem dX2_measure_98 : decode cX2_measure 98 = .ok (.iload_n 1, 1) := by decide +kernel
theorem dX2_measure_99 : decode cX2_measure 99 = .ok (.invokestatic 77, 3) := by decide +kernel
theorem dX2_measure_102 : decode cX2_measure 102 = .ok (.iaload, 1) := by decide +kernel
theorem dX2_measure_103 : decode cX2_measure 103 = .ok (.aload_n 0, 1) := by decide +kernel
theorem dX2_measure_104 : decode cX2_measure 104 = .ok (.getfield 37, 3) := by decide +kernel
theorem dX2_measure_107 : decode cX2_measure 107 = .ok (.iload_n 1, 1) := by decide +kernel
theorem dX2_measure_108 : decode cX2_measure 108 = .ok (.iload_n 3, 1) := by decide +kernel
theorem dX2_measure_109 : decode cX2_measure 109 = .ok (.invokestatic 77, 3) := by decide +kernel
theorem dX2_measure_112 : decode cX2_measure 112 = .ok (.iaload, 1) := by decide +kernel
theorem dX2_measure_113 : decode cX2_measure 113 = .ok (.iadd, 1) := by decide +kernel
theorem dX2_measure_114 : decode cX2_measure 114 = .ok (.istore 4, 2) := by decide +kernel
theorem dX2_measure_116 : decode cX2_measure 116 = .ok (.aload_n 0, 1) := by decide +kernel
theorem dX2_measure_117 : decode cX2_measure 117 = .ok (.getfield 37, 3) := by decide +kernel
theorem dX2_measure_120 : decode cX2_measure 120 = .ok (.iload_n 2, 1) := by decide +kernel
theorem dX2_measure_121 : decode cX2_measure 121 = .ok (.iload_n 3, 1) := by decide +kernel
theorem dX2_measure_122 : decode cX2_measure 122 = .ok (.invokestatic 77, 3) := by decide +kernel
theorem dX2_measure_125 : decode cX2_measure 125 = .ok (.aload_n 0, 1) := by decide +kernel
theorem dX2_measure_126 : decode cX2_measure 126 = .ok (.getfield 37, 3) := by decide +kernel
theorem dX2_measure_129 : decode cX2_measure 129 = .ok (.iload_n 2, 1) := by decide +kernel
theorem dX2_measure_130 : decode cX2_measure 130 = .ok (.iload_n 3, 1) := by decide +kernel
theorem dX2_measure_131 : decode cX2_measure 131 = .ok (.invokestatic 77, 3) := by decide +kernel
theorem dX2_measure_134 : decode cX2_measure 134 = .ok (.iaload, 1) := by decide +kernel
theorem dX2_measure_135 : decode cX2_measure 135 = .ok (.iload 4, 2) := by decide +kernel
theorem dX2_measure_137 : decode cX2_measure 137 = .ok (.invokestatic 81, 3) := by decide +kernel
theorem dX2_measure_140 : decode cX2_measure 140 = .ok (.iastore, 1) := by decide +kernel
theorem dX2_measure_141 : decode cX2_measure 141 = .ok (.iinc 3 1, 3) := by decide +kernel
theorem dX2_measure_144 : decode cX2_measure 144 = .ok (.goto (-57), 3) := by decide +kernel
theorem dX2_measure_147 : decode cX2_measure 147 = .ok (.iinc 2 1, 3) := by decide +kernel
theorem dX2_measure_150 : decode cX2_measure 150 = .ok (.goto (-71), 3) := by decide +kernel
theorem dX2_measure_153 : decode cX2_measure 153 = .ok (.iinc 1 1, 3) := by decide +kernel
theorem dX2_measure_156 : decode cX2_measure 156 = .ok (.goto (-85), 3) := by decide +kernel
theorem dX2_measure_159 : decode cX2_measure 159 = .ok (.return_, 1) := by decide +kernel
theorem dX2_leastNoise_0 : decode cX2_leastNoise 0 = .ok (.aload_n 0, 1) := by decide +kernel
theorem dX2_leastNoise_1 : decode cX2_leastNoise 1 = .ok (.getfield 27, 3) := by decide +kernel
theorem dX2_leastNoise_4 : decode cX2_leastNoise 4 = .ok (.aload_n 0, 1) := by decide +kernel
theorem dX2_leastNoise_5 : decode cX2_leastNoise 5 = .ok (.getfield 40, 3) := by decide +kernel
theorem dX2_leastNoise_8 : decode cX2_leastNoise 8 = .ok (.iload_n 1, 1) := by decide +kernel
theorem dX2_leastNoise_9 : decode cX2_leastNoise 9 = .ok (.iaload, 1) := by decide +kernel
theorem dX2_leastNoise_10 : decode cX2_leastNoise 10 = .ok (.aaload, 1) := by decide +kernel
theorem dX2_leastNoise_11 : decode cX2_leastNoise 11 = .ok (.astore 4, 2) := by decide +kernel
theorem dX2_leastNoise_13 : decode cX2_leastNoise 13 = .ok (.aload 4, 2) := by decide +kernel
theorem dX2_leastNoise_15 : decode cX2_leastNoise 15 = .ok (.aload_n 0, 1) := by decide +kernel
theorem dX2_leastNoise_16 : decode cX2_leastNoise 16 = .ok (.getfield 46, 3) := by decide +kernel
theorem dX2_leastNoise_19 : decode cX2_leastNoise 19 = .ok (.iload_n 1, 1) := by decide +kernel
theorem dX2_leastNoise_20 : decode cX2_leastNoise 20 = .ok (.iaload, 1) := by decide +kernel
theorem dX2_leastNoise_21 : decode cX2_leastNoise 21 = .ok (.iload_n 3, 1) := by decide +kernel
theorem dX2_leastNoise_22 : decode cX2_leastNoise 22 = .ok (.aload_n 0, 1) := by decide +kernel
theorem dX2_leastNoise_23 : decode cX2_leastNoise 23 = .ok (.getfield 43, 3) := by decide +kernel
theorem dX2_leastNoise_26 : decode cX2_leastNoise 26 = .ok (.iload_n 1, 1) := by decide +kernel
theorem dX2_leastNoise_27 : decode cX2_leastNoise 27 = .ok (.iaload, 1) := by decide +kernel
theorem dX2_leastNoise_28 : decode cX2_leastNoise 28 = .ok (.iload_n 2, 1) := by decide +kernel
theorem dX2_leastNoise_29 : decode cX2_leastNoise 29 = .ok (.if_icmp .ne 7, 3) := by decide +kernel
theorem dX2_leastNoise_32 : decode cX2_leastNoise 32 = .ok (.iconst 1, 1) := by decide +kernel
theorem dX2_leastNoise_33 : decode cX2_leastNoise 33 = .ok (.goto 4, 3) := by decide +kernel
theorem dX2_leastNoise_36 : decode cX2_leastNoise 36 = .ok (.iconst 0, 1) := by decide +kernel
theorem dX2_leastNoise_37 : decode cX2_leastNoise 37 = .ok (.invokevirtual 86, 3) := by decide +kernel
theorem dX2_leastNoise_40 : decode cX2_leastNoise 40 = .ok (.istore 5, 2) := by decide +kernel
theorem dX2_leastNoise_42 : decode cX2_leastNoise 42 = .ok (.iload 5, 2) := by decide +kernel
theorem dX2_leastNoise_44 : decode cX2_leastNoise 44 = .ok (.iconst 2, 1) := by decide +kernel
theorem dX2_leastNoise_45 : decode cX2_leastNoise 45 = .ok (.aload_n 0, 1) := by decide +kernel
theorem dX2_leastNoise_46 : decode cX2_leastNoise 46 = .ok (.getfield 37, 3) := by decide +kernel
theorem dX2_leastNoise_49 : decode cX2_leastNoise 49 = .ok (.iload_n 2, 1) := by decide +kernel
theorem dX2_leastNoise_50 : decode cX2_leastNoise 50 = .ok (.aload_n 0, 1) := by decide +kernel
theorem dX2_leastNoise_51 : decode cX2_leastNoise 51 = .ok (.getfield 43, 3) := by decide +kernel
theorem dX2_leastNoise_54 : decode cX2_leastNoise 54 = .ok (.iload_n 1, 1) := by decide +kernel
theorem dX2_leastNoise_55 : decode cX2_leastNoise 55 = .ok (.iaload, 1) := by decide +kernel
theorem dX2_leastNoise_56 : decode cX2_leastNoise 56 = .ok (.invokestatic 77, 3) := by decide +kernel
theorem dX2_leastNoise_59 : decode cX2_leastNoise 59 = .ok (.iaload, 1) := by decide +kernel
theorem dX2_leastNoise_60 : decode cX2_leastNoise 60 = .ok (.imul, 1) := by decide +kernel
theorem dX2_leastNoise_61 : decode cX2_leastNoise 61 = .ok (.iadd, 1) := by decide +kernel
theorem dX2_leastNoise_62 : decode cX2_leastNoise 62 = .ok (.ireturn, 1) := by decide +kernel
theorem dX2_wakers_0 : decode cX2_wakers 0 = .ok (.iconst 0, 1) := by decide +kernel
theorem dX2_wakers_1 : decode cX2_wakers 1 = .ok (.istore 4, 2) := by decide +kernel
theorem dX2_wakers_3 : decode cX2_wakers 3 = .ok (.iconst 0, 1) := by decide +kernel
theorem dX2_wakers_4 : decode cX2_wakers 4 = .ok (.istore 5, 2) := by decide +kernel
theorem dX2_wakers_6 : decode cX2_wakers 6 = .ok (.iload 5, 2) := by decide +kernel
theorem dX2_wakers_8 : decode cX2_wakers 8 = .ok (.aload_n 0, 1) := by decide +kernel
theorem dX2_wakers_9 : decode cX2_wakers 9 = .ok (.getfield 61, 3) := by decide +kernel
theorem dX2_wakers_12 : decode cX2_wakers 12 = .ok (.if_icmp .ge 30, 3) := by decide +kernel
theorem dX2_wakers_15 : decode cX2_wakers 15 = .ok (.iload_n 1, 1) := by decide +kernel
theorem dX2_wakers_16 : decode cX2_wakers 16 = .ok (.aload_n 0, 1) := by decide +kernel
theorem dX2_wakers_17 : decode cX2_wakers 17 = .ok (.iload 5, 2) := by decide +kernel
theorem dX2_wakers_19 : decode cX2_wakers 19 = .ok (.iload_n 2, 1) := by decide +kernel
theorem dX2_wakers_20 : decode cX2_wakers 20 = .ok (.iload_n 3, 1) := by decide +kernel
theorem dX2_wakers_21 : decode cX2_wakers 21 = .ok (.invokevirtual 90, 3) := by decide +kernel
theorem dX2_wakers_24 : decode cX2_wakers 24 = .ok (.if_icmp .lt 12, 3) := by decide +kernel
theorem dX2_wakers_27 : decode cX2_wakers 27 = .ok (.iload 4, 2) := by decide +kernel
theorem dX2_wakers_29 : decode cX2_wakers 29 = .ok (.iconst 1, 1) := by decide +kernel
theorem dX2_wakers_30 : decode cX2_wakers 30 = .ok (.iload 5, 2) := by decide +kernel
theorem dX2_wakers_32 : decode cX2_wakers 32 = .ok (.ishl, 1) := by decide +kernel
theorem dX2_wakers_33 : decode cX2_wakers 33 = .ok (.ior, 1) := by decide +kernel
theorem dX2_wakers_34 : decode cX2_wakers 34 = .ok (.istore 4, 2) := by decide +kernel
theorem dX2_wakers_36 : decode cX2_wakers 36 = .ok (.iinc 5 1, 3) := by decide +kernel
theorem dX2_wakers_39 : decode cX2_wakers 39 = .ok (.goto (-33), 3) := by decide +kernel
theorem dX2_wakers_42 : decode cX2_wakers 42 = .ok (.iload 4, 2) := by decide +kernel
theorem dX2_wakers_44 : decode cX2_wakers 44 = .ok (.ireturn, 1) := by decide +kernel
theorem dX2_loudest_0 : decode cX2_loudest 0 = .ok (.bipush 30, 2) := by decide +kernel
theorem dX2_loudest_2 : decode cX2_loudest 2 = .ok (.istore_n 3, 1) := by decide +kernel
theorem dX2_loudest_3 : decode cX2_loudest 3 = .ok (.iconst 0, 1) := by decide +kernel
theorem dX2_loudest_4 : decode cX2_loudest 4 = .ok (.istore 4, 2) := by decide +kernel
theorem dX2_loudest_6 : decode cX2_loudest 6 = .ok (.iload 4, 2) := by decide +kernel
theorem dX2_loudest_8 : decode cX2_loudest 8 = .ok (.aload_n 0, 1) := by decide +kernel
theorem dX2_loudest_9 : decode cX2_loudest 9 = .ok (.getfield 61, 3) := by decide +kernel
theorem dX2_loudest_12 : decode cX2_loudest 12 = .ok (.if_icmp .ge 24, 3) := by decide +kernel
theorem dX2_loudest_15 : decode cX2_loudest 15 = .ok (.iload_n 3, 1) := by decide +kernel
theorem dX2_loudest_16 : decode cX2_loudest 16 = .ok (.aload_n 0, 1) := by decide +kernel
theorem dX2_loudest_17 : decode cX2_loudest 17 = .ok (.iload 4, 2) := by decide +kernel
theorem dX2_loudest_19 : decode cX2_loudest 19 = .ok (.iload_n 1, 1) := by decide +kernel
theorem dX2_loudest_20 : decode cX2_loudest 20 = .ok (.iload_n 2, 1) := by decide +kernel
theorem dX2_loudest_21 : decode cX2_loudest 21 = .ok (.invokevirtual 90, 3) := by decide +kernel
theorem dX2_loudest_24 : decode cX2_loudest 24 = .ok (.iconst 1, 1) := by decide +kernel
theorem dX2_loudest_25 : decode cX2_loudest 25 = .ok (.isub, 1) := by decide +kernel
theorem dX2_loudest_26 : decode cX2_loudest 26 = .ok (.invokestatic 81, 3) := by decide +kernel
theorem dX2_loudest_29 : decode cX2_loudest 29 = .ok (.istore_n 3, 1) := by decide +kernel
theorem dX2_loudest_30 : decode cX2_loudest 30 = .ok (.iinc 4 1, 3) := by decide +kernel
theorem dX2_loudest_33 : decode cX2_loudest 33 = .ok (.goto (-27), 3) := by decide +kernel
theorem dX2_loudest_36 : decode cX2_loudest 36 = .ok (.iload_n 3, 1) := by decide +kernel
theorem dX2_loudest_37 : decode cX2_loudest 37 = .ok (.ireturn, 1) := by decide +kernel
theorem dX2_foldStairs_0 : decode cX2_foldStairs 0 = .ok (.lload_n 1, 1) := by decide +kernel
theorem dX2_foldStairs_1 : decode cX2_foldStairs 1 = .ok (.lstore_n 3, 1) := by decide +kernel
theorem dX2_foldStairs_2 : decode cX2_foldStairs 2 = .ok (.iconst 0, 1) := by decide +kernel
theorem dX2_foldStairs_3 : decode cX2_foldStairs 3 = .ok (.istore 5, 2) := by decide +kernel
theorem dX2_foldStairs_5 : decode cX2_foldStairs 5 = .ok (.iload 5, 2) := by decide +kernel
theorem dX2_foldStairs_7 : decode cX2_foldStairs 7 = .ok (.bipush 8, 2) := by decide +kernel
theorem dX2_foldStairs_9 : decode cX2_foldStairs 9 = .ok (.if_icmp .ge 48, 3) := by decide +kernel
theorem dX2_foldStairs_12 : decode cX2_foldStairs 12 = .ok (.iload 5, 2) := by decide +kernel
theorem dX2_foldStairs_14 : decode cX2_foldStairs 14 = .ok (.iconst 1, 1) := by decide +kernel
theorem dX2_foldStairs_15 : decode cX2_foldStairs 15 = .ok (.iadd, 1) := by decide +kernel
theorem dX2_foldStairs_16 : decode cX2_foldStairs 16 = .ok (.istore 6, 2) := by decide +kernel
theorem dX2_foldStairs_18 : decode cX2_foldStairs 18 = .ok (.iload 6, 2) := by decide +kernel
theorem dX2_foldStairs_20 : decode cX2_foldStairs 20 = .ok (.bipush 8, 2) := by decide +kernel
theorem dX2_foldStairs_22 : decode cX2_foldStairs 22 = .ok (.if_icmp .ge 29, 3) := by decide +kernel
theorem dX2_foldStairs_25 : decode cX2_foldStairs 25 = .ok (.ldc2_w 94, 3) := by decide +kernel
theorem dX2_foldStairs_28 : decode cX2_foldStairs 28 = .ok (.lload_n 3, 1) := by decide +kernel
theorem dX2_foldStairs_29 : decode cX2_foldStairs 29 = .ok (.lmul, 1) := by decide +kernel
theorem dX2_foldStairs_30 : decode cX2_foldStairs 30 = .ok (.aload_n 0, 1) := by decide +kernel
theorem dX2_foldStairs_31 : decode cX2_foldStairs 31 = .ok (.getfield 33, 3) := by decide +kernel
theorem dX2_foldStairs_34 : decode cX2_foldStairs 34 = .ok (.iload 5, 2) := by decide +kernel
theorem dX2_foldStairs_36 : decode cX2_foldStairs 36 = .ok (.iload 6, 2) := by decide +kernel
theorem dX2_foldStairs_38 : decode cX2_foldStairs 38 = .ok (.invokestatic 77, 3) := by decide +kernel
theorem dX2_foldStairs_41 : decode cX2_foldStairs 41 = .ok (.iaload, 1) := by decide +kernel
theorem dX2_foldStairs_42 : decode cX2_foldStairs 42 = .ok (.i2l, 1) := by decide +kernel
theorem dX2_foldStairs_43 : decode cX2_foldStairs 43 = .ok (.ladd, 1) := by decide +kernel
theorem dX2_foldStairs_44 : decode cX2_foldStairs 44 = .ok (.lstore_n 3, 1) := by decide +kernel
theorem dX2_foldStairs_45 : decode cX2_foldStairs 45 = .ok (.iinc 6 1, 3) := by decide +kernel
theorem dX2_foldStairs_48 : decode cX2_foldStairs 48 = .ok (.goto (-30), 3) := by decide +kernel
theorem dX2_foldStairs_51 : decode cX2_foldStairs 51 = .ok (.iinc 5 1, 3) := by decide +kernel
theorem dX2_foldStairs_54 : decode cX2_foldStairs 54 = .ok (.goto (-49), 3) := by decide +kernel
theorem dX2_foldStairs_57 : decode cX2_foldStairs 57 = .ok (.lload_n 3, 1) := by decide +kernel
theorem dX2_foldStairs_58 : decode cX2_foldStairs 58 = .ok (.lreturn, 1) := by decide +kernel
theorem dX2_foldThings_0 : decode cX2_foldThings 0 = .ok (.lload_n 1, 1) := by decide +kernel
theorem dX2_foldThings_1 : decode cX2_foldThings 1 = .ok (.lstore_n 3, 1) := by decide +kernel
theorem dX2_foldThings_2 : decode cX2_foldThings 2 = .ok (.iconst 0, 1) := by decide +kernel
theorem dX2_foldThings_3 : decode cX2_foldThings 3 = .ok (.istore 5, 2) := by decide +kernel
theorem dX2_foldThings_5 : decode cX2_foldThings 5 = .ok (.iload 5, 2) := by decide +kernel
theorem dX2_foldThings_7 : decode cX2_foldThings 7 = .ok (.aload_n 0, 1) := by decide +kernel
theorem dX2_foldThings_8 : decode cX2_foldThings 8 = .ok (.getfield 65, 3) := by decide +kernel
theorem dX2_foldThings_11 : decode cX2_foldThings 11 = .ok (.if_icmp .ge 80, 3) := by decide +kernel
theorem dX2_foldThings_14 : decode cX2_foldThings 14 = .ok (.ldc2_w 94, 3) := by decide +kernel
theorem dX2_foldThings_17 : decode cX2_foldThings 17 = .ok (.lload_n 3, 1) := by decide +kernel
theorem dX2_foldThings_18 : decode cX2_foldThings 18 = .ok (.lmul, 1) := by decide +kernel
theorem dX2_foldThings_19 : decode cX2_foldThings 19 = .ok (.aload_n 0, 1) := by decide +kernel
theorem dX2_foldThings_20 : decode cX2_foldThings 20 = .ok (.getfield 49, 3) := by decide +kernel
theorem dX2_foldThings_23 : decode cX2_foldThings 23 = .ok (.iload 5, 2) := by decide +kernel
theorem dX2_foldThings_25 : decode cX2_foldThings 25 = .ok (.iaload, 1) := by decide +kernel
theorem dX2_foldThings_26 : decode cX2_foldThings 26 = .ok (.i2l, 1) := by decide +kernel
theorem dX2_foldThings_27 : decode cX2_foldThings 27 = .ok (.ladd, 1) := by decide +kernel
theorem dX2_foldThings_28 : decode cX2_foldThings 28 = .ok (.lstore_n 3, 1) := by decide +kernel
theorem dX2_foldThings_29 : decode cX2_foldThings 29 = .ok (.ldc2_w 94, 3) := by decide +kernel
theorem dX2_foldThings_32 : decode cX2_foldThings 32 = .ok (.lload_n 3, 1) := by decide +kernel
theorem dX2_foldThings_33 : decode cX2_foldThings 33 = .ok (.lmul, 1) := by decide +kernel
theorem dX2_foldThings_34 : decode cX2_foldThings 34 = .ok (.aload_n 0, 1) := by decide +kernel
theorem dX2_foldThings_35 : decode cX2_foldThings 35 = .ok (.getfield 52, 3) := by decide +kernel
theorem dX2_foldThings_38 : decode cX2_foldThings 38 = .ok (.iload 5, 2) := by decide +kernel
theorem dX2_foldThings_40 : decode cX2_foldThings 40 = .ok (.iaload, 1) := by decide +kernel
theorem dX2_foldThings_41 : decode cX2_foldThings 41 = .ok (.i2l, 1) := by decide +kernel
theorem dX2_foldThings_42 : decode cX2_foldThings 42 = .ok (.ladd, 1) := by decide +kernel
theorem dX2_foldThings_43 : decode cX2_foldThings 43 = .ok (.lstore_n 3, 1) := by decide +kernel
theorem dX2_foldThings_44 : decode cX2_foldThings 44 = .ok (.iconst 0, 1) := by decide +kernel
theorem dX2_foldThings_45 : decode cX2_foldThings 45 = .ok (.istore 6, 2) := by decide +kernel
theorem dX2_foldThings_47 : decode cX2_foldThings 47 = .ok (.iload 6, 2) := by decide +kernel
theorem dX2_foldThings_49 : decode cX2_foldThings 49 = .ok (.aload_n 0, 1) := by decide +kernel
theorem dX2_foldThings_50 : decode cX2_foldThings 50 = .ok (.getfield 52, 3) := by decide +kernel
theorem dX2_foldThings_53 : decode cX2_foldThings 53 = .ok (.iload 5, 2) := by decide +kernel
theorem dX2_foldThings_55 : decode cX2_foldThings 55 = .ok (.iaload, 1) := by decide +kernel
theorem dX2_foldThings_56 : decode cX2_foldThings 56 = .ok (.if_icmp .ge 29, 3) := by decide +kernel
theorem dX2_foldThings_59 : decode cX2_foldThings 59 = .ok (.ldc2_w 94, 3) := by decide +kernel
theorem dX2_foldThings_62 : decode cX2_foldThings 62 = .ok (.lload_n 3, 1) := by decide +kernel
theorem dX2_foldThings_63 : decode cX2_foldThings 63 = .ok (.lmul, 1) := by decide +kernel
theorem dX2_foldThings_64 : decode cX2_foldThings 64 = .ok (.aload_n 0, 1) := by decide +kernel
theorem dX2_foldThings_65 : decode cX2_foldThings 65 = .ok (.getfield 55, 3) := by decide +kernel
theorem dX2_foldThings_68 : decode cX2_foldThings 68 = .ok (.iload 5, 2) := by decide +kernel
theorem dX2_foldThings_70 : decode cX2_foldThings 70 = .ok (.iconst 4, 1) := by decide +kernel
theorem dX2_foldThings_71 : decode cX2_foldThings 71 = .ok (.imul, 1) := by decide +kernel
theorem dX2_foldThings_72 : decode cX2_foldThings 72 = .ok (.iload 6, 2) := by decide +kernel
theorem dX2_foldThings_74 : decode cX2_foldThings 74 = .ok (.iadd, 1) := by decide +kernel
theorem dX2_foldThings_75 : decode cX2_foldThings 75 = .ok (.iaload, 1) := by decide +kernel
theorem dX2_foldThings_76 : decode cX2_foldThings 76 = .ok (.i2l, 1) := by decide +kernel
theorem dX2_foldThings_77 : decode cX2_foldThings 77 = .ok (.ladd, 1) := by decide +kernel
theorem dX2_foldThings_78 : decode cX2_foldThings 78 = .ok (.lstore_n 3, 1) := by decide +kernel
theorem dX2_foldThings_79 : decode cX2_foldThings 79 = .ok (.iinc 6 1, 3) := by decide +kernel
theorem dX2_foldThings_82 : decode cX2_foldThings 82 = .ok (.goto (-35), 3) := by decide +kernel
theorem dX2_foldThings_85 : decode cX2_foldThings 85 = .ok (.iinc 5 1, 3) := by decide +kernel
theorem dX2_foldThings_88 : decode cX2_foldThings 88 = .ok (.goto (-83), 3) := by decide +kernel
theorem dX2_foldThings_91 : decode cX2_foldThings 91 = .ok (.lload_n 3, 1) := by decide +kernel
theorem dX2_foldThings_92 : decode cX2_foldThings 92 = .ok (.lreturn, 1) := by decide +kernel
theorem dX3_init_0 : decode cX3_init 0 = .ok (.aload_n 0, 1) := by decide +kernel
theorem dX3_init_1 : decode cX3_init 1 = .ok (.invokespecial 1, 3) := by decide +kernel
theorem dX3_init_4 : decode cX3_init 4 = .ok (.return_, 1) := by decide +kernel
theorem dX3_wakingNoise_0 : decode cX3_wakingNoise 0 = .ok (.aload_n 0, 1) := by decide +kernel
theorem dX3_wakingNoise_1 : decode cX3_wakingNoise 1 = .ok (.iload_n 1, 1) := by decide +kernel
theorem dX3_wakingNoise_2 : decode cX3_wakingNoise 2 = .ok (.iload_n 2, 1) := by decide +kernel
theorem dX3_wakingNoise_3 : decode cX3_wakingNoise 3 = .ok (.iload_n 3, 1) := by decide +kernel
theorem dX3_wakingNoise_4 : decode cX3_wakingNoise 4 = .ok (.invokespecial 7, 3) := by decide +kernel
theorem dX3_wakingNoise_7 : decode cX3_wakingNoise 7 = .ok (.iconst 2, 1) := by decide +kernel
theorem dX3_wakingNoise_8 : decode cX3_wakingNoise 8 = .ok (.idiv, 1) := by decide +kernel
theorem dX3_wakingNoise_9 : decode cX3_wakingNoise 9 = .ok (.ireturn, 1) := by decide +kernel
theorem dX4_init_0 : decode cX4_init 0 = .ok (.aload_n 0, 1) := by decide +kernel
theorem dX4_init_1 : decode cX4_init 1 = .ok (.invokespecial 3, 3) := by decide +kernel
theorem dX4_init_4 : decode cX4_init 4 = .ok (.aload_n 0, 1) := by decide +kernel
theorem dX4_init_5 : decode cX4_init 5 = .ok (.new 9, 3) := by decide +kernel
theorem dX4_init_8 : decode cX4_init 8 = .ok (.dup, 1) := by decide +kernel
theorem dX4_init_9 : decode cX4_init 9 = .ok (.invokespecial 11, 3) := by decide +kernel
theorem dX4_init_12 : decode cX4_init 12 = .ok (.putfield 12, 3) := by decide +kernel
theorem dX4_init_15 : decode cX4_init 15 = .ok (.aload_n 0, 1) := by decide +kernel
theorem dX4_init_16 : decode cX4_init 16 = .ok (.iconst 3, 1) := by decide +kernel
theorem dX4_init_17 : decode cX4_init 17 = .ok (.newarray .int, 2) := by decide +kernel
theorem dX4_init_19 : decode cX4_init 19 = .ok (.putfield 18, 3) := by decide +kernel
theorem dX4_init_22 : decode cX4_init 22 = .ok (.aload_n 0, 1) := by decide +kernel
theorem dX4_init_23 : decode cX4_init 23 = .ok (.iconst 3, 1) := by decide +kernel
theorem dX4_init_24 : decode cX4_init 24 = .ok (.newarray .int, 2) := by decide +kernel
theorem dX4_init_26 : decode cX4_init 26 = .ok (.putfield 22, 3) := by decide +kernel
theorem dX4_init_29 : decode cX4_init 29 = .ok (.aload_n 0, 1) := by decide +kernel
theorem dX4_init_30 : decode cX4_init 30 = .ok (.bipush 8, 2) := by decide +kernel
theorem dX4_init_32 : decode cX4_init 32 = .ok (.newarray .int, 2) := by decide +kernel
theorem dX4_init_34 : decode cX4_init 34 = .ok (.putfield 25, 3) := by decide +kernel
theorem dX4_init_37 : decode cX4_init 37 = .ok (.aload_n 0, 1) := by decide +kernel
theorem dX4_init_38 : decode cX4_init 38 = .ok (.bipush 8, 2) := by decide +kernel
theorem dX4_init_40 : decode cX4_init 40 = .ok (.newarray .int, 2) := by decide +kernel
theorem dX4_init_42 : decode cX4_init 42 = .ok (.putfield 28, 3) := by decide +kernel
theorem dX4_init_45 : decode cX4_init 45 = .ok (.aload_n 0, 1) := by decide +kernel
theorem dX4_init_46 : decode cX4_init 46 = .ok (.bipush 8, 2) := by decide +kernel
theorem dX4_init_48 : decode cX4_init 48 = .ok (.newarray .int, 2) := by decide +kernel
theorem dX4_init_50 : decode cX4_init 50 = .ok (.putfield 31, 3) := by decide +kernel
theorem dX4_init_53 : decode cX4_init 53 = .ok (.aload_n 0, 1) := by decide +kernel
theorem dX4_init_54 : decode cX4_init 54 = .ok (.bipush 6, 2) := by decide +kernel
theorem dX4_init_56 : decode cX4_init 56 = .ok (.newarray .int, 2) := by decide +kernel
theorem dX4_init_58 : decode cX4_init 58 = .ok (.putfield 34, 3) := by decide +kernel
theorem dX4_init_61 : decode cX4_init 61 = .ok (.aload_n 0, 1) := by decide +kernel
theorem dX4_init_62 : decode cX4_init 62 = .ok (.bipush 6, 2) := by decide +kernel
theorem dX4_init_64 : decode cX4_init 64 = .ok (.newarray .int, 2) := by decide +kernel
theorem dX4_init_66 : decode cX4_init 66 = .ok (.putfield 37, 3) := by decide +kernel
theorem dX4_init_69 : decode cX4_init 69 = .ok (.aload_n 0, 1) := by decide +kernel
theorem dX4_init_70 : decode cX4_init 70 = .ok (.bipush 6, 2) := by decide +kernel
theorem dX4_init_72 : decode cX4_init 72 = .ok (.newarray .int, 2) := by decide +kernel
theorem dX4_init_74 : decode cX4_init 74 = .ok (.putfield 40, 3) := by decide +kernel
theorem dX4_init_77 : decode cX4_init 77 = .ok (.return_, 1) := by decide +kernel
theorem dX4_begin_0 : decode cX4_begin 0 = .ok (.aload_n 0, 1) := by decide +kernel
theorem dX4_begin_1 : decode cX4_begin 1 = .ok (.iconst 0, 1) := by decide +kernel
theorem dX4_begin_2 : decode cX4_begin 2 = .ok (.putfield 43, 3) := by decide +kernel
theorem dX4_begin_5 : decode cX4_begin 5 = .ok (.aload_n 0, 1) := by decide +kernel
theorem dX4_begin_6 : decode cX4_begin 6 = .ok (.iconst 0, 1) := by decide +kernel
theorem dX4_begin_7 : decode cX4_begin 7 = .ok (.putfield 47, 3) := by decide +kernel
theorem dX4_begin_10 : decode cX4_begin 10 = .ok (.aload_n 0, 1) := by decide +kernel
theorem dX4_begin_11 : decode cX4_begin 11 = .ok (.iconst 0, 1) := by decide +kernel
theorem dX4_begin_12 : decode cX4_begin 12 = .ok (.putfield 50, 3) := by decide +kernel
theorem dX4_begin_15 : decode cX4_begin 15 = .ok (.aload_n 0, 1) := by decide +kernel
theorem dX4_begin_16 : decode cX4_begin 16 = .ok (.iconst 0, 1) := by decide +kernel
theorem dX4_begin_17 : decode cX4_begin 17 = .ok (.putfield 53, 3) := by decide +kernel
theorem dX4_begin_20 : decode cX4_begin 20 = .ok (.iconst 0, 1) := by decide +kernel
theorem dX4_begin_21 : decode cX4_begin 21 = .ok (.istore_n 1, 1) := by decide +kernel
theorem dX4_begin_22 : decode cX4_begin 22 = .ok (.iload_n 1, 1) := by decide +kernel
theorem dX4_begin_23 : decode cX4_begin 23 = .ok (.iconst 3, 1) := by decide +kernel
theorem dX4_begin_24 : decode cX4_begin 24 = .ok (.if_icmp .ge 16, 3) := by decide +kernel
theorem dX4_begin_27 : decode cX4_begin 27 = .ok (.aload_n 0, 1) := by decide +kernel
theorem dX4_begin_28 : decode cX4_begin 28 = .ok (.getfield 18, 3) := by decide +kernel
theorem dX4_begin_31 : decode cX4_begin 31 = .ok (.iload_n 1, 1) := by decide +kernel
theorem dX4_begin_32 : decode cX4_begin 32 = .ok (.iconst 0, 1) := by decide +kernel
theorem dX4_begin_33 : decode cX4_begin 33 = .ok (.iastore, 1) := by decide +kernel
theorem dX4_begin_34 : decode cX4_begin 34 = .ok (.iinc 1 1, 3) := by decide +kernel
theorem dX4_begin_37 : decode cX4_begin 37 = .ok (.goto (-15), 3) := by decide +kernel
theorem dX4_begin_40 : decode cX4_begin 40 = .ok (.return_, 1) := by decide +kernel
theorem dX4_copyFrom_0 : decode cX4_copyFrom 0 = .ok (.aload_n 0, 1) := by decide +kernel
theorem dX4_copyFrom_1 : decode cX4_copyFrom 1 = .ok (.getfield 12, 3) := by decide +kernel
theorem dX4_copyFrom_4 : decode cX4_copyFrom 4 = .ok (.aload_n 1, 1) := by decide +kernel
theorem dX4_copyFrom_5 : decode cX4_copyFrom 5 = .ok (.getfield 12, 3) := by decide +kernel
theorem dX4_copyFrom_8 : decode cX4_copyFrom 8 = .ok (.invokevirtual 56, 3) := by decide +kernel
theorem dX4_copyFrom_11 : decode cX4_copyFrom 11 = .ok (.aload_n 1, 1) := by decide +kernel
theorem dX4_copyFrom_12 : decode cX4_copyFrom 12 = .ok (.getfield 18, 3) := by decide +kernel
theorem dX4_copyFrom_15 : decode cX4_copyFrom 15 = .ok (.iconst 0, 1) := by decide +kernel
theorem dX4_copyFrom_16 : decode cX4_copyFrom 16 = .ok (.aload_n 0, 1) := by decide +kernel
theorem dX4_copyFrom_17 : decode cX4_copyFrom 17 = .ok (.getfield 18, 3) := by decide +kernel
theorem dX4_copyFrom_20 : decode cX4_copyFrom 20 = .ok (.iconst 0, 1) := by decide +kernel
theorem dX4_copyFrom_21 : decode cX4_copyFrom 21 = .ok (.iconst 3, 1) := by decide +kernel
theorem dX4_copyFrom_22 : decode cX4_copyFrom 22 = .ok (.invokestatic 60, 3) := by decide +kernel
theorem dX4_copyFrom_25 : decode cX4_copyFrom 25 = .ok (.aload_n 1, 1) := by decide +kernel
theorem dX4_copyFrom_26 : decode cX4_copyFrom 26 = .ok (.getfield 25, 3) := by decide +kernel
theorem dX4_copyFrom_29 : decode cX4_copyFrom 29 = .ok (.iconst 0, 1) := by decide +kernel
theorem dX4_copyFrom_30 : decode cX4_copyFrom 30 = .ok (.aload_n 0, 1) := by decide +kernel
theorem dX4_copyFrom_31 : decode cX4_copyFrom 31 = .ok (.getfield 25, 3) := by decide +kernel
theorem dX4_copyFrom_34 : decode cX4_copyFrom 34 = .ok (.iconst 0, 1) := by decide +kernel
theorem dX4_copyFrom_35 : decode cX4_copyFrom 35 = .ok (.bipush 8, 2) := by decide +kernel
theorem dX4_copyFrom_37 : decode cX4_copyFrom 37 = .ok (.invokestatic 60, 3) := by decide +kernel
theorem dX4_copyFrom_40 : decode cX4_copyFrom 40 = .ok (.aload_n 1, 1) := by decide +kernel
theorem dX4_copyFrom_41 : decode cX4_copyFrom 41 = .ok (.getfield 28, 3) := by decide +kernel
theorem dX4_copyFrom_44 : decode cX4_copyFrom 44 = .ok (.iconst 0, 1) := by decide +kernel
theorem dX4_copyFrom_45 : decode cX4_copyFrom 45 = .ok (.aload_n 0, 1) := by decide +kernel
theorem dX4_copyFrom_46 : decode cX4_copyFrom 46 = .ok (.getfield 28, 3) := by decide +kernel
theorem dX4_copyFrom_49 : decode cX4_copyFrom 49 = .ok (.iconst 0, 1) := by decide +kernel
theorem dX4_copyFrom_50 : decode cX4_copyFrom 50 = .ok (.bipush 8, 2) := by decide +kernel
theorem dX4_copyFrom_52 : decode cX4_copyFrom 52 = .ok (.invokestatic 60, 3) := by decide +kernel
theorem dX4_copyFrom_55 : decode cX4_copyFrom 55 = .ok (.aload_n 1, 1) := by decide +kernel
theorem dX4_copyFrom_56 : decode cX4_copyFrom 56 = .ok (.getfield 31, 3) := by decide +kernel
theorem dX4_copyFrom_59 : decode cX4_copyFrom 59 = .ok (.iconst 0, 1) := by decide +kernel
theorem dX4_copyFrom_60 : decode cX4_copyFrom 60 = .ok (.aload_n 0, 1) := by decide +kernel
theorem dX4_copyFrom_61 : decode cX4_copyFrom 61 = .ok (.getfield 31, 3) := by decide +kernel
theorem dX4_copyFrom_64 : decode cX4_copyFrom 64 = .ok (.iconst 0, 1) := by decide +kernel
theorem dX4_copyFrom_65 : decode cX4_copyFrom 65 = .ok (.bipush 8, 2) := by decide +kernel
theorem dX4_copyFrom_67 : decode cX4_copyFrom 67 = .ok (.invokestatic 60, 3) := by decide +kernel
theorem dX4_copyFrom_70 : decode cX4_copyFrom 70 = .ok (.aload_n 1, 1) := by decide +kernel
theorem dX4_copyFrom_71 : decode cX4_copyFrom 71 = .ok (.getfield 34, 3) := by decide +kernel
theorem dX4_copyFrom_74 : decode cX4_copyFrom 74 = .ok (.iconst 0, 1) := by decide +kernel
theorem dX4_copyFrom_75 : decode cX4_copyFrom 75 = .ok (.aload_n 0, 1) := by decide +kernel
theorem dX4_copyFrom_76 : decode cX4_copyFrom 76 = .ok (.getfield 34, 3) := by decide +kernel
theorem dX4_copyFrom_79 : decode cX4_copyFrom 79 = .ok (.iconst 0, 1) := by decide +kernel
theorem dX4_copyFrom_80 : decode cX4_copyFrom 80 = .ok (.bipush 6, 2) := by decide +kernel
theorem dX4_copyFrom_82 : decode cX4_copyFrom 82 = .ok (.invokestatic 60, 3) := by decide +kernel
theorem dX4_copyFrom_85 : decode cX4_copyFrom 85 = .ok (.aload_n 1, 1) := by decide +kernel
theorem dX4_copyFrom_86 : decode cX4_copyFrom 86 = .ok (.getfield 37, 3) := by decide +kernel
theorem dX4_copyFrom_89 : decode cX4_copyFrom 89 = .ok (.iconst 0, 1) := by decide +kernel
theorem dX4_copyFrom_90 : decode cX4_copyFrom 90 = .ok (.aload_n 0, 1) := by decide +kernel
theorem dX4_copyFrom_91 : decode cX4_copyFrom 91 = .ok (.getfield 37, 3) := by decide +kernel
theorem dX4_copyFrom_94 : decode cX4_copyFrom 94 = .ok (.iconst 0, 1) := by decide +kernel
theorem dX4_copyFrom_95 : decode cX4_copyFrom 95 = .ok (.bipush 6, 2) := by decide +kernel
theorem dX4_copyFrom_97 : decode cX4_copyFrom 97 = .ok (.invokestatic 60, 3) := by decide +kernel
theorem dX4_copyFrom_100 : decode cX4_copyFrom 100 = .ok (.aload_n 1, 1) := by decide +kernel
theorem dX4_copyFrom_101 : decode cX4_copyFrom 101 = .ok (.getfield 40, 3) := by decide +kernel
theorem dX4_copyFrom_104 : decode cX4_copyFrom 104 = .ok (.iconst 0, 1) := by decide +kernel
theorem dX4_copyFrom_105 : decode cX4_copyFrom 105 = .ok (.aload_n 0, 1) := by decide +kernel
theorem dX4_copyFrom_106 : decode cX4_copyFrom 106 = .ok (.getfield 40, 3) := by decide +kernel
theorem dX4_copyFrom_109 : decode cX4_copyFrom 109 = .ok (.iconst 0, 1) := by decide +kernel
theorem dX4_copyFrom_110 : decode cX4_copyFrom 110 = .ok (.bipush 6, 2) := by decide +kernel
theorem dX4_copyFrom_112 : decode cX4_copyFrom 112 = .ok (.invokestatic 60, 3) := by decide +kernel
theorem dX4_copyFrom_115 : decode cX4_copyFrom 115 = .ok (.aload_n 0, 1) := by decide +kernel
theorem dX4_copyFrom_116 : decode cX4_copyFrom 116 = .ok (.aload_n 1, 1) := by decide +kernel
theorem dX4_copyFrom_117 : decode cX4_copyFrom 117 = .ok (.getfield 43, 3) := by decide +kernel
theorem dX4_copyFrom_120 : decode cX4_copyFrom 120 = .ok (.putfield 43, 3) := by decide +kernel
theorem dX4_copyFrom_123 : decode cX4_copyFrom 123 = .ok (.aload_n 0, 1) := by decide +kernel
theorem dX4_copyFrom_124 : decode cX4_copyFrom 124 = .ok (.aload_n 1, 1) := by decide +kernel
theorem dX4_copyFrom_125 : decode cX4_copyFrom 125 = .ok (.getfield 47, 3) := by decide +kernel
theorem dX4_copyFrom_128 : decode cX4_copyFrom 128 = .ok (.putfield 47, 3) := by decide +kernel
theorem dX4_copyFrom_131 : decode cX4_copyFrom 131 = .ok (.aload_n 0, 1) := by decide +kernel
theorem dX4_copyFrom_132 : decode cX4_copyFrom 132 = .ok (.aload_n 1, 1) := by decide +kernel
theorem dX4_copyFrom_133 : decode cX4_copyFrom 133 = .ok (.getfield 50, 3) := by decide +kernel
theorem dX4_copyFrom_136 : decode cX4_copyFrom 136 = .ok (.putfield 50, 3) := by decide +kernel
theorem dX4_copyFrom_139 : decode cX4_copyFrom 139 = .ok (.aload_n 0, 1) := by decide +kernel
theorem dX4_copyFrom_140 : decode cX4_copyFrom 140 = .ok (.aload_n 1, 1) := by decide +kernel
theorem dX4_copyFrom_141 : decode cX4_copyFrom 141 = .ok (.getfield 53, 3) := by decide +kernel
theorem dX4_copyFrom_144 : decode cX4_copyFrom 144 = .ok (.putfield 53, 3) := by decide +kernel
theorem dX4_copyFrom_147 : decode cX4_copyFrom 147 = .ok (.return_, 1) := by decide +kernel
theorem dX4_go_0 : decode cX4_go 0 = .ok (.aload_n 0, 1) := by decide +kernel
theorem dX4_go_1 : decode cX4_go 1 = .ok (.invokevirtual 66, 3) := by decide +kernel
theorem dX4_go_4 : decode cX4_go 4 = .ok (.aload_n 0, 1) := by decide +kernel
theorem dX4_go_5 : decode cX4_go 5 = .ok (.getfield 12, 3) := by decide +kernel
theorem dX4_go_8 : decode cX4_go 8 = .ok (.iload_n 3, 1) := by decide +kernel
theorem dX4_go_9 : decode cX4_go 9 = .ok (.iload_n 2, 1) := by decide +kernel
theorem dX4_go_10 : decode cX4_go 10 = .ok (.aload_n 0, 1) := by decide +kernel
theorem dX4_go_11 : decode cX4_go 11 = .ok (.getfield 43, 3) := by decide +kernel
theorem dX4_go_14 : decode cX4_go 14 = .ok (.invokevirtual 69, 3) := by decide +kernel
theorem dX4_go_17 : decode cX4_go 17 = .ok (.istore 4, 2) := by decide +kernel
theorem dX4_go_19 : decode cX4_go 19 = .ok (.aload_n 0, 1) := by decide +kernel
theorem dX4_go_20 : decode cX4_go 20 = .ok (.getfield 18, 3) := by decide +kernel
theorem dX4_go_23 : decode cX4_go 23 = .ok (.iload_n 1, 1) := by decide +kernel
theorem dX4_go_24 : decode cX4_go 24 = .ok (.iload_n 2, 1) := by decide +kernel
theorem dX4_go_25 : decode cX4_go 25 = .ok (.iastore, 1) := by decide +kernel
theorem dX4_go_26 : decode cX4_go 26 = .ok (.aload_n 0, 1) := by decide +kernel
theorem dX4_go_27 : decode cX4_go 27 = .ok (.dup, 1) := by decide +kernel
theorem dX4_go_28 : decode cX4_go 28 = .ok (.getfield 47, 3) := by decide +kernel
theorem dX4_go_31 : decode cX4_go 31 = .ok (.iload 4, 2) := by decide +kernel
theorem dX4_go_33 : decode cX4_go 33 = .ok (.ior, 1) := by decide +kernel
theorem dX4_go_34 : decode cX4_go 34 = .ok (.putfield 47, 3) := by decide +kernel
theorem dX4_go_37 : decode cX4_go 37 = .ok (.aload_n 0, 1) := by decide +kernel
theorem dX4_go_38 : decode cX4_go 38 = .ok (.aload_n 0, 1) := by decide +kernel
theorem dX4_go_39 : decode cX4_go 39 = .ok (.getfield 43, 3) := by decide +kernel
theorem dX4_go_42 : decode cX4_go 42 = .ok (.iconst 1, 1) := by decide +kernel
theorem dX4_go_43 : decode cX4_go 43 = .ok (.iadd, 1) := by decide +kernel
theorem dX4_go_44 : decode cX4_go 44 = .ok (.bipush 59, 2) := by decide +kernel
theorem dX4_go_46 : decode cX4_go 46 = .ok (.invokestatic 73, 3) := by decide +kernel
theorem dX4_go_49 : decode cX4_go 49 = .ok (.putfield 43, 3) := by decide +kernel
theorem dX4_go_52 : decode cX4_go 52 = .ok (.iload 4, 2) := by decide +kernel
theorem dX4_go_54 : decode cX4_go 54 = .ok (.ireturn, 1) := by decide +kernel
theorem dX4_remember_0 : decode cX4_remember 0 = .ok (.aload_n 0, 1) := by decide +kernel
theorem dX4_remember_1 : decode cX4_remember 1 = .ok (.getfield 50, 3) := by decide +kernel
theorem dX4_remember_4 : decode cX4_remember 4 = .ok (.bipush 8, 2) := by decide +kernel
theorem dX4_remember_6 : decode cX4_remember 6 = .ok (.if_icmp .ne 7, 3) := by decide +kernel
theorem dX4_remember_9 : decode cX4_remember 9 = .ok (.aload_n 0, 1) := by decide +kernel
theorem dX4_remember_10 : decode cX4_remember 10 = .ok (.invokevirtual 79, 3) := by decide +kernel
theorem dX4_remember_13 : decode cX4_remember 13 = .ok (.aload_n 0, 1) := by decide +kernel
theorem dX4_remember_14 : decode cX4_remember 14 = .ok (.getfield 25, 3) := by decide +kernel
theorem dX4_remember_17 : decode cX4_remember 17 = .ok (.aload_n 0, 1) := by decide +kernel
theorem dX4_remember_18 : decode cX4_remember 18 = .ok (.getfield 50, 3) := by decide +kernel
theorem dX4_remember_21 : decode cX4_remember 21 = .ok (.aload_n 0, 1) := by decide +kernel
theorem dX4_remember_22 : decode cX4_remember 22 = .ok (.getfield 43, 3) := by decide +kernel
theorem dX4_remember_25 : decode cX4_remember 25 = .ok (.iastore, 1) := by decide +kernel
theorem dX4_remember_26 : decode cX4_remember 26 = .ok (.aload_n 0, 1) := by decide +kernel
theorem dX4_remember_27 : decode cX4_remember 27 = .ok (.getfield 28, 3) := by decide +kernel
theorem dX4_remember_30 : decode cX4_remember 30 = .ok (.aload_n 0, 1) := by decide +kernel
theorem dX4_remember_31 : decode cX4_remember 31 = .ok (.getfield 50, 3) := by decide +kernel
theorem dX4_remember_34 : decode cX4_remember 34 = .ok (.aload_n 0, 1) := by decide +kernel
theorem dX4_remember_35 : decode cX4_remember 35 = .ok (.getfield 47, 3) := by decide +kernel
theorem dX4_remember_38 : decode cX4_remember 38 = .ok (.iastore, 1) := by decide +kernel
theorem dX4_remember_39 : decode cX4_remember 39 = .ok (.iconst 0, 1) := by decide +kernel
theorem dX4_remember_40 : decode cX4_remember 40 = .ok (.istore_n 1, 1) := by decide +kernel
theorem dX4_remember_41 : decode cX4_remember 41 = .ok (.iconst 0, 1) := by decide +kernel
theorem dX4_remember_42 : decode cX4_remember 42 = .ok (.istore_n 2, 1) := by decide +kernel
theorem dX4_remember_43 : decode cX4_remember 43 = .ok (.iload_n 2, 1) := by decide +kernel
theorem dX4_remember_44 : decode cX4_remember 44 = .ok (.iconst 3, 1) := by decide +kernel
theorem dX4_remember_45 : decode cX4_remember 45 = .ok (.if_icmp .ge 21, 3) := by decide +kernel
theorem dX4_remember_48 : decode cX4_remember 48 = .ok (.iload_n 1, 1) := by decide +kernel
theorem dX4_remember_49 : decode cX4_remember 49 = .ok (.bipush 8, 2) := by decide +kernel
theorem dX4_remember_51 : decode cX4_remember 51 = .ok (.imul, 1) := by decide +kernel
theorem dX4_remember_52 : decode cX4_remember 52 = .ok (.aload_n 0, 1) := by decide +kernel
theorem dX4_remember_53 : decode cX4_remember 53 = .ok (.getfield 18, 3) := by decide +kernel
theorem dX4_remember_56 : decode cX4_remember 56 = .ok (.iload_n 2, 1) := by decide +kernel
theorem dX4_remember_57 : decode cX4_remember 57 = .ok (.iaload, 1) := by decide +kernel
theorem dX4_remember_58 : decode cX4_remember 58 = .ok (.iadd, 1) := by decide +kernel
theorem dX4_remember_59 : decode cX4_remember 59 = .ok (.istore_n 1, 1) := by decide +kernel
theorem dX4_remember_60 : decode cX4_remember 60 = .ok (.iinc 2 1, 3) := by decide +kernel
theorem dX4_remember_63 : decode cX4_remember 63 = .ok (.goto (-20), 3) := by decide +kernel
theorem dX4_remember_66 : decode cX4_remember 66 = .ok (.aload_n 0, 1) := by decide +kernel
theorem dX4_remember_67 : decode cX4_remember 67 = .ok (.getfield 31, 3) := by decide +kernel
theorem dX4_remember_70 : decode cX4_remember 70 = .ok (.aload_n 0, 1) := by decide +kernel
theorem dX4_remember_71 : decode cX4_remember 71 = .ok (.getfield 50, 3) := by decide +kernel
theorem dX4_remember_74 : decode cX4_remember 74 = .ok (.iload_n 1, 1) := by decide +kernel
theorem dX4_remember_75 : decode cX4_remember 75 = .ok (.iastore, 1) := by decide +kernel
theorem dX4_remember_76 : decode cX4_remember 76 = .ok (.aload_n 0, 1) := by decide +kernel
theorem dX4_remember_77 : decode cX4_remember 77 = .ok (.dup, 1) := by decide +kernel
theorem dX4_remember_78 : decode cX4_remember 78 = .ok (.getfield 50, 3) := by decide +kernel
theorem dX4_remember_81 : decode cX4_remember 81 = .ok (.iconst 1, 1) := by decide +kernel
theorem dX4_remember_82 : decode cX4_remember 82 = .ok (.iadd, 1) := by decide +kernel
theorem dX4_remember_83 : decode cX4_remember 83 = .ok (.putfield 50, 3) := by decide +kernel
theorem dX4_remember_86 : decode cX4_remember 86 = .ok (.return_, 1) := by decide +kernel
theorem dX4_dropOldest_0 : decode cX4_dropOldest 0 = .ok (.iconst 1, 1) := by decide +kernel
theorem dX4_dropOldest_1 : decode cX4_dropOldest 1 = .ok (.istore_n 1, 1) := by decide +kernel
theorem dX4_dropOldest_2 : decode cX4_dropOldest 2 = .ok (.iload_n 1, 1) := by decide +kernel
theorem dX4_dropOldest_3 : decode cX4_dropOldest 3 = .ok (.bipush 8, 2) := by decide +kernel
theorem dX4_dropOldest_5 : decode cX4_dropOldest 5 = .ok (.if_icmp .ge 51, 3) := by decide +kernel
theorem dX4_dropOldest_8 : decode cX4_dropOldest 8 = .ok (.aload_n 0, 1) := by decide +kernel
theorem dX4_dropOldest_9 : decode cX4_dropOldest 9 = .ok (.getfield 25, 3) := by decide +kernel
theorem dX4_dropOldest_12 : decode cX4_dropOldest 12 = .ok (.iload_n 1, 1) := by decide +kernel
theorem dX4_dropOldest_13 : decode cX4_dropOldest 13 = .ok (.iconst 1, 1) := by decide +kernel
theorem dX4_dropOldest_14 : decode cX4_dropOldest 14 = .ok (.isub, 1) := by decide +kernel
theorem dX4_dropOldest_15 : decode cX4_dropOldest 15 = .ok (.aload_n 0, 1) := by decide +kernel
theorem dX4_dropOldest_16 : decode cX4_dropOldest 16 = .ok (.getfield 25, 3) := by decide +kernel
theorem dX4_dropOldest_19 : decode cX4_dropOldest 19 = .ok (.iload_n 1, 1) := by decide +kernel
theorem dX4_dropOldest_20 : decode cX4_dropOldest 20 = .ok (.iaload, 1) := by decide +kernel
theorem dX4_dropOldest_21 : decode cX4_dropOldest 21 = .ok (.iastore, 1) := by decide +kernel
theorem dX4_dropOldest_22 : decode cX4_dropOldest 22 = .ok (.aload_n 0, 1) := by decide +kernel
theorem dX4_dropOldest_23 : decode cX4_dropOldest 23 = .ok (.getfield 28, 3) := by decide +kernel
theorem dX4_dropOldest_26 : decode cX4_dropOldest 26 = .ok (.iload_n 1, 1) := by decide +kernel
theorem dX4_dropOldest_27 : decode cX4_dropOldest 27 = .ok (.iconst 1, 1) := by decide +kernel
theorem dX4_dropOldest_28 : decode cX4_dropOldest 28 = .ok (.isub, 1) := by decide +kernel
theorem dX4_dropOldest_29 : decode cX4_dropOldest 29 = .ok (.aload_n 0, 1) := by decide +kernel
theorem dX4_dropOldest_30 : decode cX4_dropOldest 30 = .ok (.getfield 28, 3) := by decide +kernel
theorem dX4_dropOldest_33 : decode cX4_dropOldest 33 = .ok (.iload_n 1, 1) := by decide +kernel
theorem dX4_dropOldest_34 : decode cX4_dropOldest 34 = .ok (.iaload, 1) := by decide +kernel
theorem dX4_dropOldest_35 : decode cX4_dropOldest 35 = .ok (.iastore, 1) := by decide +kernel
theorem dX4_dropOldest_36 : decode cX4_dropOldest 36 = .ok (.aload_n 0, 1) := by decide +kernel
theorem dX4_dropOldest_37 : decode cX4_dropOldest 37 = .ok (.getfield 31, 3) := by decide +kernel
theorem dX4_dropOldest_40 : decode cX4_dropOldest 40 = .ok (.iload_n 1, 1) := by decide +kernel
theorem dX4_dropOldest_41 : decode cX4_dropOldest 41 = .ok (.iconst 1, 1) := by decide +kernel
theorem dX4_dropOldest_42 : decode cX4_dropOldest 42 = .ok (.isub, 1) := by decide +kernel
theorem dX4_dropOldest_43 : decode cX4_dropOldest 43 = .ok (.aload_n 0, 1) := by decide +kernel
theorem dX4_dropOldest_44 : decode cX4_dropOldest 44 = .ok (.getfield 31, 3) := by decide +kernel
theorem dX4_dropOldest_47 : decode cX4_dropOldest 47 = .ok (.iload_n 1, 1) := by decide +kernel
theorem dX4_dropOldest_48 : decode cX4_dropOldest 48 = .ok (.iaload, 1) := by decide +kernel
theorem dX4_dropOldest_49 : decode cX4_dropOldest 49 = .ok (.iastore, 1) := by decide +kernel
theorem dX4_dropOldest_50 : decode cX4_dropOldest 50 = .ok (.iinc 1 1, 3) := by decide +kernel
theorem dX4_dropOldest_53 : decode cX4_dropOldest 53 = .ok (.goto (-51), 3) := by decide +kernel
theorem dX4_dropOldest_56 : decode cX4_dropOldest 56 = .ok (.aload_n 0, 1) := by decide +kernel
theorem dX4_dropOldest_57 : decode cX4_dropOldest 57 = .ok (.bipush 7, 2) := by decide +kernel
theorem dX4_dropOldest_59 : decode cX4_dropOldest 59 = .ok (.putfield 50, 3) := by decide +kernel
theorem dX4_dropOldest_62 : decode cX4_dropOldest 62 = .ok (.return_, 1) := by decide +kernel
theorem dX4_goBack_0 : decode cX4_goBack 0 = .ok (.aload_n 0, 1) := by decide +kernel
theorem dX4_goBack_1 : decode cX4_goBack 1 = .ok (.dup, 1) := by decide +kernel
theorem dX4_goBack_2 : decode cX4_goBack 2 = .ok (.getfield 50, 3) := by decide +kernel
theorem dX4_goBack_5 : decode cX4_goBack 5 = .ok (.iconst 1, 1) := by decide +kernel
theorem dX4_goBack_6 : decode cX4_goBack 6 = .ok (.isub, 1) := by decide +kernel
theorem dX4_goBack_7 : decode cX4_goBack 7 = .ok (.putfield 50, 3) := by decide +kernel
theorem dX4_goBack_10 : decode cX4_goBack 10 = .ok (.aload_n 0, 1) := by decide +kernel
theorem dX4_goBack_11 : decode cX4_goBack 11 = .ok (.aload_n 0, 1) := by decide +kernel
theorem dX4_goBack_12 : decode cX4_goBack 12 = .ok (.getfield 25, 3) := by decide +kernel
theorem dX4_goBack_15 : decode cX4_goBack 15 = .ok (.aload_n 0, 1) := by decide +kernel
theorem dX4_goBack_16 : decode cX4_goBack 16 = .ok (.getfield 50, 3) := by decide +kernel
theorem dX4_goBack_19 : decode cX4_goBack 19 = .ok (.iaload, 1) := by decide +kernel
theorem dX4_goBack_20 : decode cX4_goBack 20 = .ok (.putfield 43, 3) := by decide +kernel
theorem dX4_goBack_23 : decode cX4_goBack 23 = .ok (.aload_n 0, 1) := by decide +kernel
theorem dX4_goBack_24 : decode cX4_goBack 24 = .ok (.aload_n 0, 1) := by decide +kernel
theorem dX4_goBack_25 : decode cX4_goBack 25 = .ok (.getfield 28, 3) := by decide +kernel
theorem dX4_goBack_28 : decode cX4_goBack 28 = .ok (.aload_n 0, 1) := by decide +kernel
theorem dX4_goBack_29 : decode cX4_goBack 29 = .ok (.getfield 50, 3) := by decide +kernel
theorem dX4_goBack_32 : decode cX4_goBack 32 = .ok (.iaload, 1) := by decide +kernel
theorem dX4_goBack_33 : decode cX4_goBack 33 = .ok (.putfield 47, 3) := by decide +kernel
theorem dX4_goBack_36 : decode cX4_goBack 36 = .ok (.aload_n 0, 1) := by decide +kernel
theorem dX4_goBack_37 : decode cX4_goBack 37 = .ok (.getfield 31, 3) := by decide +kernel
theorem dX4_goBack_40 : decode cX4_goBack 40 = .ok (.aload_n 0, 1) := by decide +kernel
theorem dX4_goBack_41 : decode cX4_goBack 41 = .ok (.getfield 50, 3) := by decide +kernel
theorem dX4_goBack_44 : decode cX4_goBack 44 = .ok (.iaload, 1) := by decide +kernel
theorem dX4_goBack_45 : decode cX4_goBack 45 = .ok (.istore_n 1, 1) := by decide +kernel
theorem dX4_goBack_46 : decode cX4_goBack 46 = .ok (.iconst 2, 1) := by decide +kernel
theorem dX4_goBack_47 : decode cX4_goBack 47 = .ok (.istore_n 2, 1) := by decide +kernel
theorem dX4_goBack_48 : decode cX4_goBack 48 = .ok (.iload_n 2, 1) := by decide +kernel
theorem dX4_goBack_49 : decode cX4_goBack 49 = .ok (.ifCond .lt 24, 3) := by decide +kernel
theorem dX4_goBack_52 : decode cX4_goBack 52 = .ok (.aload_n 0, 1) := by decide +kernel
theorem dX4_goBack_53 : decode cX4_goBack 53 = .ok (.getfield 18, 3) := by decide +kernel
theorem dX4_goBack_56 : decode cX4_goBack 56 = .ok (.iload_n 2, 1) := by decide +kernel
theorem dX4_goBack_57 : decode cX4_goBack 57 = .ok (.iload_n 1, 1) := by decide +kernel
theorem dX4_goBack_58 : decode cX4_goBack 58 = .ok (.bipush 8, 2) := by decide +kernel
theorem dX4_goBack_60 : decode cX4_goBack 60 = .ok (.irem, 1) := by decide +kernel
theorem dX4_goBack_61 : decode cX4_goBack 61 = .ok (.iastore, 1) := by decide +kernel
theorem dX4_goBack_62 : decode cX4_goBack 62 = .ok (.iload_n 1, 1) := by decide +kernel
theorem dX4_goBack_63 : decode cX4_goBack 63 = .ok (.bipush 8, 2) := by decide +kernel
theorem dX4_goBack_65 : decode cX4_goBack 65 = .ok (.idiv, 1) := by decide +kernel
theorem dX4_goBack_66 : decode cX4_goBack 66 = .ok (.istore_n 1, 1) := by decide +kernel
theorem dX4_goBack_67 : decode cX4_goBack 67 = .ok (.iinc 2 (-1), 3) := by decide +kernel
theorem dX4_goBack_70 : decode cX4_goBack 70 = .ok (.goto (-22), 3) := by decide +kernel
theorem dX4_goBack_73 : decode cX4_goBack 73 = .ok (.aload_n 0, 1) := by decide +kernel
theorem dX4_goBack_74 : decode cX4_goBack 74 = .ok (.getfield 43, 3) := by decide +kernel
theorem dX4_goBack_77 : decode cX4_goBack 77 = .ok (.ireturn, 1) := by decide +kernel
theorem dX4_addHeard_0 : decode cX4_addHeard 0 = .ok (.aload_n 0, 1) := by decide +kernel
theorem dX4_addHeard_1 : decode cX4_addHeard 1 = .ok (.getfield 34, 3) := by decide +kernel
theorem dX4_addHeard_4 : decode cX4_addHeard 4 = .ok (.aload_n 0, 1) := by decide +kernel
theorem dX4_addHeard_5 : decode cX4_addHeard 5 = .ok (.getfield 53, 3) := by decide +kernel
theorem dX4_addHeard_8 : decode cX4_addHeard 8 = .ok (.iload_n 1, 1) := by decide +kernel
theorem dX4_addHeard_9 : decode cX4_addHeard 9 = .ok (.iastore, 1) := by decide +kernel
theorem dX4_addHeard_10 : decode cX4_addHeard 10 = .ok (.aload_n 0, 1) := by decide +kernel
theorem dX4_addHeard_11 : decode cX4_addHeard 11 = .ok (.getfield 37, 3) := by decide +kernel
theorem dX4_addHeard_14 : decode cX4_addHeard 14 = .ok (.aload_n 0, 1) := by decide +kernel
theorem dX4_addHeard_15 : decode cX4_addHeard 15 = .ok (.getfield 53, 3) := by decide +kernel
theorem dX4_addHeard_18 : decode cX4_addHeard 18 = .ok (.iload_n 2, 1) := by decide +kernel
theorem dX4_addHeard_19 : decode cX4_addHeard 19 = .ok (.iastore, 1) := by decide +kernel
theorem dX4_addHeard_20 : decode cX4_addHeard 20 = .ok (.aload_n 0, 1) := by decide +kernel
theorem dX4_addHeard_21 : decode cX4_addHeard 21 = .ok (.getfield 40, 3) := by decide +kernel
theorem dX4_addHeard_24 : decode cX4_addHeard 24 = .ok (.aload_n 0, 1) := by decide +kernel
theorem dX4_addHeard_25 : decode cX4_addHeard 25 = .ok (.getfield 53, 3) := by decide +kernel
theorem dX4_addHeard_28 : decode cX4_addHeard 28 = .ok (.iload_n 3, 1) := by decide +kernel
theorem dX4_addHeard_29 : decode cX4_addHeard 29 = .ok (.iastore, 1) := by decide +kernel
theorem dX4_addHeard_30 : decode cX4_addHeard 30 = .ok (.aload_n 0, 1) := by decide +kernel
theorem dX4_addHeard_31 : decode cX4_addHeard 31 = .ok (.dup, 1) := by decide +kernel
theorem dX4_addHeard_32 : decode cX4_addHeard 32 = .ok (.getfield 53, 3) := by decide +kernel
theorem dX4_addHeard_35 : decode cX4_addHeard 35 = .ok (.iconst 1, 1) := by decide +kernel
theorem dX4_addHeard_36 : decode cX4_addHeard 36 = .ok (.iadd, 1) := by decide +kernel
theorem dX4_addHeard_37 : decode cX4_addHeard 37 = .ok (.putfield 53, 3) := by decide +kernel
theorem dX4_addHeard_40 : decode cX4_addHeard 40 = .ok (.aload_n 0, 1) := by decide +kernel
theorem dX4_addHeard_41 : decode cX4_addHeard 41 = .ok (.getfield 53, 3) := by decide +kernel
theorem dX4_addHeard_44 : decode cX4_addHeard 44 = .ok (.ireturn, 1) := by decide +kernel
theorem dX4_toldOf_0 : decode cX4_toldOf 0 = .ok (.iconst 0, 1) := by decide +kernel
theorem dX4_toldOf_1 : decode cX4_toldOf 1 = .ok (.istore_n 3, 1) := by decide +kernel
theorem dX4_toldOf_2 : decode cX4_toldOf 2 = .ok (.iconst 0, 1) := by decide +kernel
theorem dX4_toldOf_3 : decode cX4_toldOf 3 = .ok (.istore 4, 2) := by decide +kernel
theorem dX4_toldOf_5 : decode cX4_toldOf 5 = .ok (.iload 4, 2) := by decide +kernel
theorem dX4_toldOf_7 : decode cX4_toldOf 7 = .ok (.aload_n 0, 1) := by decide +kernel
theorem dX4_toldOf_8 : decode cX4_toldOf 8 = .ok (.getfield 53, 3) := by decide +kernel
theorem dX4_toldOf_11 : decode cX4_toldOf 11 = .ok (.if_icmp .ge 43, 3) := by decide +kernel
theorem dX4_toldOf_14 : decode cX4_toldOf 14 = .ok (.aload_n 0, 1) := by decide +kernel
theorem dX4_toldOf_15 : decode cX4_toldOf 15 = .ok (.getfield 37, 3) := by decide +kernel
theorem dX4_toldOf_18 : decode cX4_toldOf 18 = .ok (.iload 4, 2) := by decide +kernel
theorem dX4_toldOf_20 : decode cX4_toldOf 20 = .ok (.iaload, 1) := by decide +kernel
theorem dX4_toldOf_21 : decode cX4_toldOf 21 = .ok (.iload_n 1, 1) := by decide +kernel
theorem dX4_toldOf_22 : decode cX4_toldOf 22 = .ok (.if_icmp .ne 26, 3) := by decide +kernel
theorem dX4_toldOf_25 : decode cX4_toldOf 25 = .ok (.aload_n 0, 1) := by decide +kernel
theorem dX4_toldOf_26 : decode cX4_toldOf 26 = .ok (.getfield 40, 3) := by decide +kernel
theorem dX4_toldOf_29 : decode cX4_toldOf 29 = .ok (.iload 4, 2) := by decide +kernel
theorem dX4_toldOf_31 : decode cX4_toldOf 31 = .ok (.iaload, 1) := by decide +kernel
theorem dX4_toldOf_32 : decode cX4_toldOf 32 = .ok (.iload_n 2, 1) := by decide +kernel
theorem dX4_toldOf_33 : decode cX4_toldOf 33 = .ok (.if_icmp .ne 15, 3) := by decide +kernel
theorem dX4_toldOf_36 : decode cX4_toldOf 36 = .ok (.iload_n 3, 1) := by decide +kernel
theorem dX4_toldOf_37 : decode cX4_toldOf 37 = .ok (.iconst 1, 1) := by decide +kernel
theorem dX4_toldOf_38 : decode cX4_toldOf 38 = .ok (.aload_n 0, 1) := by decide +kernel
theorem dX4_toldOf_39 : decode cX4_toldOf 39 = .ok (.getfield 34, 3) := by decide +kernel
theorem dX4_toldOf_42 : decode cX4_toldOf 42 = .ok (.iload 4, 2) := by decide +kernel
theorem dX4_toldOf_44 : decode cX4_toldOf 44 = .ok (.iaload, 1) := by decide +kernel
theorem dX4_toldOf_45 : decode cX4_toldOf 45 = .ok (.ishl, 1) := by decide +kernel
theorem dX4_toldOf_46 : decode cX4_toldOf 46 = .ok (.ior, 1) := by decide +kernel
theorem dX4_toldOf_47 : decode cX4_toldOf 47 = .ok (.istore_n 3, 1) := by decide +kernel
theorem dX4_toldOf_48 : decode cX4_toldOf 48 = .ok (.iinc 4 1, 3) := by decide +kernel
theorem dX4_toldOf_51 : decode cX4_toldOf 51 = .ok (.goto (-46), 3) := by decide +kernel
theorem dX4_toldOf_54 : decode cX4_toldOf 54 = .ok (.iload_n 3, 1) := by decide +kernel
theorem dX4_toldOf_55 : decode cX4_toldOf 55 = .ok (.ireturn, 1) := by decide +kernel
theorem dX4_awakeAfter_0 : decode cX4_awakeAfter 0 = .ok (.aload_n 0, 1) := by decide +kernel
theorem dX4_awakeAfter_1 : decode cX4_awakeAfter 1 = .ok (.getfield 18, 3) := by decide +kernel
theorem dX4_awakeAfter_4 : decode cX4_awakeAfter 4 = .ok (.iconst 0, 1) := by decide +kernel
theorem dX4_awakeAfter_5 : decode cX4_awakeAfter 5 = .ok (.aload_n 0, 1) := by decide +kernel
theorem dX4_awakeAfter_6 : decode cX4_awakeAfter 6 = .ok (.getfield 22, 3) := by decide +kernel
theorem dX4_awakeAfter_9 : decode cX4_awakeAfter 9 = .ok (.iconst 0, 1) := by decide +kernel
theorem dX4_awakeAfter_10 : decode cX4_awakeAfter 10 = .ok (.iconst 3, 1) := by decide +kernel
theorem dX4_awakeAfter_11 : decode cX4_awakeAfter 11 = .ok (.invokestatic 60, 3) := by decide +kernel
theorem dX4_awakeAfter_14 : decode cX4_awakeAfter 14 = .ok (.iload_n 1, 1) := by decide +kernel
theorem dX4_awakeAfter_15 : decode cX4_awakeAfter 15 = .ok (.i2l, 1) := by decide +kernel
theorem dX4_awakeAfter_16 : decode cX4_awakeAfter 16 = .ok (.lstore_n 3, 1) := by decide +kernel
theorem dX4_awakeAfter_17 : decode cX4_awakeAfter 17 = .ok (.aload_n 0, 1) := by decide +kernel
theorem dX4_awakeAfter_18 : decode cX4_awakeAfter 18 = .ok (.getfield 47, 3) := by decide +kernel
theorem dX4_awakeAfter_21 : decode cX4_awakeAfter 21 = .ok (.istore 5, 2) := by decide +kernel
theorem dX4_awakeAfter_23 : decode cX4_awakeAfter 23 = .ok (.aload_n 0, 1) := by decide +kernel
theorem dX4_awakeAfter_24 : decode cX4_awakeAfter 24 = .ok (.getfield 43, 3) := by decide +kernel
theorem dX4_awakeAfter_27 : decode cX4_awakeAfter 27 = .ok (.istore 6, 2) := by decide +kernel
theorem dX4_awakeAfter_29 : decode cX4_awakeAfter 29 = .ok (.iconst 0, 1) := by decide +kernel
theorem dX4_awakeAfter_30 : decode cX4_awakeAfter 30 = .ok (.istore 7, 2) := by decide +kernel
theorem dX4_awakeAfter_32 : decode cX4_awakeAfter 32 = .ok (.iload 7, 2) := by decide +kernel
theorem dX4_awakeAfter_34 : decode cX4_awakeAfter 34 = .ok (.iload_n 2, 1) := by decide +kernel
theorem dX4_awakeAfter_35 : decode cX4_awakeAfter 35 = .ok (.if_icmp .ge 115, 3) := by decide +kernel
theorem dX4_awakeAfter_38 : decode cX4_awakeAfter 38 = .ok (.iconst 0, 1) := by decide +kernel
theorem dX4_awakeAfter_39 : decode cX4_awakeAfter 39 = .ok (.istore 8, 2) := by decide +kernel
theorem dX4_awakeAfter_41 : decode cX4_awakeAfter 41 = .ok (.iload 8, 2) := by decide +kernel
theorem dX4_awakeAfter_43 : decode cX4_awakeAfter 43 = .ok (.iconst 3, 1) := by decide +kernel
theorem dX4_awakeAfter_44 : decode cX4_awakeAfter 44 = .ok (.if_icmp .ge 89, 3) := by decide +kernel
theorem dX4_awakeAfter_47 : decode cX4_awakeAfter 47 = .ok (.lload_n 3, 1) := by decide +kernel
theorem dX4_awakeAfter_48 : decode cX4_awakeAfter 48 = .ok (.ldc2_w 82, 3) := by decide +kernel
theorem dX4_awakeAfter_51 : decode cX4_awakeAfter 51 = .ok (.lmul, 1) := by decide +kernel
theorem dX4_awakeAfter_52 : decode cX4_awakeAfter 52 = .ok (.ldc2_w 84, 3) := by decide +kernel
theorem dX4_awakeAfter_55 : decode cX4_awakeAfter 55 = .ok (.ladd, 1) := by decide +kernel
theorem dX4_awakeAfter_56 : decode cX4_awakeAfter 56 = .ok (.ldc2_w 86, 3) := by decide +kernel
theorem dX4_awakeAfter_59 : decode cX4_awakeAfter 59 = .ok (.lrem, 1) := by decide +kernel
theorem dX4_awakeAfter_60 : decode cX4_awakeAfter 60 = .ok (.lstore_n 3, 1) := by decide +kernel
theorem dX4_awakeAfter_61 : decode cX4_awakeAfter 61 = .ok (.lload_n 3, 1) := by decide +kernel
theorem dX4_awakeAfter_62 : decode cX4_awakeAfter 62 = .ok (.ldc2_w 88, 3) := by decide +kernel
theorem dX4_awakeAfter_65 : decode cX4_awakeAfter 65 = .ok (.ldiv, 1) := by decide +kernel
theorem dX4_awakeAfter_66 : decode cX4_awakeAfter 66 = .ok (.ldc2_w 90, 3) := by decide +kernel
theorem dX4_awakeAfter_69 : decode cX4_awakeAfter 69 = .ok (.lrem, 1) := by decide +kernel
theorem dX4_awakeAfter_70 : decode cX4_awakeAfter 70 = .ok (.l2i, 1) := by decide +kernel
theorem dX4_awakeAfter_71 : decode cX4_awakeAfter 71 = .ok (.istore 9, 2) := by decide +kernel
theorem dX4_awakeAfter_73 : decode cX4_awakeAfter 73 = .ok (.aload_n 0, 1) := by decide +kernel
theorem dX4_awakeAfter_74 : decode cX4_awakeAfter 74 = .ok (.getfield 12, 3) := by decide +kernel
theorem dX4_awakeAfter_77 : decode cX4_awakeAfter 77 = .ok (.getfield 92, 3) := by decide +kernel
theorem dX4_awakeAfter_80 : decode cX4_awakeAfter 80 = .ok (.aload_n 0, 1) := by decide +kernel
theorem dX4_awakeAfter_81 : decode cX4_awakeAfter 81 = .ok (.getfield 22, 3) := by decide +kernel
theorem dX4_awakeAfter_84 : decode cX4_awakeAfter 84 = .ok (.iload 8, 2) := by decide +kernel
theorem dX4_awakeAfter_86 : decode cX4_awakeAfter 86 = .ok (.iaload, 1) := by decide +kernel
theorem dX4_awakeAfter_87 : decode cX4_awakeAfter 87 = .ok (.iload 9, 2) := by decide +kernel
theorem dX4_awakeAfter_89 : decode cX4_awakeAfter 89 = .ok (.invokestatic 95, 3) := by decide +kernel
theorem dX4_awakeAfter_92 : decode cX4_awakeAfter 92 = .ok (.iaload, 1) := by decide +kernel
theorem dX4_awakeAfter_93 : decode cX4_awakeAfter 93 = .ok (.istore 10, 2) := by decide +kernel
theorem dX4_awakeAfter_95 : decode cX4_awakeAfter 95 = .ok (.iload 10, 2) := by decide +kernel
theorem dX4_awakeAfter_97 : decode cX4_awakeAfter 97 = .ok (.ifCond .lt 30, 3) := by decide +kernel
theorem dX4_awakeAfter_100 : decode cX4_awakeAfter 100 = .ok (.iload 5, 2) := by decide +kernel
theorem dX4_awakeAfter_102 : decode cX4_awakeAfter 102 = .ok (.aload_n 0, 1) := by decide +kernel
theorem dX4_awakeAfter_103 : decode cX4_awakeAfter 103 = .ok (.getfield 12, 3) := by decide +kernel
theorem dX4_awakeAfter_106 : decode cX4_awakeAfter 106 = .ok (.iload 10, 2) := by decide +kernel
theorem dX4_awakeAfter_108 : decode cX4_awakeAfter 108 = .ok (.iload 9, 2) := by decide +kernel
theorem dX4_awakeAfter_110 : decode cX4_awakeAfter 110 = .ok (.iload 6, 2) := by decide +kernel
theorem dX4_awakeAfter_112 : decode cX4_awakeAfter 112 = .ok (.invokevirtual 69, 3) := by decide +kernel
theorem dX4_awakeAfter_115 : decode cX4_awakeAfter 115 = .ok (.ior, 1) := by decide +kernel
theorem dX4_awakeAfter_116 : decode cX4_awakeAfter 116 = .ok (.istore 5, 2) := by decide +kernel
theorem dX4_awakeAfter_118 : decode cX4_awakeAfter 118 = .ok (.aload_n 0, 1) := by decide +kernel
theorem dX4_awakeAfter_119 : decode cX4_awakeAfter 119 = .ok (.getfield 22, 3) := by decide +kernel
theorem dX4_awakeAfter_122 : decode cX4_awakeAfter 122 = .ok (.iload 8, 2) := by decide +kernel
theorem dX4_awakeAfter_124 : decode cX4_awakeAfter 124 = .ok (.iload 9, 2) := by decide +kernel
theorem dX4_awakeAfter_126 : decode cX4_awakeAfter 126 = .ok (.iastore, 1) := by decide +kernel
theorem dX4_awakeAfter_127 : decode cX4_awakeAfter 127 = .ok (.iinc 8 1, 3) := by decide +kernel
theorem dX4_awakeAfter_130 : decode cX4_awakeAfter 130 = .ok (.goto (-89), 3) := by decide +kernel
theorem dX4_awakeAfter_133 : decode cX4_awakeAfter 133 = .ok (.iload 6, 2) := by decide +kernel
theorem dX4_awakeAfter_135 : decode cX4_awakeAfter 135 = .ok (.iconst 1, 1) := by decide +kernel
theorem dX4_awakeAfter_136 : decode cX4_awakeAfter 136 = .ok (.iadd, 1) := by decide +kernel
theorem dX4_awakeAfter_137 : decode cX4_awakeAfter 137 = .ok (.bipush 59, 2) := by decide +kernel
theorem dX4_awakeAfter_139 : decode cX4_awakeAfter 139 = .ok (.invokestatic 73, 3) := by decide +kernel
theorem dX4_awakeAfter_142 : decode cX4_awakeAfter 142 = .ok (.istore 6, 2) := by decide +kernel
theorem dX4_awakeAfter_144 : decode cX4_awakeAfter 144 = .ok (.iinc 7 1, 3) := by decide +kernel
theorem dX4_awakeAfter_147 : decode cX4_awakeAfter 147 = .ok (.goto (-115), 3) := by decide +kernel
theorem dX4_awakeAfter_150 : decode cX4_awakeAfter 150 = .ok (.iload 5, 2) := by decide +kernel
theorem dX4_awakeAfter_152 : decode cX4_awakeAfter 152 = .ok (.invokestatic 98, 3) := by decide +kernel
theorem dX4_awakeAfter_155 : decode cX4_awakeAfter 155 = .ok (.ireturn, 1) := by decide +kernel
theorem dX4_foldSleepersAndPupils_0 : decode cX4_foldSleepersAndPupils 0 = .ok (.lload_n 1, 1) := by decide +kernel
theorem dX4_foldSleepersAndPupils_1 : decode cX4_foldSleepersAndPupils 1 = .ok (.lstore_n 3, 1) := by decide +kernel
theorem dX4_foldSleepersAndPupils_2 : decode cX4_foldSleepersAndPupils 2 = .ok (.iconst 0, 1) := by decide +kernel
theorem dX4_foldSleepersAndPupils_3 : decode cX4_foldSleepersAndPupils 3 = .ok (.istore 5, 2) := by decide +kernel
theorem dX4_foldSleepersAndPupils_5 : decode cX4_foldSleepersAndPupils 5 = .ok (.iload 5, 2) := by decide +kernel
theorem dX4_foldSleepersAndPupils_7 : decode cX4_foldSleepersAndPupils 7 = .ok (.aload_n 0, 1) := by decide +kernel
theorem dX4_foldSleepersAndPupils_8 : decode cX4_foldSleepersAndPupils 8 = .ok (.getfield 12, 3) := by decide +kernel
theorem dX4_foldSleepersAndPupils_11 : decode cX4_foldSleepersAndPupils 11 = .ok (.getfield 104, 3) := by decide +kernel
theorem dX4_foldSleepersAndPupils_14 : decode cX4_foldSleepersAndPupils 14 = .ok (.if_icmp .ge 80, 3) := by decide +kernel
theorem dX4_foldSleepersAndPupils_17 : decode cX4_foldSleepersAndPupils 17 = .ok (.ldc2_w 107, 3) := by decide +kernel
theorem dX4_foldSleepersAndPupils_20 : decode cX4_foldSleepersAndPupils 20 = .ok (.lload_n 3, 1) := by decide +kernel
theorem dX4_foldSleepersAndPupils_21 : decode cX4_foldSleepersAndPupils 21 = .ok (.lmul, 1) := by decide +kernel
theorem dX4_foldSleepersAndPupils_22 : decode cX4_foldSleepersAndPupils 22 = .ok (.aload_n 0, 1) := by decide +kernel
theorem dX4_foldSleepersAndPupils_23 : decode cX4_foldSleepersAndPupils 23 = .ok (.getfield 12, 3) := by decide +kernel
theorem dX4_foldSleepersAndPupils_26 : decode cX4_foldSleepersAndPupils 26 = .ok (.getfield 109, 3) := by decide +kernel
theorem dX4_foldSleepersAndPupils_29 : decode cX4_foldSleepersAndPupils 29 = .ok (.iload 5, 2) := by decide +kernel
theorem dX4_foldSleepersAndPupils_31 : decode cX4_foldSleepersAndPupils 31 = .ok (.iaload, 1) := by decide +kernel
theorem dX4_foldSleepersAndPupils_32 : decode cX4_foldSleepersAndPupils 32 = .ok (.i2l, 1) := by decide +kernel
theorem dX4_foldSleepersAndPupils_33 : decode cX4_foldSleepersAndPupils 33 = .ok (.ladd, 1) := by decide +kernel
theorem dX4_foldSleepersAndPupils_34 : decode cX4_foldSleepersAndPupils 34 = .ok (.lstore_n 3, 1) := by decide +kernel
theorem dX4_foldSleepersAndPupils_35 : decode cX4_foldSleepersAndPupils 35 = .ok (.ldc2_w 107, 3) := by decide +kernel
theorem dX4_foldSleepersAndPupils_38 : decode cX4_foldSleepersAndPupils 38 = .ok (.lload_n 3, 1) := by decide +kernel
theorem dX4_foldSleepersAndPupils_39 : decode cX4_foldSleepersAndPupils 39 = .ok (.lmul, 1) := by decide +kernel
theorem dX4_foldSleepersAndPupils_40 : decode cX4_foldSleepersAndPupils 40 = .ok (.aload_n 0, 1) := by decide +kernel
theorem dX4_foldSleepersAndPupils_41 : decode cX4_foldSleepersAndPupils 41 = .ok (.getfield 12, 3) := by decide +kernel
theorem dX4_foldSleepersAndPupils_44 : decode cX4_foldSleepersAndPupils 44 = .ok (.getfield 112, 3) := by decide +kernel
theorem dX4_foldSleepersAndPupils_47 : decode cX4_foldSleepersAndPupils 47 = .ok (.iload 5, 2) := by decide +kernel
theorem dX4_foldSleepersAndPupils_49 : decode cX4_foldSleepersAndPupils 49 = .ok (.iaload, 1) := by decide +kernel
theorem dX4_foldSleepersAndPupils_50 : decode cX4_foldSleepersAndPupils 50 = .ok (.i2l, 1) := by decide +kernel
theorem dX4_foldSleepersAndPupils_51 : decode cX4_foldSleepersAndPupils 51 = .ok (.ladd, 1) := by decide +kernel
theorem dX4_foldSleepersAndPupils_52 : decode cX4_foldSleepersAndPupils 52 = .ok (.lstore_n 3, 1) := by decide +kernel
theorem dX4_foldSleepersAndPupils_53 : decode cX4_foldSleepersAndPupils 53 = .ok (.ldc2_w 107, 3) := by decide +kernel
theorem dX4_foldSleepersAndPupils_56 : decode cX4_foldSleepersAndPupils 56 = .ok (.lload_n 3, 1) := by decide +kernel
theorem dX4_foldSleepersAndPupils_57 : decode cX4_foldSleepersAndPupils 57 = .ok (.lmul, 1) := by decide +kernel
theorem dX4_foldSleepersAndPupils_58 : decode cX4_foldSleepersAndPupils 58 = .ok (.aload_n 0, 1) := by decide +kernel
theorem dX4_foldSleepersAndPupils_59 : decode cX4_foldSleepersAndPupils 59 = .ok (.getfield 12, 3) := by decide +kernel
theorem dX4_foldSleepersAndPupils_62 : decode cX4_foldSleepersAndPupils 62 = .ok (.getfield 115, 3) := by decide +kernel
theorem dX4_foldSleepersAndPupils_65 : decode cX4_foldSleepersAndPupils 65 = .ok (.iload 5, 2) := by decide +kernel
theorem dX4_foldSleepersAndPupils_67 : decode cX4_foldSleepersAndPupils 67 = .ok (.iaload, 1) := by decide +kernel
theorem dX4_foldSleepersAndPupils_68 : decode cX4_foldSleepersAndPupils 68 = .ok (.i2l, 1) := by decide +kernel
theorem dX4_foldSleepersAndPupils_69 : decode cX4_foldSleepersAndPupils 69 = .ok (.ladd, 1) := by decide +kernel
theorem dX4_foldSleepersAndPupils_70 : decode cX4_foldSleepersAndPupils 70 = .ok (.lstore_n 3, 1) := by decide +kernel
theorem dX4_foldSleepersAndPupils_71 : decode cX4_foldSleepersAndPupils 71 = .ok (.ldc2_w 107, 3) := by decide +kernel
theorem dX4_foldSleepersAndPupils_74 : decode cX4_foldSleepersAndPupils 74 = .ok (.lload_n 3, 1) := by decide +kernel
theorem dX4_foldSleepersAndPupils_75 : decode cX4_foldSleepersAndPupils 75 = .ok (.lmul, 1) := by decide +kernel
theorem dX4_foldSleepersAndPupils_76 : decode cX4_foldSleepersAndPupils 76 = .ok (.aload_n 0, 1) := by decide +kernel
theorem dX4_foldSleepersAndPupils_77 : decode cX4_foldSleepersAndPupils 77 = .ok (.getfield 47, 3) := by decide +kernel
theorem dX4_foldSleepersAndPupils_80 : decode cX4_foldSleepersAndPupils 80 = .ok (.iload 5, 2) := by decide +kernel
theorem dX4_foldSleepersAndPupils_82 : decode cX4_foldSleepersAndPupils 82 = .ok (.invokestatic 118, 3) := by decide +kernel
theorem dX4_foldSleepersAndPupils_85 : decode cX4_foldSleepersAndPupils 85 = .ok (.i2l, 1) := by decide +kernel
theorem dX4_foldSleepersAndPupils_86 : decode cX4_foldSleepersAndPupils 86 = .ok (.ladd, 1) := by decide +kernel
theorem dX4_foldSleepersAndPupils_87 : decode cX4_foldSleepersAndPupils 87 = .ok (.lstore_n 3, 1) := by decide +kernel
theorem dX4_foldSleepersAndPupils_88 : decode cX4_foldSleepersAndPupils 88 = .ok (.iinc 5 1, 3) := by decide +kernel
theorem dX4_foldSleepersAndPupils_91 : decode cX4_foldSleepersAndPupils 91 = .ok (.goto (-86), 3) := by decide +kernel
theorem dX4_foldSleepersAndPupils_94 : decode cX4_foldSleepersAndPupils 94 = .ok (.iconst 0, 1) := by decide +kernel
theorem dX4_foldSleepersAndPupils_95 : decode cX4_foldSleepersAndPupils 95 = .ok (.istore 5, 2) := by decide +kernel
theorem dX4_foldSleepersAndPupils_97 : decode cX4_foldSleepersAndPupils 97 = .ok (.iload 5, 2) := by decide +kernel
theorem dX4_foldSleepersAndPupils_99 : decode cX4_foldSleepersAndPupils 99 = .ok (.iconst 3, 1) := by decide +kernel
theorem dX4_foldSleepersAndPupils_100 : decode cX4_foldSleepersAndPupils 100 = .ok (.if_icmp .ge 24, 3) := by decide +kernel
theorem dX4_foldSleepersAndPupils_103 : decode cX4_foldSleepersAndPupils 103 = .ok (.ldc2_w 107, 3) := by decide +kernel
theorem dX4_foldSleepersAndPupils_106 : decode cX4_foldSleepersAndPupils 106 = .ok (.lload_n 3, 1) := by decide +kernel
theorem dX4_foldSleepersAndPupils_107 : decode cX4_foldSleepersAndPupils 107 = .ok (.lmul, 1) := by decide +kernel
theorem dX4_foldSleepersAndPupils_108 : decode cX4_foldSleepersAndPupils 108 = .ok (.aload_n 0, 1) := by decide +kernel
theorem dX4_foldSleepersAndPupils_109 : decode cX4_foldSleepersAndPupils 109 = .ok (.getfield 18, 3) := by decide +kernel
theorem dX4_foldSleepersAndPupils_112 : decode cX4_foldSleepersAndPupils 112 = .ok (.iload 5, 2) := by decide +kernel
theorem dX4_foldSleepersAndPupils_114 : decode cX4_foldSleepersAndPupils 114 = .ok (.iaload, 1) := by decide +kernel
theorem dX4_foldSleepersAndPupils_115 : decode cX4_foldSleepersAndPupils 115 = .ok (.i2l, 1) := by decide +kernel
theorem dX4_foldSleepersAndPupils_116 : decode cX4_foldSleepersAndPupils 116 = .ok (.ladd, 1) := by decide +kernel
theorem dX4_foldSleepersAndPupils_117 : decode cX4_foldSleepersAndPupils 117 = .ok (.lstore_n 3, 1) := by decide +kernel
theorem dX4_foldSleepersAndPupils_118 : decode cX4_foldSleepersAndPupils 118 = .ok (.iinc 5 1, 3) := by decide +kernel
theorem dX4_foldSleepersAndPupils_121 : decode cX4_foldSleepersAndPupils 121 = .ok (.goto (-24), 3) := by decide +kernel
theorem dX4_foldSleepersAndPupils_124 : decode cX4_foldSleepersAndPupils 124 = .ok (.lload_n 3, 1) := by decide +kernel
theorem dX4_foldSleepersAndPupils_125 : decode cX4_foldSleepersAndPupils 125 = .ok (.lreturn, 1) := by decide +kernel
theorem dX4_foldHeard_0 : decode cX4_foldHeard 0 = .ok (.lload_n 1, 1) := by decide +kernel
theorem dX4_foldHeard_1 : decode cX4_foldHeard 1 = .ok (.lstore_n 3, 1) := by decide +kernel
theorem dX4_foldHeard_2 : decode cX4_foldHeard 2 = .ok (.iconst 0, 1) := by decide +kernel
theorem dX4_foldHeard_3 : decode cX4_foldHeard 3 = .ok (.istore 5, 2) := by decide +kernel
theorem dX4_foldHeard_5 : decode cX4_foldHeard 5 = .ok (.iload 5, 2) := by decide +kernel
theorem dX4_foldHeard_7 : decode cX4_foldHeard 7 = .ok (.aload_n 0, 1) := by decide +kernel
theorem dX4_foldHeard_8 : decode cX4_foldHeard 8 = .ok (.getfield 53, 3) := by decide +kernel
theorem dX4_foldHeard_11 : decode cX4_foldHeard 11 = .ok (.if_icmp .ge 54, 3) := by decide +kernel
theorem dX4_foldHeard_14 : decode cX4_foldHeard 14 = .ok (.ldc2_w 107, 3) := by decide +kernel
theorem dX4_foldHeard_17 : decode cX4_foldHeard 17 = .ok (.lload_n 3, 1) := by decide +kernel
theorem dX4_foldHeard_18 : decode cX4_foldHeard 18 = .ok (.lmul, 1) := by decide +kernel
theorem dX4_foldHeard_19 : decode cX4_foldHeard 19 = .ok (.aload_n 0, 1) := by decide +kernel
theorem dX4_foldHeard_20 : decode cX4_foldHeard 20 = .ok (.getfield 34, 3) := by decide +kernel
theorem dX4_foldHeard_23 : decode cX4_foldHeard 23 = .ok (.iload 5, 2) := by decide +kernel
theorem dX4_foldHeard_25 : decode cX4_foldHeard 25 = .ok (.iaload, 1) := by decide +kernel
theorem dX4_foldHeard_26 : decode cX4_foldHeard 26 = .ok (.i2l, 1) := by decide +kernel
theorem dX4_foldHeard_27 : decode cX4_foldHeard 27 = .ok (.ladd, 1) := by decide +kernel
theorem dX4_foldHeard_28 : decode cX4_foldHeard 28 = .ok (.lstore_n 3, 1) := by decide +kernel
theorem dX4_foldHeard_29 : decode cX4_foldHeard 29 = .ok (.ldc2_w 107, 3) := by decide +kernel
theorem dX4_foldHeard_32 : decode cX4_foldHeard 32 = .ok (.lload_n 3, 1) := by decide +kernel
theorem dX4_foldHeard_33 : decode cX4_foldHeard 33 = .ok (.lmul, 1) := by decide +kernel
theorem dX4_foldHeard_34 : decode cX4_foldHeard 34 = .ok (.aload_n 0, 1) := by decide +kernel
theorem dX4_foldHeard_35 : decode cX4_foldHeard 35 = .ok (.getfield 37, 3) := by decide +kernel
theorem dX4_foldHeard_38 : decode cX4_foldHeard 38 = .ok (.iload 5, 2) := by decide +kernel
theorem dX4_foldHeard_40 : decode cX4_foldHeard 40 = .ok (.iaload, 1) := by decide +kernel
theorem dX4_foldHeard_41 : decode cX4_foldHeard 41 = .ok (.i2l, 1) := by decide +kernel
theorem dX4_foldHeard_42 : decode cX4_foldHeard 42 = .ok (.ladd, 1) := by decide +kernel
theorem dX4_foldHeard_43 : decode cX4_foldHeard 43 = .ok (.lstore_n 3, 1) := by decide +kernel
theorem dX4_foldHeard_44 : decode cX4_foldHeard 44 = .ok (.ldc2_w 107, 3) := by decide +kernel
theorem dX4_foldHeard_47 : decode cX4_foldHeard 47 = .ok (.lload_n 3, 1) := by decide +kernel
theorem dX4_foldHeard_48 : decode cX4_foldHeard 48 = .ok (.lmul, 1) := by decide +kernel
theorem dX4_foldHeard_49 : decode cX4_foldHeard 49 = .ok (.aload_n 0, 1) := by decide +kernel
theorem dX4_foldHeard_50 : decode cX4_foldHeard 50 = .ok (.getfield 40, 3) := by decide +kernel
theorem dX4_foldHeard_53 : decode cX4_foldHeard 53 = .ok (.iload 5, 2) := by decide +kernel
theorem dX4_foldHeard_55 : decode cX4_foldHeard 55 = .ok (.iaload, 1) := by decide +kernel
theorem dX4_foldHeard_56 : decode cX4_foldHeard 56 = .ok (.i2l, 1) := by decide +kernel
theorem dX4_foldHeard_57 : decode cX4_foldHeard 57 = .ok (.ladd, 1) := by decide +kernel
theorem dX4_foldHeard_58 : decode cX4_foldHeard 58 = .ok (.lstore_n 3, 1) := by decide +kernel
theorem dX4_foldHeard_59 : decode cX4_foldHeard 59 = .ok (.iinc 5 1, 3) := by decide +kernel
theorem dX4_foldHeard_62 : decode cX4_foldHeard 62 = .ok (.goto (-57), 3) := by decide +kernel
theorem dX4_foldHeard_65 : decode cX4_foldHeard 65 = .ok (.lload_n 3, 1) := by decide +kernel
theorem dX4_foldHeard_66 : decode cX4_foldHeard 66 = .ok (.lreturn, 1) := by decide +kernel
theorem dX5_init_0 : decode cX5_init 0 = .ok (.aload_n 0, 1) := by decide +kernel
theorem dX5_init_1 : decode cX5_init 1 = .ok (.invokespecial 1, 3) := by decide +kernel
theorem dX5_init_4 : decode cX5_init 4 = .ok (.return_, 1) := by decide +kernel
theorem dX5_wakingNoise_0 : decode cX5_wakingNoise 0 = .ok (.aload_n 0, 1) := by decide +kernel
theorem dX5_wakingNoise_1 : decode cX5_wakingNoise 1 = .ok (.iload_n 1, 1) := by decide +kernel
theorem dX5_wakingNoise_2 : decode cX5_wakingNoise 2 = .ok (.iload_n 2, 1) := by decide +kernel
theorem dX5_wakingNoise_3 : decode cX5_wakingNoise 3 = .ok (.iload_n 3, 1) := by decide +kernel
theorem dX5_wakingNoise_4 : decode cX5_wakingNoise 4 = .ok (.invokespecial 7, 3) := by decide +kernel
theorem dX5_wakingNoise_7 : decode cX5_wakingNoise 7 = .ok (.istore 4, 2) := by decide +kernel
theorem dX5_wakingNoise_9 : decode cX5_wakingNoise 9 = .ok (.iload_n 2, 1) := by decide +kernel
theorem dX5_wakingNoise_10 : decode cX5_wakingNoise 10 = .ok (.bipush 10, 2) := by decide +kernel
theorem dX5_wakingNoise_12 : decode cX5_wakingNoise 12 = .ok (.irem, 1) := by decide +kernel
theorem dX5_wakingNoise_13 : decode cX5_wakingNoise 13 = .ok (.ifCond .ne 10, 3) := by decide +kernel
theorem dX5_wakingNoise_16 : decode cX5_wakingNoise 16 = .ok (.iload 4, 2) := by decide +kernel
theorem dX5_wakingNoise_18 : decode cX5_wakingNoise 18 = .ok (.iconst 2, 1) := by decide +kernel
theorem dX5_wakingNoise_19 : decode cX5_wakingNoise 19 = .ok (.idiv, 1) := by decide +kernel
theorem dX5_wakingNoise_20 : decode cX5_wakingNoise 20 = .ok (.goto 7, 3) := by decide +kernel
theorem dX5_wakingNoise_23 : decode cX5_wakingNoise 23 = .ok (.iload 4, 2) := by decide +kernel
theorem dX5_wakingNoise_25 : decode cX5_wakingNoise 25 = .ok (.iconst 3, 1) := by decide +kernel
theorem dX5_wakingNoise_26 : decode cX5_wakingNoise 26 = .ok (.iadd, 1) := by decide +kernel
theorem dX5_wakingNoise_27 : decode cX5_wakingNoise 27 = .ok (.ireturn, 1) := by decide +kernel
theorem dX6_init_0 : decode cX6_init 0 = .ok (.aload_n 0, 1) := by decide +kernel
theorem dX6_init_1 : decode cX6_init 1 = .ok (.invokespecial 1, 3) := by decide +kernel
theorem dX6_init_4 : decode cX6_init 4 = .ok (.return_, 1) := by decide +kernel
theorem dX6_wakingNoise_0 : decode cX6_wakingNoise 0 = .ok (.aload_n 0, 1) := by decide +kernel
theorem dX6_wakingNoise_1 : decode cX6_wakingNoise 1 = .ok (.iload_n 1, 1) := by decide +kernel
theorem dX6_wakingNoise_2 : decode cX6_wakingNoise 2 = .ok (.iload_n 2, 1) := by decide +kernel
theorem dX6_wakingNoise_3 : decode cX6_wakingNoise 3 = .ok (.iload_n 3, 1) := by decide +kernel
theorem dX6_wakingNoise_4 : decode cX6_wakingNoise 4 = .ok (.invokespecial 7, 3) := by decide +kernel
theorem dX6_wakingNoise_7 : decode cX6_wakingNoise 7 = .ok (.istore 4, 2) := by decide +kernel
theorem dX6_wakingNoise_9 : decode cX6_wakingNoise 9 = .ok (.iload_n 2, 1) := by decide +kernel
theorem dX6_wakingNoise_10 : decode cX6_wakingNoise 10 = .ok (.bipush 30, 2) := by decide +kernel
theorem dX6_wakingNoise_12 : decode cX6_wakingNoise 12 = .ok (.if_icmp .ge 8, 3) := by decide +kernel
theorem dX6_wakingNoise_15 : decode cX6_wakingNoise 15 = .ok (.iload 4, 2) := by decide +kernel
theorem dX6_wakingNoise_17 : decode cX6_wakingNoise 17 = .ok (.goto 7, 3) := by decide +kernel
theorem dX6_wakingNoise_20 : decode cX6_wakingNoise 20 = .ok (.iconst 2, 1) := by decide +kernel
theorem dX6_wakingNoise_21 : decode cX6_wakingNoise 21 = .ok (.iload 4, 2) := by decide +kernel
theorem dX6_wakingNoise_23 : decode cX6_wakingNoise 23 = .ok (.imul, 1) := by decide +kernel
theorem dX6_wakingNoise_24 : decode cX6_wakingNoise 24 = .ok (.ireturn, 1) := by decide +kernel
theorem dX7_init_0 : decode cX7_init 0 = .ok (.aload_n 0, 1) := by decide +kernel
theorem dX7_init_1 : decode cX7_init 1 = .ok (.invokespecial 1, 3) := by decide +kernel
theorem dX7_init_4 : decode cX7_init 4 = .ok (.return_, 1) := by decide +kernel
theorem dX7_wakingNoise_0 : decode cX7_wakingNoise 0 = .ok (.iload_n 1, 1) := by decide +kernel
theorem dX7_wakingNoise_1 : decode cX7_wakingNoise 1 = .ok (.iconst 2, 1) := by decide +kernel
theorem dX7_wakingNoise_2 : decode cX7_wakingNoise 2 = .ok (.iadd, 1) := by decide +kernel
theorem dX7_wakingNoise_3 : decode cX7_wakingNoise 3 = .ok (.ireturn, 1) := by decide +kernel
theorem dX8_init_0 : decode cX8_init 0 = .ok (.aload_n 0, 1) := by decide +kernel
theorem dX8_init_1 : decode cX8_init 1 = .ok (.invokespecial 3, 3) := by decide +kernel
theorem dX8_init_4 : decode cX8_init 4 = .ok (.aload_n 0, 1) := by decide +kernel
theorem dX8_init_5 : decode cX8_init 5 = .ok (.sipush 150, 3) := by decide +kernel
theorem dX8_init_8 : decode cX8_init 8 = .ok (.newarray .byte, 2) := by decide +kernel
theorem dX8_init_10 : decode cX8_init 10 = .ok (.putfield 9, 3) := by decide +kernel
theorem dX8_init_13 : decode cX8_init 13 = .ok (.return_, 1) := by decide +kernel
theorem dX8_append_0 : decode cX8_append 0 = .ok (.aload_n 0, 1) := by decide +kernel
theorem dX8_append_1 : decode cX8_append 1 = .ok (.getfield 9, 3) := by decide +kernel
theorem dX8_append_4 : decode cX8_append 4 = .ok (.aload_n 0, 1) := by decide +kernel
theorem dX8_append_5 : decode cX8_append 5 = .ok (.getfield 15, 3) := by decide +kernel
theorem dX8_append_8 : decode cX8_append 8 = .ok (.iload_n 1, 1) := by decide +kernel
theorem dX8_append_9 : decode cX8_append 9 = .ok (.i2b, 1) := by decide +kernel
theorem dX8_append_10 : decode cX8_append 10 = .ok (.bastore, 1) := by decide +kernel
theorem dX8_append_11 : decode cX8_append 11 = .ok (.aload_n 0, 1) := by decide +kernel
theorem dX8_append_12 : decode cX8_append 12 = .ok (.dup, 1) := by decide +kernel
theorem dX8_append_13 : decode cX8_append 13 = .ok (.getfield 15, 3) := by decide +kernel
theorem dX8_append_16 : decode cX8_append 16 = .ok (.iconst 1, 1) := by decide +kernel
theorem dX8_append_17 : decode cX8_append 17 = .ok (.iadd, 1) := by decide +kernel
theorem dX8_append_18 : decode cX8_append 18 = .ok (.putfield 15, 3) := by decide +kernel
theorem dX8_append_21 : decode cX8_append 21 = .ok (.aload_n 0, 1) := by decide +kernel
theorem dX8_append_22 : decode cX8_append 22 = .ok (.getfield 15, 3) := by decide +kernel
theorem dX8_append_25 : decode cX8_append 25 = .ok (.ireturn, 1) := by decide +kernel
theorem dX8_readInto_0 : decode cX8_readInto 0 = .ok (.aload_n 1, 1) := by decide +kernel
theorem dX8_readInto_1 : decode cX8_readInto 1 = .ok (.invokevirtual 19, 3) := by decide +kernel
theorem dX8_readInto_4 : decode cX8_readInto 4 = .ok (.aload_n 0, 1) := by decide +kernel
theorem dX8_readInto_5 : decode cX8_readInto 5 = .ok (.iconst 0, 1) := by decide +kernel
theorem dX8_readInto_6 : decode cX8_readInto 6 = .ok (.putfield 24, 3) := by decide +kernel
theorem dX8_readInto_9 : decode cX8_readInto 9 = .ok (.iconst 0, 1) := by decide +kernel
theorem dX8_readInto_10 : decode cX8_readInto 10 = .ok (.istore_n 2, 1) := by decide +kernel
theorem dX8_readInto_11 : decode cX8_readInto 11 = .ok (.aload_n 0, 1) := by decide +kernel
theorem dX8_readInto_12 : decode cX8_readInto 12 = .ok (.invokevirtual 27, 3) := by decide +kernel
theorem dX8_readInto_15 : decode cX8_readInto 15 = .ok (.aload_n 0, 1) := by decide +kernel
theorem dX8_readInto_16 : decode cX8_readInto 16 = .ok (.ldc 30, 2) := by decide +kernel
theorem dX8_readInto_18 : decode cX8_readInto 18 = .ok (.invokevirtual 32, 3) := by decide +kernel
theorem dX8_readInto_21 : decode cX8_readInto 21 = .ok (.ifCond .eq 14, 3) := by decide +kernel
theorem dX8_readInto_24 : decode cX8_readInto 24 = .ok (.aload_n 0, 1) := by decide +kernel
theorem dX8_readInto_25 : decode cX8_readInto 25 = .ok (.invokevirtual 36, 3) := by decide +kernel
theorem dX8_readInto_28 : decode cX8_readInto 28 = .ok (.ifCond .eq 7, 3) := by decide +kernel
theorem dX8_readInto_31 : decode cX8_readInto 31 = .ok (.iconst 1, 1) := by decide +kernel
theorem dX8_readInto_32 : decode cX8_readInto 32 = .ok (.goto 4, 3) := by decide +kernel
theorem dX8_readInto_35 : decode cX8_readInto 35 = .ok (.iconst 0, 1) := by decide +kernel
theorem dX8_readInto_36 : decode cX8_readInto 36 = .ok (.istore_n 3, 1) := by decide +kernel
theorem dX8_readInto_37 : decode cX8_readInto 37 = .ok (.iconst 0, 1) := by decide +kernel
theorem dX8_readInto_38 : decode cX8_readInto 38 = .ok (.istore 4, 2) := by decide +kernel
theorem dX8_readInto_40 : decode cX8_readInto 40 = .ok (.iload_n 3, 1) := by decide +kernel
theorem dX8_readInto_41 : decode cX8_readInto 41 = .ok (.ifCond .eq 39, 3) := by decide +kernel
theorem dX8_readInto_44 : decode cX8_readInto 44 = .ok (.iload 4, 2) := by decide +kernel
theorem dX8_readInto_46 : decode cX8_readInto 46 = .ok (.sipush 150, 3) := by decide +kernel
theorem dX8_readInto_49 : decode cX8_readInto 49 = .ok (.if_icmp .ge 31, 3) := by decide +kernel
theorem dX8_readInto_52 : decode cX8_readInto 52 = .ok (.iinc 2 1, 3) := by decide +kernel
theorem dX8_readInto_55 : decode cX8_readInto 55 = .ok (.aload_n 0, 1) := by decide +kernel
theorem dX8_readInto_56 : decode cX8_readInto 56 = .ok (.invokevirtual 27, 3) := by decide +kernel
theorem dX8_readInto_59 : decode cX8_readInto 59 = .ok (.aload_n 0, 1) := by decide +kernel
theorem dX8_readInto_60 : decode cX8_readInto 60 = .ok (.getfield 40, 3) := by decide +kernel
theorem dX8_readInto_63 : decode cX8_readInto 63 = .ok (.ifCond .ne 5, 3) := by decide +kernel
theorem dX8_readInto_66 : decode cX8_readInto 66 = .ok (.iload_n 2, 1) := by decide +kernel
theorem dX8_readInto_67 : decode cX8_readInto 67 = .ok (.ireturn, 1) := by decide +kernel
theorem dX8_readInto_68 : decode cX8_readInto 68 = .ok (.aload_n 0, 1) := by decide +kernel
theorem dX8_readInto_69 : decode cX8_readInto 69 = .ok (.aload_n 1, 1) := by decide +kernel
theorem dX8_readInto_70 : decode cX8_readInto 70 = .ok (.invokevirtual 43, 3) := by decide +kernel
theorem dX8_readInto_73 : decode cX8_readInto 73 = .ok (.istore_n 3, 1) := by decide +kernel
theorem dX8_readInto_74 : decode cX8_readInto 74 = .ok (.iinc 4 1, 3) := by decide +kernel
theorem dX8_readInto_77 : decode cX8_readInto 77 = .ok (.goto (-37), 3) := by decide +kernel
theorem dX8_readInto_80 : decode cX8_readInto 80 = .ok (.bipush (-10), 2) := by decide +kernel
theorem dX8_readInto_82 : decode cX8_readInto 82 = .ok (.aload_n 0, 1) := by decide +kernel
theorem dX8_readInto_83 : decode cX8_readInto 83 = .ok (.getfield 47, 3) := by decide +kernel
theorem dX8_readInto_86 : decode cX8_readInto 86 = .ok (.isub, 1) := by decide +kernel
theorem dX8_readInto_87 : decode cX8_readInto 87 = .ok (.ireturn, 1) := by decide +kernel
theorem dX8_readItem_0 : decode cX8_readItem 0 = .ok (.aload_n 0, 1) := by decide +kernel
theorem dX8_readItem_1 : decode cX8_readItem 1 = .ok (.ldc 50, 2) := by decide +kernel
theorem dX8_readItem_3 : decode cX8_readItem 3 = .ok (.invokevirtual 32, 3) := by decide +kernel
theorem dX8_readItem_6 : decode cX8_readItem 6 = .ok (.ifCond .eq 9, 3) := by decide +kernel
theorem dX8_readItem_9 : decode cX8_readItem 9 = .ok (.aload_n 0, 1) := by decide +kernel
theorem dX8_readItem_10 : decode cX8_readItem 10 = .ok (.aload_n 1, 1) := by decide +kernel
theorem dX8_readItem_11 : decode cX8_readItem 11 = .ok (.invokevirtual 52, 3) := by decide +kernel
theorem dX8_readItem_14 : decode cX8_readItem 14 = .ok (.ireturn, 1) := by decide +kernel
theorem dX8_readItem_15 : decode cX8_readItem 15 = .ok (.aload_n 0, 1) := by decide +kernel
theorem dX8_readItem_16 : decode cX8_readItem 16 = .ok (.ldc 55, 2) := by decide +kernel
theorem dX8_readItem_18 : decode cX8_readItem 18 = .ok (.invokevirtual 32, 3) := by decide +kernel
theorem dX8_readItem_21 : decode cX8_readItem 21 = .ok (.ifCond .eq 9, 3) := by decide +kernel
theorem dX8_readItem_24 : decode cX8_readItem 24 = .ok (.aload_n 0, 1) := by decide +kernel
theorem dX8_readItem_25 : decode cX8_readItem 25 = .ok (.aload_n 1, 1) := by decide +kernel
theorem dX8_readItem_26 : decode cX8_readItem 26 = .ok (.invokevirtual 57, 3) := by decide +kernel
theorem dX8_readItem_29 : decode cX8_readItem 29 = .ok (.ireturn, 1) := by decide +kernel
theorem dX8_readItem_30 : decode cX8_readItem 30 = .ok (.aload_n 0, 1) := by decide +kernel
theorem dX8_readItem_31 : decode cX8_readItem 31 = .ok (.ldc 60, 2) := by decide +kernel
theorem dX8_readItem_33 : decode cX8_readItem 33 = .ok (.invokevirtual 32, 3) := by decide +kernel
theorem dX8_readItem_36 : decode cX8_readItem 36 = .ok (.ifCond .eq 15, 3) := by decide +kernel
theorem dX8_readItem_39 : decode cX8_readItem 39 = .ok (.aload_n 0, 1) := by decide +kernel
theorem dX8_readItem_40 : decode cX8_readItem 40 = .ok (.aload_n 1, 1) := by decide +kernel
theorem dX8_readItem_41 : decode cX8_readItem 41 = .ok (.invokevirtual 62, 3) := by decide +kernel
theorem dX8_readItem_44 : decode cX8_readItem 44 = .ok (.ifCond .eq 7, 3) := by decide +kernel
theorem dX8_readItem_47 : decode cX8_readItem 47 = .ok (.iconst 1, 1) := by decide +kernel
theorem dX8_readItem_48 : decode cX8_readItem 48 = .ok (.goto 4, 3) := by decide +kernel
theorem dX8_readItem_51 : decode cX8_readItem 51 = .ok (.iconst 0, 1) := by decide +kernel
theorem dX8_readItem_52 : decode cX8_readItem 52 = .ok (.ireturn, 1) := by decide +kernel
theorem dX8_readStair_0 : decode cX8_readStair 0 = .ok (.aload_n 0, 1) := by decide +kernel
theorem dX8_readStair_1 : decode cX8_readStair 1 = .ok (.bipush 7, 2) := by decide +kernel
theorem dX8_readStair_3 : decode cX8_readStair 3 = .ok (.invokevirtual 65, 3) := by decide +kernel
theorem dX8_readStair_6 : decode cX8_readStair 6 = .ok (.istore_n 2, 1) := by decide +kernel
theorem dX8_readStair_7 : decode cX8_readStair 7 = .ok (.iload_n 2, 1) := by decide +kernel
theorem dX8_readStair_8 : decode cX8_readStair 8 = .ok (.iconst (-1), 1) := by decide +kernel
theorem dX8_readStair_9 : decode cX8_readStair 9 = .ok (.if_icmp .ne 7, 3) := by decide +kernel
theorem dX8_readStair_12 : decode cX8_readStair 12 = .ok (.iconst (-1), 1) := by decide +kernel
theorem dX8_readStair_13 : decode cX8_readStair 13 = .ok (.goto 9, 3) := by decide +kernel
theorem dX8_readStair_16 : decode cX8_readStair 16 = .ok (.aload_n 0, 1) := by decide +kernel
theorem dX8_readStair_17 : decode cX8_readStair 17 = .ok (.bipush 7, 2) := by decide +kernel
theorem dX8_readStair_19 : decode cX8_readStair 19 = .ok (.invokevirtual 65, 3) := by decide +kernel
theorem dX8_readStair_22 : decode cX8_readStair 22 = .ok (.istore_n 3, 1) := by decide +kernel
theorem dX8_readStair_23 : decode cX8_readStair 23 = .ok (.iload_n 3, 1) := by decide +kernel
theorem dX8_readStair_24 : decode cX8_readStair 24 = .ok (.iconst (-1), 1) := by decide +kernel
theorem dX8_readStair_25 : decode cX8_readStair 25 = .ok (.if_icmp .eq 8, 3) := by decide +kernel
theorem dX8_readStair_28 : decode cX8_readStair 28 = .ok (.iload_n 2, 1) := by decide +kernel
theorem dX8_readStair_29 : decode cX8_readStair 29 = .ok (.iload_n 3, 1) := by decide +kernel
theorem dX8_readStair_30 : decode cX8_readStair 30 = .ok (.if_icmp .ne 7, 3) := by decide +kernel
theorem dX8_readStair_33 : decode cX8_readStair 33 = .ok (.iconst (-1), 1) := by decide +kernel
theorem dX8_readStair_34 : decode cX8_readStair 34 = .ok (.goto 9, 3) := by decide +kernel
theorem dX8_readStair_37 : decode cX8_readStair 37 = .ok (.aload_n 0, 1) := by decide +kernel
theorem dX8_readStair_38 : decode cX8_readStair 38 = .ok (.bipush 9, 2) := by decide +kernel
theorem dX8_readStair_40 : decode cX8_readStair 40 = .ok (.invokevirtual 65, 3) := by decide +kernel
theorem dX8_readStair_43 : decode cX8_readStair 43 = .ok (.istore 4, 2) := by decide +kernel
theorem dX8_readStair_45 : decode cX8_readStair 45 = .ok (.iload 4, 2) := by decide +kernel
theorem dX8_readStair_47 : decode cX8_readStair 47 = .ok (.iconst (-1), 1) := by decide +kernel
theorem dX8_readStair_48 : decode cX8_readStair 48 = .ok (.if_icmp .ne 5, 3) := by decide +kernel
theorem dX8_readStair_51 : decode cX8_readStair 51 = .ok (.iconst 0, 1) := by decide +kernel
theorem dX8_readStair_52 : decode cX8_readStair 52 = .ok (.ireturn, 1) := by decide +kernel
theorem dX8_readStair_53 : decode cX8_readStair 53 = .ok (.aload_n 1, 1) := by decide +kernel
theorem dX8_readStair_54 : decode cX8_readStair 54 = .ok (.iload_n 2, 1) := by decide +kernel
theorem dX8_readStair_55 : decode cX8_readStair 55 = .ok (.iload_n 3, 1) := by decide +kernel
theorem dX8_readStair_56 : decode cX8_readStair 56 = .ok (.iload 4, 2) := by decide +kernel
theorem dX8_readStair_58 : decode cX8_readStair 58 = .ok (.invokevirtual 69, 3) := by decide +kernel
theorem dX8_readStair_61 : decode cX8_readStair 61 = .ok (.pop, 1) := by decide +kernel
theorem dX8_readStair_62 : decode cX8_readStair 62 = .ok (.aload_n 0, 1) := by decide +kernel
theorem dX8_readStair_63 : decode cX8_readStair 63 = .ok (.invokevirtual 36, 3) := by decide +kernel
theorem dX8_readStair_66 : decode cX8_readStair 66 = .ok (.ireturn, 1) := by decide +kernel
theorem dX8_readSleeper_0 : decode cX8_readSleeper 0 = .ok (.aload_n 1, 1) := by decide +kernel
theorem dX8_readSleeper_1 : decode cX8_readSleeper 1 = .ok (.getfield 73, 3) := by decide +kernel
theorem dX8_readSleeper_4 : decode cX8_readSleeper 4 = .ok (.iconst 5, 1) := by decide +kernel
theorem dX8_readSleeper_5 : decode cX8_readSleeper 5 = .ok (.if_icmp .lt 5, 3) := by decide +kernel
theorem dX8_readSleeper_8 : decode cX8_readSleeper 8 = .ok (.iconst 0, 1) := by decide +kernel
theorem dX8_readSleeper_9 : decode cX8_readSleeper 9 = .ok (.ireturn, 1) := by decide +kernel
theorem dX8_readSleeper_10 : decode cX8_readSleeper 10 = .ok (.aload_n 0, 1) := by decide +kernel
theorem dX8_readSleeper_11 : decode cX8_readSleeper 11 = .ok (.iconst 5, 1) := by decide +kernel
theorem dX8_readSleeper_12 : decode cX8_readSleeper 12 = .ok (.invokevirtual 65, 3) := by decide +kernel
theorem dX8_readSleeper_15 : decode cX8_readSleeper 15 = .ok (.istore_n 2, 1) := by decide +kernel
theorem dX8_readSleeper_16 : decode cX8_readSleeper 16 = .ok (.iload_n 2, 1) := by decide +kernel
theorem dX8_readSleeper_17 : decode cX8_readSleeper 17 = .ok (.iconst (-1), 1) := by decide +kernel
theorem dX8_readSleeper_18 : decode cX8_readSleeper 18 = .ok (.if_icmp .ne 7, 3) := by decide +kernel
theorem dX8_readSleeper_21 : decode cX8_readSleeper 21 = .ok (.iconst (-1), 1) := by decide +kernel
theorem dX8_readSleeper_22 : decode cX8_readSleeper 22 = .ok (.goto 9, 3) := by decide +kernel
theorem dX8_readSleeper_25 : decode cX8_readSleeper 25 = .ok (.aload_n 0, 1) := by decide +kernel
theorem dX8_readSleeper_26 : decode cX8_readSleeper 26 = .ok (.bipush 7, 2) := by decide +kernel
theorem dX8_readSleeper_28 : decode cX8_readSleeper 28 = .ok (.invokevirtual 65, 3) := by decide +kernel
theorem dX8_readSleeper_31 : decode cX8_readSleeper 31 = .ok (.istore_n 3, 1) := by decide +kernel
theorem dX8_readSleeper_32 : decode cX8_readSleeper 32 = .ok (.iload_n 3, 1) := by decide +kernel
theorem dX8_readSleeper_33 : decode cX8_readSleeper 33 = .ok (.iconst (-1), 1) := by decide +kernel
theorem dX8_readSleeper_34 : decode cX8_readSleeper 34 = .ok (.if_icmp .ne 7, 3) := by decide +kernel
theorem dX8_readSleeper_37 : decode cX8_readSleeper 37 = .ok (.iconst (-1), 1) := by decide +kernel
theorem dX8_readSleeper_38 : decode cX8_readSleeper 38 = .ok (.goto 9, 3) := by decide +kernel
theorem dX8_readSleeper_41 : decode cX8_readSleeper 41 = .ok (.aload_n 0, 1) := by decide +kernel
theorem dX8_readSleeper_42 : decode cX8_readSleeper 42 = .ok (.bipush 9, 2) := by decide +kernel
theorem dX8_readSleeper_44 : decode cX8_readSleeper 44 = .ok (.invokevirtual 65, 3) := by decide +kernel
theorem dX8_readSleeper_47 : decode cX8_readSleeper 47 = .ok (.istore 4, 2) := by decide +kernel
theorem dX8_readSleeper_49 : decode cX8_readSleeper 49 = .ok (.iload 4, 2) := by decide +kernel
theorem dX8_readSleeper_51 : decode cX8_readSleeper 51 = .ok (.iconst (-1), 1) := by decide +kernel
theorem dX8_readSleeper_52 : decode cX8_readSleeper 52 = .ok (.if_icmp .ne 5, 3) := by decide +kernel
theorem dX8_readSleeper_55 : decode cX8_readSleeper 55 = .ok (.iconst 0, 1) := by decide +kernel
theorem dX8_readSleeper_56 : decode cX8_readSleeper 56 = .ok (.ireturn, 1) := by decide +kernel
theorem dX8_readSleeper_57 : decode cX8_readSleeper 57 = .ok (.aload_n 1, 1) := by decide +kernel
theorem dX8_readSleeper_58 : decode cX8_readSleeper 58 = .ok (.iload_n 2, 1) := by decide +kernel
theorem dX8_readSleeper_59 : decode cX8_readSleeper 59 = .ok (.iload_n 3, 1) := by decide +kernel
theorem dX8_readSleeper_60 : decode cX8_readSleeper 60 = .ok (.iload 4, 2) := by decide +kernel
theorem dX8_readSleeper_62 : decode cX8_readSleeper 62 = .ok (.invokevirtual 76, 3) := by decide +kernel
theorem dX8_readSleeper_65 : decode cX8_readSleeper 65 = .ok (.pop, 1) := by decide +kernel
theorem dX8_readSleeper_66 : decode cX8_readSleeper 66 = .ok (.aload_n 0, 1) := by decide +kernel
theorem dX8_readSleeper_67 : decode cX8_readSleeper 67 = .ok (.invokevirtual 36, 3) := by decide +kernel
theorem dX8_readSleeper_70 : decode cX8_readSleeper 70 = .ok (.ireturn, 1) := by decide +kernel
theorem dX8_readThing_0 : decode cX8_readThing 0 = .ok (.aload_n 1, 1) := by decide +kernel
theorem dX8_readThing_1 : decode cX8_readThing 1 = .ok (.getfield 79, 3) := by decide +kernel
theorem dX8_readThing_4 : decode cX8_readThing 4 = .ok (.iconst 5, 1) := by decide +kernel
theorem dX8_readThing_5 : decode cX8_readThing 5 = .ok (.if_icmp .lt 5, 3) := by decide +kernel
theorem dX8_readThing_8 : decode cX8_readThing 8 = .ok (.iconst 0, 1) := by decide +kernel
theorem dX8_readThing_9 : decode cX8_readThing 9 = .ok (.ireturn, 1) := by decide +kernel
theorem dX8_readThing_10 : decode cX8_readThing 10 = .ok (.aload_n 0, 1) := by decide +kernel
theorem dX8_readThing_11 : decode cX8_readThing 11 = .ok (.bipush 7, 2) := by decide +kernel
theorem dX8_readThing_13 : decode cX8_readThing 13 = .ok (.invokevirtual 65, 3) := by decide +kernel
theorem dX8_readThing_16 : decode cX8_readThing 16 = .ok (.istore_n 2, 1) := by decide +kernel
theorem dX8_readThing_17 : decode cX8_readThing 17 = .ok (.iload_n 2, 1) := by decide +kernel
theorem dX8_readThing_18 : decode cX8_readThing 18 = .ok (.iconst (-1), 1) := by decide +kernel
theorem dX8_readThing_19 : decode cX8_readThing 19 = .ok (.if_icmp .ne 5, 3) := by decide +kernel
theorem dX8_readThing_22 : decode cX8_readThing 22 = .ok (.iconst 0, 1) := by decide +kernel
theorem dX8_readThing_23 : decode cX8_readThing 23 = .ok (.ireturn, 1) := by decide +kernel
theorem dX8_readThing_24 : decode cX8_readThing 24 = .ok (.aload_n 1, 1) := by decide +kernel
theorem dX8_readThing_25 : decode cX8_readThing 25 = .ok (.iload_n 2, 1) := by decide +kernel
theorem dX8_readThing_26 : decode cX8_readThing 26 = .ok (.invokevirtual 82, 3) := by decide +kernel
theorem dX8_readThing_29 : decode cX8_readThing 29 = .ok (.istore_n 3, 1) := by decide +kernel
theorem dX8_readThing_30 : decode cX8_readThing 30 = .ok (.iconst 0, 1) := by decide +kernel
theorem dX8_readThing_31 : decode cX8_readThing 31 = .ok (.istore 4, 2) := by decide +kernel
theorem dX8_readThing_33 : decode cX8_readThing 33 = .ok (.iload 4, 2) := by decide +kernel
theorem dX8_readThing_35 : decode cX8_readThing 35 = .ok (.iconst 4, 1) := by decide +kernel
theorem dX8_readThing_36 : decode cX8_readThing 36 = .ok (.if_icmp .ge 52, 3) := by decide +kernel
theorem dX8_readThing_39 : decode cX8_readThing 39 = .ok (.aload_n 0, 1) := by decide +kernel
theorem dX8_readThing_40 : decode cX8_readThing 40 = .ok (.iconst 2, 1) := by decide +kernel
theorem dX8_readThing_41 : decode cX8_readThing 41 = .ok (.invokevirtual 65, 3) := by decide +kernel
theorem dX8_readThing_44 : decode cX8_readThing 44 = .ok (.istore 5, 2) := by decide +kernel
theorem dX8_readThing_46 : decode cX8_readThing 46 = .ok (.aload_n 0, 1) := by decide +kernel
theorem dX8_readThing_47 : decode cX8_readThing 47 = .ok (.getfield 40, 3) := by decide +kernel
theorem dX8_readThing_50 : decode cX8_readThing 50 = .ok (.iconst 3, 1) := by decide +kernel
theorem dX8_readThing_51 : decode cX8_readThing 51 = .ok (.if_icmp .ne 5, 3) := by decide +kernel
theorem dX8_readThing_54 : decode cX8_readThing 54 = .ok (.iconst 1, 1) := by decide +kernel
theorem dX8_readThing_55 : decode cX8_readThing 55 = .ok (.ireturn, 1) := by decide +kernel
theorem dX8_readThing_56 : decode cX8_readThing 56 = .ok (.iload 5, 2) := by decide +kernel
theorem dX8_readThing_58 : decode cX8_readThing 58 = .ok (.iconst (-1), 1) := by decide +kernel
theorem dX8_readThing_59 : decode cX8_readThing 59 = .ok (.if_icmp .eq 13, 3) := by decide +kernel
theorem dX8_readThing_62 : decode cX8_readThing 62 = .ok (.iload 5, 2) := by decide +kernel
theorem dX8_readThing_64 : decode cX8_readThing 64 = .ok (.aload_n 1, 1) := by decide +kernel
theorem dX8_readThing_65 : decode cX8_readThing 65 = .ok (.iload_n 3, 1) := by decide +kernel
theorem dX8_readThing_66 : decode cX8_readThing 66 = .ok (.invokevirtual 85, 3) := by decide +kernel
theorem dX8_readThing_69 : decode cX8_readThing 69 = .ok (.if_icmp .ne 5, 3) := by decide +kernel
theorem dX8_readThing_72 : decode cX8_readThing 72 = .ok (.iconst 0, 1) := by decide +kernel
theorem dX8_readThing_73 : decode cX8_readThing 73 = .ok (.ireturn, 1) := by decide +kernel
theorem dX8_readThing_74 : decode cX8_readThing 74 = .ok (.aload_n 1, 1) := by decide +kernel
theorem dX8_readThing_75 : decode cX8_readThing 75 = .ok (.iload_n 3, 1) := by decide +kernel
theorem dX8_readThing_76 : decode cX8_readThing 76 = .ok (.iload 5, 2) := by decide +kernel
theorem dX8_readThing_78 : decode cX8_readThing 78 = .ok (.invokevirtual 88, 3) := by decide +kernel
theorem dX8_readThing_81 : decode cX8_readThing 81 = .ok (.pop, 1) := by decide +kernel
theorem dX8_readThing_82 : decode cX8_readThing 82 = .ok (.iinc 4 1, 3) := by decide +kernel
theorem dX8_readThing_85 : decode cX8_readThing 85 = .ok (.goto (-52), 3) := by decide +kernel
theorem dX8_readThing_88 : decode cX8_readThing 88 = .ok (.aload_n 0, 1) := by decide +kernel
theorem dX8_readThing_89 : decode cX8_readThing 89 = .ok (.invokevirtual 36, 3) := by decide +kernel
theorem dX8_readThing_92 : decode cX8_readThing 92 = .ok (.ireturn, 1) := by decide +kernel
theorem dX8_stopNext_0 : decode cX8_stopNext 0 = .ok (.aload_n 0, 1) := by decide +kernel
theorem dX8_stopNext_1 : decode cX8_stopNext 1 = .ok (.invokevirtual 27, 3) := by decide +kernel
theorem dX8_stopNext_4 : decode cX8_stopNext 4 = .ok (.aload_n 0, 1) := by decide +kernel
theorem dX8_stopNext_5 : decode cX8_stopNext 5 = .ok (.getfield 40, 3) := by decide +kernel
theorem dX8_stopNext_8 : decode cX8_stopNext 8 = .ok (.iconst 3, 1) := by decide +kernel
theorem dX8_stopNext_9 : decode cX8_stopNext 9 = .ok (.if_icmp .ne 7, 3) := by decide +kernel
theorem dX8_stopNext_12 : decode cX8_stopNext 12 = .ok (.iconst 1, 1) := by decide +kernel
theorem dX8_stopNext_13 : decode cX8_stopNext 13 = .ok (.goto 4, 3) := by decide +kernel
theorem dX8_stopNext_16 : decode cX8_stopNext 16 = .ok (.iconst 0, 1) := by decide +kernel
theorem dX8_stopNext_17 : decode cX8_stopNext 17 = .ok (.ireturn, 1) := by decide +kernel
theorem dX8_numberNext_0 : decode cX8_numberNext 0 = .ok (.aload_n 0, 1) := by decide +kernel
theorem dX8_numberNext_1 : decode cX8_numberNext 1 = .ok (.invokevirtual 27, 3) := by decide +kernel
theorem dX8_numberNext_4 : decode cX8_numberNext 4 = .ok (.aload_n 0, 1) := by decide +kernel
theorem dX8_numberNext_5 : decode cX8_numberNext 5 = .ok (.getfield 40, 3) := by decide +kernel
theorem dX8_numberNext_8 : decode cX8_numberNext 8 = .ok (.iconst 2, 1) := by decide +kernel
theorem dX8_numberNext_9 : decode cX8_numberNext 9 = .ok (.if_icmp .eq 5, 3) := by decide +kernel
theorem dX8_numberNext_12 : decode cX8_numberNext 12 = .ok (.iconst (-1), 1) := by decide +kernel
theorem dX8_numberNext_13 : decode cX8_numberNext 13 = .ok (.ireturn, 1) := by decide +kernel
theorem dX8_numberNext_14 : decode cX8_numberNext 14 = .ok (.iconst 0, 1) := by decide +kernel
theorem dX8_numberNext_15 : decode cX8_numberNext 15 = .ok (.istore_n 2, 1) := by decide +kernel
theorem dX8_numberNext_16 : decode cX8_numberNext 16 = .ok (.aload_n 0, 1) := by decide +kernel
theorem dX8_numberNext_17 : decode cX8_numberNext 17 = .ok (.getfield 47, 3) := by decide +kernel
theorem dX8_numberNext_20 : decode cX8_numberNext 20 = .ok (.istore_n 3, 1) := by decide +kernel
theorem dX8_numberNext_21 : decode cX8_numberNext 21 = .ok (.iload_n 3, 1) := by decide +kernel
theorem dX8_numberNext_22 : decode cX8_numberNext 22 = .ok (.aload_n 0, 1) := by decide +kernel
theorem dX8_numberNext_23 : decode cX8_numberNext 23 = .ok (.getfield 24, 3) := by decide +kernel
theorem dX8_numberNext_26 : decode cX8_numberNext 26 = .ok (.if_icmp .ge 24, 3) := by decide +kernel
theorem dX8_numberNext_29 : decode cX8_numberNext 29 = .ok (.iload_n 2, 1) := by decide +kernel
theorem dX8_numberNext_30 : decode cX8_numberNext 30 = .ok (.bipush 10, 2) := by decide +kernel
theorem dX8_numberNext_32 : decode cX8_numberNext 32 = .ok (.imul, 1) := by decide +kernel
theorem dX8_numberNext_33 : decode cX8_numberNext 33 = .ok (.aload_n 0, 1) := by decide +kernel
theorem dX8_numberNext_34 : decode cX8_numberNext 34 = .ok (.getfield 9, 3) := by decide +kernel
theorem dX8_numberNext_37 : decode cX8_numberNext 37 = .ok (.iload_n 3, 1) := by decide +kernel
theorem dX8_numberNext_38 : decode cX8_numberNext 38 = .ok (.baload, 1) := by decide +kernel
theorem dX8_numberNext_39 : decode cX8_numberNext 39 = .ok (.iadd, 1) := by decide +kernel
theorem dX8_numberNext_40 : decode cX8_numberNext 40 = .ok (.bipush 48, 2) := by decide +kernel
theorem dX8_numberNext_42 : decode cX8_numberNext 42 = .ok (.isub, 1) := by decide +kernel
theorem dX8_numberNext_43 : decode cX8_numberNext 43 = .ok (.istore_n 2, 1) := by decide +kernel
theorem dX8_numberNext_44 : decode cX8_numberNext 44 = .ok (.iinc 3 1, 3) := by decide +kernel
theorem dX8_numberNext_47 : decode cX8_numberNext 47 = .ok (.goto (-26), 3) := by decide +kernel
theorem dX8_numberNext_50 : decode cX8_numberNext 50 = .ok (.iload_n 2, 1) := by decide +kernel
theorem dX8_numberNext_51 : decode cX8_numberNext 51 = .ok (.iload_n 1, 1) := by decide +kernel
theorem dX8_numberNext_52 : decode cX8_numberNext 52 = .ok (.if_icmp .gt 7, 3) := by decide +kernel
theorem dX8_numberNext_55 : decode cX8_numberNext 55 = .ok (.iload_n 2, 1) := by decide +kernel
theorem dX8_numberNext_56 : decode cX8_numberNext 56 = .ok (.goto 4, 3) := by decide +kernel
theorem dX8_numberNext_59 : decode cX8_numberNext 59 = .ok (.iconst (-1), 1) := by decide +kernel
theorem dX8_numberNext_60 : decode cX8_numberNext 60 = .ok (.ireturn, 1) := by decide +kernel
theorem dX8_isWord_0 : decode cX8_isWord 0 = .ok (.aload_n 0, 1) := by decide +kernel
theorem dX8_isWord_1 : decode cX8_isWord 1 = .ok (.getfield 40, 3) := by decide +kernel
theorem dX8_isWord_4 : decode cX8_isWord 4 = .ok (.iconst 1, 1) := by decide +kernel
theorem dX8_isWord_5 : decode cX8_isWord 5 = .ok (.if_icmp .ne 19, 3) := by decide +kernel
theorem dX8_isWord_8 : decode cX8_isWord 8 = .ok (.aload_n 0, 1) := by decide +kernel
theorem dX8_isWord_9 : decode cX8_isWord 9 = .ok (.getfield 24, 3) := by decide +kernel
theorem dX8_isWord_12 : decode cX8_isWord 12 = .ok (.aload_n 0, 1) := by decide +kernel
theorem dX8_isWord_13 : decode cX8_isWord 13 = .ok (.getfield 47, 3) := by decide +kernel
theorem dX8_isWord_16 : decode cX8_isWord 16 = .ok (.isub, 1) := by decide +kernel
theorem dX8_isWord_17 : decode cX8_isWord 17 = .ok (.aload_n 1, 1) := by decide +kernel
theorem dX8_isWord_18 : decode cX8_isWord 18 = .ok (.invokevirtual 92, 3) := by decide +kernel
theorem dX8_isWord_21 : decode cX8_isWord 21 = .ok (.if_icmp .eq 5, 3) := by decide +kernel
theorem dX8_isWord_24 : decode cX8_isWord 24 = .ok (.iconst 0, 1) := by decide +kernel
theorem dX8_isWord_25 : decode cX8_isWord 25 = .ok (.ireturn, 1) := by decide +kernel
theorem dX8_isWord_26 : decode cX8_isWord 26 = .ok (.iconst 0, 1) := by decide +kernel
theorem dX8_isWord_27 : decode cX8_isWord 27 = .ok (.istore_n 2, 1) := by decide +kernel
theorem dX8_isWord_28 : decode cX8_isWord 28 = .ok (.iload_n 2, 1) := by decide +kernel
theorem dX8_isWord_29 : decode cX8_isWord 29 = .ok (.aload_n 1, 1) := by decide +kernel
theorem dX8_isWord_30 : decode cX8_isWord 30 = .ok (.invokevirtual 92, 3) := by decide +kernel
theorem dX8_isWord_33 : decode cX8_isWord 33 = .ok (.if_icmp .ge 30, 3) := by decide +kernel
theorem dX8_isWord_36 : decode cX8_isWord 36 = .ok (.aload_n 0, 1) := by decide +kernel
theorem dX8_isWord_37 : decode cX8_isWord 37 = .ok (.getfield 9, 3) := by decide +kernel
theorem dX8_isWord_40 : decode cX8_isWord 40 = .ok (.aload_n 0, 1) := by decide +kernel
theorem dX8_isWord_41 : decode cX8_isWord 41 = .ok (.getfield 47, 3) := by decide +kernel
theorem dX8_isWord_44 : decode cX8_isWord 44 = .ok (.iload_n 2, 1) := by decide +kernel
theorem dX8_isWord_45 : decode cX8_isWord 45 = .ok (.iadd, 1) := by decide +kernel
theorem dX8_isWord_46 : decode cX8_isWord 46 = .ok (.baload, 1) := by decide +kernel
theorem dX8_isWord_47 : decode cX8_isWord 47 = .ok (.aload_n 1, 1) := by decide +kernel
theorem dX8_isWord_48 : decode cX8_isWord 48 = .ok (.iload_n 2, 1) := by decide +kernel
theorem dX8_isWord_49 : decode cX8_isWord 49 = .ok (.invokevirtual 97, 3) := by decide +kernel
theorem dX8_isWord_52 : decode cX8_isWord 52 = .ok (.if_icmp .eq 5, 3) := by decide +kernel
theorem dX8_isWord_55 : decode cX8_isWord 55 = .ok (.iconst 0, 1) := by decide +kernel
theorem dX8_isWord_56 : decode cX8_isWord 56 = .ok (.ireturn, 1) := by decide +kernel
theorem dX8_isWord_57 : decode cX8_isWord 57 = .ok (.iinc 2 1, 3) := by decide +kernel
theorem dX8_isWord_60 : decode cX8_isWord 60 = .ok (.goto (-32), 3) := by decide +kernel
theorem dX8_isWord_63 : decode cX8_isWord 63 = .ok (.iconst 1, 1) := by decide +kernel
theorem dX8_isWord_64 : decode cX8_isWord 64 = .ok (.ireturn, 1) := by decide +kernel
theorem dX8_advance_0 : decode cX8_advance 0 = .ok (.aload_n 0, 1) := by decide +kernel
theorem dX8_advance_1 : decode cX8_advance 1 = .ok (.aload_n 0, 1) := by decide +kernel
theorem dX8_advance_2 : decode cX8_advance 2 = .ok (.getfield 24, 3) := by decide +kernel
theorem dX8_advance_5 : decode cX8_advance 5 = .ok (.putfield 47, 3) := by decide +kernel
theorem dX8_advance_8 : decode cX8_advance 8 = .ok (.aload_n 0, 1) := by decide +kernel
theorem dX8_advance_9 : decode cX8_advance 9 = .ok (.getfield 47, 3) := by decide +kernel
theorem dX8_advance_12 : decode cX8_advance 12 = .ok (.aload_n 0, 1) := by decide +kernel
theorem dX8_advance_13 : decode cX8_advance 13 = .ok (.getfield 15, 3) := by decide +kernel
theorem dX8_advance_16 : decode cX8_advance 16 = .ok (.if_icmp .ge 30, 3) := by decide +kernel
theorem dX8_advance_19 : decode cX8_advance 19 = .ok (.aload_n 0, 1) := by decide +kernel
theorem dX8_advance_20 : decode cX8_advance 20 = .ok (.getfield 9, 3) := by decide +kernel
theorem dX8_advance_23 : decode cX8_advance 23 = .ok (.aload_n 0, 1) := by decide +kernel
theorem dX8_advance_24 : decode cX8_advance 24 = .ok (.getfield 47, 3) := by decide +kernel
theorem dX8_advance_27 : decode cX8_advance 27 = .ok (.baload, 1) := by decide +kernel
theorem dX8_advance_28 : decode cX8_advance 28 = .ok (.bipush 32, 2) := by decide +kernel
theorem dX8_advance_30 : decode cX8_advance 30 = .ok (.if_icmp .ne 16, 3) := by decide +kernel
theorem dX8_advance_33 : decode cX8_advance 33 = .ok (.aload_n 0, 1) := by decide +kernel
theorem dX8_advance_34 : decode cX8_advance 34 = .ok (.dup, 1) := by decide +kernel
theorem dX8_advance_35 : decode cX8_advance 35 = .ok (.getfield 47, 3) := by decide +kernel
theorem dX8_advance_38 : decode cX8_advance 38 = .ok (.iconst 1, 1) := by decide +kernel
theorem dX8_advance_39 : decode cX8_advance 39 = .ok (.iadd, 1) := by decide +kernel
theorem dX8_advance_40 : decode cX8_advance 40 = .ok (.putfield 47, 3) := by decide +kernel
theorem dX8_advance_43 : decode cX8_advance 43 = .ok (.goto (-35), 3) := by decide +kernel
theorem dX8_advance_46 : decode cX8_advance 46 = .ok (.aload_n 0, 1) := by decide +kernel
theorem dX8_advance_47 : decode cX8_advance 47 = .ok (.aload_n 0, 1) := by decide +kernel
theorem dX8_advance_48 : decode cX8_advance 48 = .ok (.getfield 47, 3) := by decide +kernel
theorem dX8_advance_51 : decode cX8_advance 51 = .ok (.putfield 24, 3) := by decide +kernel
theorem dX8_advance_54 : decode cX8_advance 54 = .ok (.aload_n 0, 1) := by decide +kernel
theorem dX8_advance_55 : decode cX8_advance 55 = .ok (.getfield 47, 3) := by decide +kernel
theorem dX8_advance_58 : decode cX8_advance 58 = .ok (.aload_n 0, 1) := by decide +kernel
theorem dX8_advance_59 : decode cX8_advance 59 = .ok (.getfield 15, 3) := by decide +kernel
theorem dX8_advance_62 : decode cX8_advance 62 = .ok (.if_icmp .lt 11, 3) := by decide +kernel
theorem dX8_advance_65 : decode cX8_advance 65 = .ok (.aload_n 0, 1) := by decide +kernel
theorem dX8_advance_66 : decode cX8_advance 66 = .ok (.iconst 0, 1) := by decide +kernel
theorem dX8_advance_67 : decode cX8_advance 67 = .ok (.putfield 40, 3) := by decide +kernel
theorem dX8_advance_70 : decode cX8_advance 70 = .ok (.goto 115, 3) := by decide +kernel
theorem dX8_advance_73 : decode cX8_advance 73 = .ok (.aload_n 0, 1) := by decide +kernel
theorem dX8_advance_74 : decode cX8_advance 74 = .ok (.getfield 9, 3) := by decide +kernel
theorem dX8_advance_77 : decode cX8_advance 77 = .ok (.aload_n 0, 1) := by decide +kernel
theorem dX8_advance_78 : decode cX8_advance 78 = .ok (.getfield 47, 3) := by decide +kernel
theorem dX8_advance_81 : decode cX8_advance 81 = .ok (.baload, 1) := by decide +kernel
theorem dX8_advance_82 : decode cX8_advance 82 = .ok (.bipush 59, 2) := by decide +kernel
theorem dX8_advance_84 : decode cX8_advance 84 = .ok (.if_icmp .ne 21, 3) := by decide +kernel
theorem dX8_advance_87 : decode cX8_advance 87 = .ok (.aload_n 0, 1) := by decide +kernel
theorem dX8_advance_88 : decode cX8_advance 88 = .ok (.iconst 3, 1) := by decide +kernel
theorem dX8_advance_89 : decode cX8_advance 89 = .ok (.putfield 40, 3) := by decide +kernel
theorem dX8_advance_92 : decode cX8_advance 92 = .ok (.aload_n 0, 1) := by decide +kernel
theorem dX8_advance_93 : decode cX8_advance 93 = .ok (.dup, 1) := by decide +kernel
theorem dX8_advance_94 : decode cX8_advance 94 = .ok (.getfield 24, 3) := by decide +kernel
theorem dX8_advance_97 : decode cX8_advance 97 = .ok (.iconst 1, 1) := by decide +kernel
theorem dX8_advance_98 : decode cX8_advance 98 = .ok (.iadd, 1) := by decide +kernel
theorem dX8_advance_99 : decode cX8_advance 99 = .ok (.putfield 24, 3) := by decide +kernel
theorem dX8_advance_102 : decode cX8_advance 102 = .ok (.goto 83, 3) := by decide +kernel
theorem dX8_advance_105 : decode cX8_advance 105 = .ok (.aload_n 0, 1) := by decide +kernel
theorem dX8_advance_106 : decode cX8_advance 106 = .ok (.bipush 97, 2) := by decide +kernel
theorem dX8_advance_108 : decode cX8_advance 108 = .ok (.bipush 122, 2) := by decide +kernel
theorem dX8_advance_110 : decode cX8_advance 110 = .ok (.invokevirtual 101, 3) := by decide +kernel
theorem dX8_advance_113 : decode cX8_advance 113 = .ok (.aload_n 0, 1) := by decide +kernel
theorem dX8_advance_114 : decode cX8_advance 114 = .ok (.getfield 47, 3) := by decide +kernel
theorem dX8_advance_117 : decode cX8_advance 117 = .ok (.if_icmp .le 23, 3) := by decide +kernel
theorem dX8_advance_120 : decode cX8_advance 120 = .ok (.aload_n 0, 1) := by decide +kernel
theorem dX8_advance_121 : decode cX8_advance 121 = .ok (.iconst 1, 1) := by decide +kernel
theorem dX8_advance_122 : decode cX8_advance 122 = .ok (.putfield 40, 3) := by decide +kernel
theorem dX8_advance_125 : decode cX8_advance 125 = .ok (.aload_n 0, 1) := by decide +kernel
theorem dX8_advance_126 : decode cX8_advance 126 = .ok (.aload_n 0, 1) := by decide +kernel
theorem dX8_advance_127 : decode cX8_advance 127 = .ok (.bipush 97, 2) := by decide +kernel
theorem dX8_advance_129 : decode cX8_advance 129 = .ok (.bipush 122, 2) := by decide +kernel
theorem dX8_advance_131 : decode cX8_advance 131 = .ok (.invokevirtual 101, 3) := by decide +kernel
theorem dX8_advance_134 : decode cX8_advance 134 = .ok (.putfield 24, 3) := by decide +kernel
theorem dX8_advance_137 : decode cX8_advance 137 = .ok (.goto 48, 3) := by decide +kernel
theorem dX8_advance_140 : decode cX8_advance 140 = .ok (.aload_n 0, 1) := by decide +kernel
theorem dX8_advance_141 : decode cX8_advance 141 = .ok (.aload_n 0, 1) := by decide +kernel
theorem dX8_advance_142 : decode cX8_advance 142 = .ok (.bipush 48, 2) := by decide +kernel
theorem dX8_advance_144 : decode cX8_advance 144 = .ok (.bipush 57, 2) := by decide +kernel
theorem dX8_advance_146 : decode cX8_advance 146 = .ok (.invokevirtual 101, 3) := by decide +kernel
theorem dX8_advance_149 : decode cX8_advance 149 = .ok (.putfield 24, 3) := by decide +kernel
theorem dX8_advance_152 : decode cX8_advance 152 = .ok (.aload_n 0, 1) := by decide +kernel
theorem dX8_advance_153 : decode cX8_advance 153 = .ok (.aload_n 0, 1) := by decide +kernel
theorem dX8_advance_154 : decode cX8_advance 154 = .ok (.getfield 24, 3) := by decide +kernel
theorem dX8_advance_157 : decode cX8_advance 157 = .ok (.aload_n 0, 1) := by decide +kernel
theorem dX8_advance_158 : decode cX8_advance 158 = .ok (.getfield 47, 3) := by decide +kernel
theorem dX8_advance_161 : decode cX8_advance 161 = .ok (.if_icmp .le 20, 3) := by decide +kernel
theorem dX8_advance_164 : decode cX8_advance 164 = .ok (.aload_n 0, 1) := by decide +kernel
theorem dX8_advance_165 : decode cX8_advance 165 = .ok (.getfield 24, 3) := by decide +kernel
theorem dX8_advance_168 : decode cX8_advance 168 = .ok (.aload_n 0, 1) := by decide +kernel
theorem dX8_advance_169 : decode cX8_advance 169 = .ok (.getfield 47, 3) := by decide +kernel
theorem dX8_advance_172 : decode cX8_advance 172 = .ok (.isub, 1) := by decide +kernel
theorem dX8_advance_173 : decode cX8_advance 173 = .ok (.iconst 2, 1) := by decide +kernel
theorem dX8_advance_174 : decode cX8_advance 174 = .ok (.if_icmp .gt 7, 3) := by decide +kernel
theorem dX8_advance_177 : decode cX8_advance 177 = .ok (.iconst 2, 1) := by decide +kernel
theorem dX8_advance_178 : decode cX8_advance 178 = .ok (.goto 4, 3) := by decide +kernel
theorem dX8_advance_181 : decode cX8_advance 181 = .ok (.iconst 4, 1) := by decide +kernel
theorem dX8_advance_182 : decode cX8_advance 182 = .ok (.putfield 40, 3) := by decide +kernel
theorem dX8_advance_185 : decode cX8_advance 185 = .ok (.return_, 1) := by decide +kernel
theorem dX8_endOfRun_0 : decode cX8_endOfRun 0 = .ok (.aload_n 0, 1) := by decide +kernel
theorem dX8_endOfRun_1 : decode cX8_endOfRun 1 = .ok (.getfield 47, 3) := by decide +kernel
theorem dX8_endOfRun_4 : decode cX8_endOfRun 4 = .ok (.istore_n 3, 1) := by decide +kernel
theorem dX8_endOfRun_5 : decode cX8_endOfRun 5 = .ok (.iload_n 3, 1) := by decide +kernel
theorem dX8_endOfRun_6 : decode cX8_endOfRun 6 = .ok (.aload_n 0, 1) := by decide +kernel
theorem dX8_endOfRun_7 : decode cX8_endOfRun 7 = .ok (.getfield 15, 3) := by decide +kernel
theorem dX8_endOfRun_10 : decode cX8_endOfRun 10 = .ok (.if_icmp .ge 29, 3) := by decide +kernel
theorem dX8_endOfRun_13 : decode cX8_endOfRun 13 = .ok (.aload_n 0, 1) := by decide +kernel
theorem dX8_endOfRun_14 : decode cX8_endOfRun 14 = .ok (.getfield 9, 3) := by decide +kernel
theorem dX8_endOfRun_17 : decode cX8_endOfRun 17 = .ok (.iload_n 3, 1) := by decide +kernel
theorem dX8_endOfRun_18 : decode cX8_endOfRun 18 = .ok (.baload, 1) := by decide +kernel
theorem dX8_endOfRun_19 : decode cX8_endOfRun 19 = .ok (.iload_n 1, 1) := by decide +kernel
theorem dX8_endOfRun_20 : decode cX8_endOfRun 20 = .ok (.if_icmp .lt 19, 3) := by decide +kernel
theorem dX8_endOfRun_23 : decode cX8_endOfRun 23 = .ok (.aload_n 0, 1) := by decide +kernel
theorem dX8_endOfRun_24 : decode cX8_endOfRun 24 = .ok (.getfield 9, 3) := by decide +kernel
theorem dX8_endOfRun_27 : decode cX8_endOfRun 27 = .ok (.iload_n 3, 1) := by decide +kernel
theorem dX8_endOfRun_28 : decode cX8_endOfRun 28 = .ok (.baload, 1) := by decide +kernel
theorem dX8_endOfRun_29 : decode cX8_endOfRun 29 = .ok (.iload_n 2, 1) := by decide +kernel
theorem dX8_endOfRun_30 : decode cX8_endOfRun 30 = .ok (.if_icmp .gt 9, 3) := by decide +kernel
theorem dX8_endOfRun_33 : decode cX8_endOfRun 33 = .ok (.iinc 3 1, 3) := by decide +kernel
theorem dX8_endOfRun_36 : decode cX8_endOfRun 36 = .ok (.goto (-31), 3) := by decide +kernel
theorem dX8_endOfRun_39 : decode cX8_endOfRun 39 = .ok (.iload_n 3, 1) := by decide +kernel
theorem dX8_endOfRun_40 : decode cX8_endOfRun 40 = .ok (.ireturn, 1) := by decide +kernel
theorem dX9_init_0 : decode cX9_init 0 = .ok (.aload_n 0, 1) := by decide +kernel
theorem dX9_init_1 : decode cX9_init 1 = .ok (.invokespecial 3, 3) := by decide +kernel
theorem dX9_init_4 : decode cX9_init 4 = .ok (.aload_n 0, 1) := by decide +kernel
theorem dX9_init_5 : decode cX9_init 5 = .ok (.bipush 96, 2) := by decide +kernel
theorem dX9_init_7 : decode cX9_init 7 = .ok (.newarray .int, 2) := by decide +kernel
theorem dX9_init_9 : decode cX9_init 9 = .ok (.putfield 9, 3) := by decide +kernel
theorem dX9_init_12 : decode cX9_init 12 = .ok (.aload_n 0, 1) := by decide +kernel
theorem dX9_init_13 : decode cX9_init 13 = .ok (.bipush 104, 2) := by decide +kernel
theorem dX9_init_15 : decode cX9_init 15 = .ok (.newarray .long, 2) := by decide +kernel
theorem dX9_init_17 : decode cX9_init 17 = .ok (.putfield 15, 3) := by decide +kernel
theorem dX9_init_20 : decode cX9_init 20 = .ok (.aload_n 0, 1) := by decide +kernel
theorem dX9_init_21 : decode cX9_init 21 = .ok (.bipush 104, 2) := by decide +kernel
theorem dX9_init_23 : decode cX9_init 23 = .ok (.newarray .long, 2) := by decide +kernel
theorem dX9_init_25 : decode cX9_init 25 = .ok (.putfield 19, 3) := by decide +kernel
theorem dX9_init_28 : decode cX9_init 28 = .ok (.return_, 1) := by decide +kernel
theorem dX9_tally_0 : decode cX9_tally 0 = .ok (.iconst 0, 1) := by decide +kernel
theorem dX9_tally_1 : decode cX9_tally 1 = .ok (.istore_n 2, 1) := by decide +kernel
theorem dX9_tally_2 : decode cX9_tally 2 = .ok (.iload_n 2, 1) := by decide +kernel
theorem dX9_tally_3 : decode cX9_tally 3 = .ok (.bipush 12, 2) := by decide +kernel
theorem dX9_tally_5 : decode cX9_tally 5 = .ok (.if_icmp .ge 40, 3) := by decide +kernel
theorem dX9_tally_8 : decode cX9_tally 8 = .ok (.iconst 0, 1) := by decide +kernel
theorem dX9_tally_9 : decode cX9_tally 9 = .ok (.istore_n 3, 1) := by decide +kernel
theorem dX9_tally_10 : decode cX9_tally 10 = .ok (.iload_n 3, 1) := by decide +kernel
theorem dX9_tally_11 : decode cX9_tally 11 = .ok (.bipush 8, 2) := by decide +kernel
theorem dX9_tally_13 : decode cX9_tally 13 = .ok (.if_icmp .ge 20, 3) := by decide +kernel
theorem dX9_tally_16 : decode cX9_tally 16 = .ok (.aload_n 0, 1) := by decide +kernel
theorem dX9_tally_17 : decode cX9_tally 17 = .ok (.getfield 9, 3) := by decide +kernel
theorem dX9_tally_20 : decode cX9_tally 20 = .ok (.iload_n 2, 1) := by decide +kernel
theorem dX9_tally_21 : decode cX9_tally 21 = .ok (.iload_n 3, 1) := by decide +kernel
theorem dX9_tally_22 : decode cX9_tally 22 = .ok (.invokestatic 22, 3) := by decide +kernel
theorem dX9_tally_25 : decode cX9_tally 25 = .ok (.iconst 0, 1) := by decide +kernel
theorem dX9_tally_26 : decode cX9_tally 26 = .ok (.iastore, 1) := by decide +kernel
theorem dX9_tally_27 : decode cX9_tally 27 = .ok (.iinc 3 1, 3) := by decide +kernel
theorem dX9_tally_30 : decode cX9_tally 30 = .ok (.goto (-20), 3) := by decide +kernel
theorem dX9_tally_33 : decode cX9_tally 33 = .ok (.aload_n 0, 1) := by decide +kernel
theorem dX9_tally_34 : decode cX9_tally 34 = .ok (.aload_n 1, 1) := by decide +kernel
theorem dX9_tally_35 : decode cX9_tally 35 = .ok (.iload_n 2, 1) := by decide +kernel
theorem dX9_tally_36 : decode cX9_tally 36 = .ok (.invokevirtual 26, 3) := by decide +kernel
theorem dX9_tally_39 : decode cX9_tally 39 = .ok (.iinc 2 1, 3) := by decide +kernel
theorem dX9_tally_42 : decode cX9_tally 42 = .ok (.goto (-40), 3) := by decide +kernel
theorem dX9_tally_45 : decode cX9_tally 45 = .ok (.aload_n 0, 1) := by decide +kernel
theorem dX9_tally_46 : decode cX9_tally 46 = .ok (.invokevirtual 30, 3) := by decide +kernel
theorem dX9_tally_49 : decode cX9_tally 49 = .ok (.aload_n 0, 1) := by decide +kernel
theorem dX9_tally_50 : decode cX9_tally 50 = .ok (.invokevirtual 33, 3) := by decide +kernel
theorem dX9_tally_53 : decode cX9_tally 53 = .ok (.return_, 1) := by decide +kernel
theorem dX9_findLeads_0 : decode cX9_findLeads 0 = .ok (.aload_n 1, 1) := by decide +kernel
theorem dX9_findLeads_1 : decode cX9_findLeads 1 = .ok (.iload_n 2, 1) := by decide +kernel
theorem dX9_findLeads_2 : decode cX9_findLeads 2 = .ok (.iconst 1, 1) := by decide +kernel
theorem dX9_findLeads_3 : decode cX9_findLeads 3 = .ok (.invokevirtual 36, 3) := by decide +kernel
theorem dX9_findLeads_6 : decode cX9_findLeads 6 = .ok (.istore_n 3, 1) := by decide +kernel
theorem dX9_findLeads_7 : decode cX9_findLeads 7 = .ok (.aload_n 1, 1) := by decide +kernel
theorem dX9_findLeads_8 : decode cX9_findLeads 8 = .ok (.iload_n 2, 1) := by decide +kernel
theorem dX9_findLeads_9 : decode cX9_findLeads 9 = .ok (.iconst 0, 1) := by decide +kernel
theorem dX9_findLeads_10 : decode cX9_findLeads 10 = .ok (.invokevirtual 36, 3) := by decide +kernel
theorem dX9_findLeads_13 : decode cX9_findLeads 13 = .ok (.istore 4, 2) := by decide +kernel
theorem dX9_findLeads_15 : decode cX9_findLeads 15 = .ok (.iconst 0, 1) := by decide +kernel
theorem dX9_findLeads_16 : decode cX9_findLeads 16 = .ok (.istore 5, 2) := by decide +kernel
theorem dX9_findLeads_18 : decode cX9_findLeads 18 = .ok (.iload 5, 2) := by decide +kernel
theorem dX9_findLeads_20 : decode cX9_findLeads 20 = .ok (.bipush 8, 2) := by decide +kernel
theorem dX9_findLeads_22 : decode cX9_findLeads 22 = .ok (.if_icmp .ge 120, 3) := by decide +kernel
theorem dX9_findLeads_25 : decode cX9_findLeads 25 = .ok (.iconst 0, 1) := by decide +kernel
theorem dX9_findLeads_26 : decode cX9_findLeads 26 = .ok (.istore 6, 2) := by decide +kernel
theorem dX9_findLeads_28 : decode cX9_findLeads 28 = .ok (.iload 6, 2) := by decide +kernel
theorem dX9_findLeads_30 : decode cX9_findLeads 30 = .ok (.bipush 8, 2) := by decide +kernel
theorem dX9_findLeads_32 : decode cX9_findLeads 32 = .ok (.if_icmp .ge 104, 3) := by decide +kernel
theorem dX9_findLeads_35 : decode cX9_findLeads 35 = .ok (.aload_n 1, 1) := by decide +kernel
theorem dX9_findLeads_36 : decode cX9_findLeads 36 = .ok (.getfield 41, 3) := by decide +kernel
theorem dX9_findLeads_39 : decode cX9_findLeads 39 = .ok (.getfield 45, 3) := by decide +kernel
theorem dX9_findLeads_42 : decode cX9_findLeads 42 = .ok (.iload 5, 2) := by decide +kernel
theorem dX9_findLeads_44 : decode cX9_findLeads 44 = .ok (.iload 6, 2) := by decide +kernel
theorem dX9_findLeads_46 : decode cX9_findLeads 46 = .ok (.invokestatic 22, 3) := by decide +kernel
theorem dX9_findLeads_49 : decode cX9_findLeads 49 = .ok (.iaload, 1) := by decide +kernel
theorem dX9_findLeads_50 : decode cX9_findLeads 50 = .ok (.istore 7, 2) := by decide +kernel
theorem dX9_findLeads_52 : decode cX9_findLeads 52 = .ok (.iload 5, 2) := by decide +kernel
theorem dX9_findLeads_54 : decode cX9_findLeads 54 = .ok (.iload 6, 2) := by decide +kernel
theorem dX9_findLeads_56 : decode cX9_findLeads 56 = .ok (.if_icmp .eq 8, 3) := by decide +kernel
theorem dX9_findLeads_59 : decode cX9_findLeads 59 = .ok (.iload 7, 2) := by decide +kernel
theorem dX9_findLeads_61 : decode cX9_findLeads 61 = .ok (.ifCond .lt 69, 3) := by decide +kernel
theorem dX9_findLeads_64 : decode cX9_findLeads 64 = .ok (.iload_n 3, 1) := by decide +kernel
theorem dX9_findLeads_65 : decode cX9_findLeads 65 = .ok (.iload 4, 2) := by decide +kernel
theorem dX9_findLeads_67 : decode cX9_findLeads 67 = .ok (.ior, 1) := by decide +kernel
theorem dX9_findLeads_68 : decode cX9_findLeads 68 = .ok (.ifCond .eq 10, 3) := by decide +kernel
theorem dX9_findLeads_71 : decode cX9_findLeads 71 = .ok (.iload 5, 2) := by decide +kernel
theorem dX9_findLeads_73 : decode cX9_findLeads 73 = .ok (.iload 6, 2) := by decide +kernel
theorem dX9_findLeads_75 : decode cX9_findLeads 75 = .ok (.if_icmp .ne 7, 3) := by decide +kernel
theorem dX9_findLeads_78 : decode cX9_findLeads 78 = .ok (.iconst 0, 1) := by decide +kernel
theorem dX9_findLeads_79 : decode cX9_findLeads 79 = .ok (.goto 15, 3) := by decide +kernel
theorem dX9_findLeads_82 : decode cX9_findLeads 82 = .ok (.aload_n 1, 1) := by decide +kernel
theorem dX9_findLeads_83 : decode cX9_findLeads 83 = .ok (.getfield 41, 3) := by decide +kernel
theorem dX9_findLeads_86 : decode cX9_findLeads 86 = .ok (.iload 7, 2) := by decide +kernel
theorem dX9_findLeads_88 : decode cX9_findLeads 88 = .ok (.iload 6, 2) := by decide +kernel
theorem dX9_findLeads_90 : decode cX9_findLeads 90 = .ok (.iload_n 2, 1) := by decide +kernel
theorem dX9_findLeads_91 : decode cX9_findLeads 91 = .ok (.invokevirtual 50, 3) := by decide +kernel
theorem dX9_findLeads_94 : decode cX9_findLeads 94 = .ok (.istore 8, 2) := by decide +kernel
theorem dX9_findLeads_96 : decode cX9_findLeads 96 = .ok (.iload 8, 2) := by decide +kernel
theorem dX9_findLeads_98 : decode cX9_findLeads 98 = .ok (.iload_n 3, 1) := by decide +kernel
theorem dX9_findLeads_99 : decode cX9_findLeads 99 = .ok (.iand, 1) := by decide +kernel
theorem dX9_findLeads_100 : decode cX9_findLeads 100 = .ok (.iload_n 3, 1) := by decide +kernel
theorem dX9_findLeads_101 : decode cX9_findLeads 101 = .ok (.if_icmp .ne 29, 3) := by decide +kernel
theorem dX9_findLeads_104 : decode cX9_findLeads 104 = .ok (.iload 8, 2) := by decide +kernel
theorem dX9_findLeads_106 : decode cX9_findLeads 106 = .ok (.iload 4, 2) := by decide +kernel
theorem dX9_findLeads_108 : decode cX9_findLeads 108 = .ok (.iand, 1) := by decide +kernel
theorem dX9_findLeads_109 : decode cX9_findLeads 109 = .ok (.ifCond .ne 21, 3) := by decide +kernel
theorem dX9_findLeads_112 : decode cX9_findLeads 112 = .ok (.aload_n 0, 1) := by decide +kernel
theorem dX9_findLeads_113 : decode cX9_findLeads 113 = .ok (.getfield 9, 3) := by decide +kernel
theorem dX9_findLeads_116 : decode cX9_findLeads 116 = .ok (.iload_n 2, 1) := by decide +kernel
theorem dX9_findLeads_117 : decode cX9_findLeads 117 = .ok (.iload 5, 2) := by decide +kernel
theorem dX9_findLeads_119 : decode cX9_findLeads 119 = .ok (.invokestatic 22, 3) := by decide +kernel
theorem dX9_findLeads_122 : decode cX9_findLeads 122 = .ok (.dup2, 1) := by decide +kernel
theorem dX9_findLeads_123 : decode cX9_findLeads 123 = .ok (.iaload, 1) := by decide +kernel
theorem dX9_findLeads_124 : decode cX9_findLeads 124 = .ok (.iconst 1, 1) := by decide +kernel
theorem dX9_findLeads_125 : decode cX9_findLeads 125 = .ok (.iload 6, 2) := by decide +kernel
theorem dX9_findLeads_127 : decode cX9_findLeads 127 = .ok (.ishl, 1) := by decide +kernel
theorem dX9_findLeads_128 : decode cX9_findLeads 128 = .ok (.ior, 1) := by decide +kernel
theorem dX9_findLeads_129 : decode cX9_findLeads 129 = .ok (.iastore, 1) := by decide +kernel
theorem dX9_findLeads_130 : decode cX9_findLeads 130 = .ok (.iinc 6 1, 3) := by decide +kernel
theorem dX9_findLeads_133 : decode cX9_findLeads 133 = .ok (.goto (-105), 3) := by decide +kernel
theorem dX9_findLeads_136 : decode cX9_findLeads 136 = .ok (.iinc 5 1, 3) := by decide +kernel
theorem dX9_findLeads_139 : decode cX9_findLeads 139 = .ok (.goto (-121), 3) := by decide +kernel
theorem dX9_findLeads_142 : decode cX9_findLeads 142 = .ok (.return_, 1) := by decide +kernel
theorem dX9_tallyBefore_0 : decode cX9_tallyBefore 0 = .ok (.iconst 0, 1) := by decide +kernel
theorem dX9_tallyBefore_1 : decode cX9_tallyBefore 1 = .ok (.istore_n 1, 1) := by decide +kernel
theorem dX9_tallyBefore_2 : decode cX9_tallyBefore 2 = .ok (.iload_n 1, 1) := by decide +kernel
theorem dX9_tallyBefore_3 : decode cX9_tallyBefore 3 = .ok (.aload_n 0, 1) := by decide +kernel
theorem dX9_tallyBefore_4 : decode cX9_tallyBefore 4 = .ok (.getfield 15, 3) := by decide +kernel
theorem dX9_tallyBefore_7 : decode cX9_tallyBefore 7 = .ok (.arraylength, 1) := by decide +kernel
theorem dX9_tallyBefore_8 : decode cX9_tallyBefore 8 = .ok (.if_icmp .ge 16, 3) := by decide +kernel
theorem dX9_tallyBefore_11 : decode cX9_tallyBefore 11 = .ok (.aload_n 0, 1) := by decide +kernel
theorem dX9_tallyBefore_12 : decode cX9_tallyBefore 12 = .ok (.getfield 15, 3) := by decide +kernel
theorem dX9_tallyBefore_15 : decode cX9_tallyBefore 15 = .ok (.iload_n 1, 1) := by decide +kernel
theorem dX9_tallyBefore_16 : decode cX9_tallyBefore 16 = .ok (.lconst 0, 1) := by decide +kernel
theorem dX9_tallyBefore_17 : decode cX9_tallyBefore 17 = .ok (.lastore, 1) := by decide +kernel
theorem dX9_tallyBefore_18 : decode cX9_tallyBefore 18 = .ok (.iinc 1 1, 3) := by decide +kernel
theorem dX9_tallyBefore_21 : decode cX9_tallyBefore 21 = .ok (.goto (-19), 3) := by decide +kernel
theorem dX9_tallyBefore_24 : decode cX9_tallyBefore 24 = .ok (.aload_n 0, 1) := by decide +kernel
theorem dX9_tallyBefore_25 : decode cX9_tallyBefore 25 = .ok (.getfield 15, 3) := by decide +kernel
theorem dX9_tallyBefore_28 : decode cX9_tallyBefore 28 = .ok (.iconst 0, 1) := by decide +kernel
theorem dX9_tallyBefore_29 : decode cX9_tallyBefore 29 = .ok (.lconst 1, 1) := by decide +kernel
theorem dX9_tallyBefore_30 : decode cX9_tallyBefore 30 = .ok (.lastore, 1) := by decide +kernel
theorem dX9_tallyBefore_31 : decode cX9_tallyBefore 31 = .ok (.iconst 0, 1) := by decide +kernel
theorem dX9_tallyBefore_32 : decode cX9_tallyBefore 32 = .ok (.istore_n 1, 1) := by decide +kernel
theorem dX9_tallyBefore_33 : decode cX9_tallyBefore 33 = .ok (.iload_n 1, 1) := by decide +kernel
theorem dX9_tallyBefore_34 : decode cX9_tallyBefore 34 = .ok (.bipush 12, 2) := by decide +kernel
theorem dX9_tallyBefore_36 : decode cX9_tallyBefore 36 = .ok (.if_icmp .ge 80, 3) := by decide +kernel
theorem dX9_tallyBefore_39 : decode cX9_tallyBefore 39 = .ok (.iconst 0, 1) := by decide +kernel
theorem dX9_tallyBefore_40 : decode cX9_tallyBefore 40 = .ok (.istore_n 2, 1) := by decide +kernel
theorem dX9_tallyBefore_41 : decode cX9_tallyBefore 41 = .ok (.iload_n 2, 1) := by decide +kernel
theorem dX9_tallyBefore_42 : decode cX9_tallyBefore 42 = .ok (.bipush 8, 2) := by decide +kernel
theorem dX9_tallyBefore_44 : decode cX9_tallyBefore 44 = .ok (.if_icmp .ge 66, 3) := by decide +kernel
theorem dX9_tallyBefore_47 : decode cX9_tallyBefore 47 = .ok (.iconst 0, 1) := by decide +kernel
theorem dX9_tallyBefore_48 : decode cX9_tallyBefore 48 = .ok (.istore_n 3, 1) := by decide +kernel
theorem dX9_tallyBefore_49 : decode cX9_tallyBefore 49 = .ok (.iload_n 3, 1) := by decide +kernel
theorem dX9_tallyBefore_50 : decode cX9_tallyBefore 50 = .ok (.bipush 8, 2) := by decide +kernel
theorem dX9_tallyBefore_52 : decode cX9_tallyBefore 52 = .ok (.if_icmp .ge 52, 3) := by decide +kernel
theorem dX9_tallyBefore_55 : decode cX9_tallyBefore 55 = .ok (.aload_n 0, 1) := by decide +kernel
theorem dX9_tallyBefore_56 : decode cX9_tallyBefore 56 = .ok (.getfield 9, 3) := by decide +kernel
theorem dX9_tallyBefore_59 : decode cX9_tallyBefore 59 = .ok (.iload_n 1, 1) := by decide +kernel
theorem dX9_tallyBefore_60 : decode cX9_tallyBefore 60 = .ok (.iload_n 2, 1) := by decide +kernel
theorem dX9_tallyBefore_61 : decode cX9_tallyBefore 61 = .ok (.invokestatic 22, 3) := by decide +kernel
theorem dX9_tallyBefore_64 : decode cX9_tallyBefore 64 = .ok (.iaload, 1) := by decide +kernel
theorem dX9_tallyBefore_65 : decode cX9_tallyBefore 65 = .ok (.iload_n 3, 1) := by decide +kernel
theorem dX9_tallyBefore_66 : decode cX9_tallyBefore 66 = .ok (.invokestatic 54, 3) := by decide +kernel
theorem dX9_tallyBefore_69 : decode cX9_tallyBefore 69 = .ok (.iconst 1, 1) := by decide +kernel
theorem dX9_tallyBefore_70 : decode cX9_tallyBefore 70 = .ok (.if_icmp .ne 28, 3) := by decide +kernel
theorem dX9_tallyBefore_73 : decode cX9_tallyBefore 73 = .ok (.aload_n 0, 1) := by decide +kernel
theorem dX9_tallyBefore_74 : decode cX9_tallyBefore 74 = .ok (.getfield 15, 3) := by decide +kernel
theorem dX9_tallyBefore_77 : decode cX9_tallyBefore 77 = .ok (.iload_n 1, 1) := by decide +kernel
theorem dX9_tallyBefore_78 : decode cX9_tallyBefore 78 = .ok (.iconst 1, 1) := by decide +kernel
theorem dX9_tallyBefore_79 : decode cX9_tallyBefore 79 = .ok (.iadd, 1) := by decide +kernel
theorem dX9_tallyBefore_80 : decode cX9_tallyBefore 80 = .ok (.iload_n 3, 1) := by decide +kernel
theorem dX9_tallyBefore_81 : decode cX9_tallyBefore 81 = .ok (.invokestatic 22, 3) := by decide +kernel
theorem dX9_tallyBefore_84 : decode cX9_tallyBefore 84 = .ok (.dup2, 1) := by decide +kernel
theorem dX9_tallyBefore_85 : decode cX9_tallyBefore 85 = .ok (.laload, 1) := by decide +kernel
theorem dX9_tallyBefore_86 : decode cX9_tallyBefore 86 = .ok (.aload_n 0, 1) := by decide +kernel
theorem dX9_tallyBefore_87 : decode cX9_tallyBefore 87 = .ok (.getfield 15, 3) := by decide +kernel
theorem dX9_tallyBefore_90 : decode cX9_tallyBefore 90 = .ok (.iload_n 1, 1) := by decide +kernel
theorem dX9_tallyBefore_91 : decode cX9_tallyBefore 91 = .ok (.iload_n 2, 1) := by decide +kernel
theorem dX9_tallyBefore_92 : decode cX9_tallyBefore 92 = .ok (.invokestatic 22, 3) := by decide +kernel
theorem dX9_tallyBefore_95 : decode cX9_tallyBefore 95 = .ok (.laload, 1) := by decide +kernel
theorem dX9_tallyBefore_96 : decode cX9_tallyBefore 96 = .ok (.ladd, 1) := by decide +kernel
theorem dX9_tallyBefore_97 : decode cX9_tallyBefore 97 = .ok (.lastore, 1) := by decide +kernel
theorem dX9_tallyBefore_98 : decode cX9_tallyBefore 98 = .ok (.iinc 3 1, 3) := by decide +kernel
theorem dX9_tallyBefore_101 : decode cX9_tallyBefore 101 = .ok (.goto (-52), 3) := by decide +kernel
theorem dX9_tallyBefore_104 : decode cX9_tallyBefore 104 = .ok (.iinc 2 1, 3) := by decide +kernel
theorem dX9_tallyBefore_107 : decode cX9_tallyBefore 107 = .ok (.goto (-66), 3) := by decide +kernel
theorem dX9_tallyBefore_110 : decode cX9_tallyBefore 110 = .ok (.iinc 1 1, 3) := by decide +kernel
theorem dX9_tallyBefore_113 : decode cX9_tallyBefore 113 = .ok (.goto (-80), 3) := by decide +kernel
theorem dX9_tallyBefore_116 : decode cX9_tallyBefore 116 = .ok (.return_, 1) := by decide +kernel
theorem dX9_tallyBehind_0 : decode cX9_tallyBehind 0 = .ok (.iconst 0, 1) := by decide +kernel
theorem dX9_tallyBehind_1 : decode cX9_tallyBehind 1 = .ok (.istore_n 1, 1) := by decide +kernel
theorem dX9_tallyBehind_2 : decode cX9_tallyBehind 2 = .ok (.iload_n 1, 1) := by decide +kernel
theorem dX9_tallyBehind_3 : decode cX9_tallyBehind 3 = .ok (.aload_n 0, 1) := by decide +kernel
theorem dX9_tallyBehind_4 : decode cX9_tallyBehind 4 = .ok (.getfield 19, 3) := by decide +kernel
theorem dX9_tallyBehind_7 : decode cX9_tallyBehind 7 = .ok (.arraylength, 1) := by decide +kernel
theorem dX9_tallyBehind_8 : decode cX9_tallyBehind 8 = .ok (.if_icmp .ge 26, 3) := by decide +kernel
theorem dX9_tallyBehind_11 : decode cX9_tallyBehind 11 = .ok (.aload_n 0, 1) := by decide +kernel
theorem dX9_tallyBehind_12 : decode cX9_tallyBehind 12 = .ok (.getfield 19, 3) := by decide +kernel
theorem dX9_tallyBehind_15 : decode cX9_tallyBehind 15 = .ok (.iload_n 1, 1) := by decide +kernel
theorem dX9_tallyBehind_16 : decode cX9_tallyBehind 16 = .ok (.iload_n 1, 1) := by decide +kernel
theorem dX9_tallyBehind_17 : decode cX9_tallyBehind 17 = .ok (.bipush 96, 2) := by decide +kernel
theorem dX9_tallyBehind_19 : decode cX9_tallyBehind 19 = .ok (.if_icmp .ge 7, 3) := by decide +kernel
theorem dX9_tallyBehind_22 : decode cX9_tallyBehind 22 = .ok (.lconst 0, 1) := by decide +kernel
theorem dX9_tallyBehind_23 : decode cX9_tallyBehind 23 = .ok (.goto 4, 3) := by decide +kernel
theorem dX9_tallyBehind_26 : decode cX9_tallyBehind 26 = .ok (.lconst 1, 1) := by decide +kernel
theorem dX9_tallyBehind_27 : decode cX9_tallyBehind 27 = .ok (.lastore, 1) := by decide +kernel
theorem dX9_tallyBehind_28 : decode cX9_tallyBehind 28 = .ok (.iinc 1 1, 3) := by decide +kernel
theorem dX9_tallyBehind_31 : decode cX9_tallyBehind 31 = .ok (.goto (-29), 3) := by decide +kernel
theorem dX9_tallyBehind_34 : decode cX9_tallyBehind 34 = .ok (.bipush 11, 2) := by decide +kernel
theorem dX9_tallyBehind_36 : decode cX9_tallyBehind 36 = .ok (.istore_n 1, 1) := by decide +kernel
theorem dX9_tallyBehind_37 : decode cX9_tallyBehind 37 = .ok (.iload_n 1, 1) := by decide +kernel
theorem dX9_tallyBehind_38 : decode cX9_tallyBehind 38 = .ok (.ifCond .lt 80, 3) := by decide +kernel
theorem dX9_tallyBehind_41 : decode cX9_tallyBehind 41 = .ok (.iconst 0, 1) := by decide +kernel
theorem dX9_tallyBehind_42 : decode cX9_tallyBehind 42 = .ok (.istore_n 2, 1) := by decide +kernel
theorem dX9_tallyBehind_43 : decode cX9_tallyBehind 43 = .ok (.iload_n 2, 1) := by decide +kernel
theorem dX9_tallyBehind_44 : decode cX9_tallyBehind 44 = .ok (.bipush 8, 2) := by decide +kernel
theorem dX9_tallyBehind_46 : decode cX9_tallyBehind 46 = .ok (.if_icmp .ge 66, 3) := by decide +kernel
theorem dX9_tallyBehind_49 : decode cX9_tallyBehind 49 = .ok (.iconst 0, 1) := by decide +kernel
theorem dX9_tallyBehind_50 : decode cX9_tallyBehind 50 = .ok (.istore_n 3, 1) := by decide +kernel
theorem dX9_tallyBehind_51 : decode cX9_tallyBehind 51 = .ok (.iload_n 3, 1) := by decide +kernel
theorem dX9_tallyBehind_52 : decode cX9_tallyBehind 52 = .ok (.bipush 8, 2) := by decide +kernel
theorem dX9_tallyBehind_54 : decode cX9_tallyBehind 54 = .ok (.if_icmp .ge 52, 3) := by decide +kernel
theorem dX9_tallyBehind_57 : decode cX9_tallyBehind 57 = .ok (.aload_n 0, 1) := by decide +kernel
theorem dX9_tallyBehind_58 : decode cX9_tallyBehind 58 = .ok (.getfield 9, 3) := by decide +kernel
theorem dX9_tallyBehind_61 : decode cX9_tallyBehind 61 = .ok (.iload_n 1, 1) := by decide +kernel
theorem dX9_tallyBehind_62 : decode cX9_tallyBehind 62 = .ok (.iload_n 2, 1) := by decide +kernel
theorem dX9_tallyBehind_63 : decode cX9_tallyBehind 63 = .ok (.invokestatic 22, 3) := by decide +kernel
theorem dX9_tallyBehind_66 : decode cX9_tallyBehind 66 = .ok (.iaload, 1) := by decide +kernel
theorem dX9_tallyBehind_67 : decode cX9_tallyBehind 67 = .ok (.iload_n 3, 1) := by decide +kernel
theorem dX9_tallyBehind_68 : decode cX9_tallyBehind 68 = .ok (.invokestatic 54, 3) := by decide +kernel
theorem dX9_tallyBehind_71 : decode cX9_tallyBehind 71 = .ok (.iconst 1, 1) := by decide +kernel
theorem dX9_tallyBehind_72 : decode cX9_tallyBehind 72 = .ok (.if_icmp .ne 28, 3) := by decide +kernel
theorem dX9_tallyBehind_75 : decode cX9_tallyBehind 75 = .ok (.aload_n 0, 1) := by decide +kernel
theorem dX9_tallyBehind_76 : decode cX9_tallyBehind 76 = .ok (.getfield 19, 3) := by decide +kernel
theorem dX9_tallyBehind_79 : decode cX9_tallyBehind 79 = .ok (.iload_n 1, 1) := by decide +kernel
theorem dX9_tallyBehind_80 : decode cX9_tallyBehind 80 = .ok (.iload_n 2, 1) := by decide +kernel
theorem dX9_tallyBehind_81 : decode cX9_tallyBehind 81 = .ok (.invokestatic 22, 3) := by decide +kernel
theorem dX9_tallyBehind_84 : decode cX9_tallyBehind 84 = .ok (.dup2, 1) := by decide +kernel
theorem dX9_tallyBehind_85 : decode cX9_tallyBehind 85 = .ok (.laload, 1) := by decide +kernel
theorem dX9_tallyBehind_86 : decode cX9_tallyBehind 86 = .ok (.aload_n 0, 1) := by decide +kernel
theorem dX9_tallyBehind_87 : decode cX9_tallyBehind 87 = .ok (.getfield 19, 3) := by decide +kernel
theorem dX9_tallyBehind_90 : decode cX9_tallyBehind 90 = .ok (.iload_n 1, 1) := by decide +kernel
theorem dX9_tallyBehind_91 : decode cX9_tallyBehind 91 = .ok (.iconst 1, 1) := by decide +kernel
theorem dX9_tallyBehind_92 : decode cX9_tallyBehind 92 = .ok (.iadd, 1) := by decide +kernel
theorem dX9_tallyBehind_93 : decode cX9_tallyBehind 93 = .ok (.iload_n 3, 1) := by decide +kernel
theorem dX9_tallyBehind_94 : decode cX9_tallyBehind 94 = .ok (.invokestatic 22, 3) := by decide +kernel
theorem dX9_tallyBehind_97 : decode cX9_tallyBehind 97 = .ok (.laload, 1) := by decide +kernel
theorem dX9_tallyBehind_98 : decode cX9_tallyBehind 98 = .ok (.ladd, 1) := by decide +kernel
theorem dX9_tallyBehind_99 : decode cX9_tallyBehind 99 = .ok (.lastore, 1) := by decide +kernel
theorem dX9_tallyBehind_100 : decode cX9_tallyBehind 100 = .ok (.iinc 3 1, 3) := by decide +kernel
theorem dX9_tallyBehind_103 : decode cX9_tallyBehind 103 = .ok (.goto (-52), 3) := by decide +kernel
theorem dX9_tallyBehind_106 : decode cX9_tallyBehind 106 = .ok (.iinc 2 1, 3) := by decide +kernel
theorem dX9_tallyBehind_109 : decode cX9_tallyBehind 109 = .ok (.goto (-66), 3) := by decide +kernel
theorem dX9_tallyBehind_112 : decode cX9_tallyBehind 112 = .ok (.iinc 1 (-1), 3) := by decide +kernel
theorem dX9_tallyBehind_115 : decode cX9_tallyBehind 115 = .ok (.goto (-78), 3) := by decide +kernel
theorem dX9_tallyBehind_118 : decode cX9_tallyBehind 118 = .ok (.return_, 1) := by decide +kernel
theorem dX9_total_0 : decode cX9_total 0 = .ok (.aload_n 0, 1) := by decide +kernel
theorem dX9_total_1 : decode cX9_total 1 = .ok (.getfield 19, 3) := by decide +kernel
theorem dX9_total_4 : decode cX9_total 4 = .ok (.iconst 0, 1) := by decide +kernel
theorem dX9_total_5 : decode cX9_total 5 = .ok (.laload, 1) := by decide +kernel
theorem dX9_total_6 : decode cX9_total 6 = .ok (.lreturn, 1) := by decide +kernel
theorem dX9_roomsIn_0 : decode cX9_roomsIn 0 = .ok (.iconst 0, 1) := by decide +kernel
theorem dX9_roomsIn_1 : decode cX9_roomsIn 1 = .ok (.istore_n 2, 1) := by decide +kernel
theorem dX9_roomsIn_2 : decode cX9_roomsIn 2 = .ok (.iconst 0, 1) := by decide +kernel
theorem dX9_roomsIn_3 : decode cX9_roomsIn 3 = .ok (.istore_n 3, 1) := by decide +kernel
theorem dX9_roomsIn_4 : decode cX9_roomsIn 4 = .ok (.iload_n 3, 1) := by decide +kernel
theorem dX9_roomsIn_5 : decode cX9_roomsIn 5 = .ok (.bipush 8, 2) := by decide +kernel
theorem dX9_roomsIn_7 : decode cX9_roomsIn 7 = .ok (.if_icmp .ge 45, 3) := by decide +kernel
theorem dX9_roomsIn_10 : decode cX9_roomsIn 10 = .ok (.aload_n 0, 1) := by decide +kernel
theorem dX9_roomsIn_11 : decode cX9_roomsIn 11 = .ok (.getfield 15, 3) := by decide +kernel
theorem dX9_roomsIn_14 : decode cX9_roomsIn 14 = .ok (.iload_n 1, 1) := by decide +kernel
theorem dX9_roomsIn_15 : decode cX9_roomsIn 15 = .ok (.iload_n 3, 1) := by decide +kernel
theorem dX9_roomsIn_16 : decode cX9_roomsIn 16 = .ok (.invokestatic 22, 3) := by decide +kernel
theorem dX9_roomsIn_19 : decode cX9_roomsIn 19 = .ok (.laload, 1) := by decide +kernel
theorem dX9_roomsIn_20 : decode cX9_roomsIn 20 = .ok (.lconst 0, 1) := by decide +kernel
theorem dX9_roomsIn_21 : decode cX9_roomsIn 21 = .ok (.lcmp, 1) := by decide +kernel
theorem dX9_roomsIn_22 : decode cX9_roomsIn 22 = .ok (.ifCond .le 24, 3) := by decide +kernel
theorem dX9_roomsIn_25 : decode cX9_roomsIn 25 = .ok (.aload_n 0, 1) := by decide +kernel
theorem dX9_roomsIn_26 : decode cX9_roomsIn 26 = .ok (.getfield 19, 3) := by decide +kernel
theorem dX9_roomsIn_29 : decode cX9_roomsIn 29 = .ok (.iload_n 1, 1) := by decide +kernel
theorem dX9_roomsIn_30 : decode cX9_roomsIn 30 = .ok (.iload_n 3, 1) := by decide +kernel
theorem dX9_roomsIn_31 : decode cX9_roomsIn 31 = .ok (.invokestatic 22, 3) := by decide +kernel
theorem dX9_roomsIn_34 : decode cX9_roomsIn 34 = .ok (.laload, 1) := by decide +kernel
theorem dX9_roomsIn_35 : decode cX9_roomsIn 35 = .ok (.lconst 0, 1) := by decide +kernel
theorem dX9_roomsIn_36 : decode cX9_roomsIn 36 = .ok (.lcmp, 1) := by decide +kernel
theorem dX9_roomsIn_37 : decode cX9_roomsIn 37 = .ok (.ifCond .le 9, 3) := by decide +kernel
theorem dX9_roomsIn_40 : decode cX9_roomsIn 40 = .ok (.iload_n 2, 1) := by decide +kernel
theorem dX9_roomsIn_41 : decode cX9_roomsIn 41 = .ok (.iconst 1, 1) := by decide +kernel
theorem dX9_roomsIn_42 : decode cX9_roomsIn 42 = .ok (.iload_n 3, 1) := by decide +kernel
theorem dX9_roomsIn_43 : decode cX9_roomsIn 43 = .ok (.ishl, 1) := by decide +kernel
theorem dX9_roomsIn_44 : decode cX9_roomsIn 44 = .ok (.ior, 1) := by decide +kernel
theorem dX9_roomsIn_45 : decode cX9_roomsIn 45 = .ok (.istore_n 2, 1) := by decide +kernel
theorem dX9_roomsIn_46 : decode cX9_roomsIn 46 = .ok (.iinc 3 1, 3) := by decide +kernel
theorem dX9_roomsIn_49 : decode cX9_roomsIn 49 = .ok (.goto (-45), 3) := by decide +kernel
theorem dX9_roomsIn_52 : decode cX9_roomsIn 52 = .ok (.iload_n 2, 1) := by decide +kernel
theorem dX9_roomsIn_53 : decode cX9_roomsIn 53 = .ok (.ireturn, 1) := by decide +kernel
theorem dX9_bestListener_0 : decode cX9_bestListener 0 = .ok (.iconst (-1), 1) := by decide +kernel
theorem dX9_bestListener_1 : decode cX9_bestListener 1 = .ok (.istore_n 3, 1) := by decide +kernel
theorem dX9_bestListener_2 : decode cX9_bestListener 2 = .ok (.ldc2_w 59, 3) := by decide +kernel
theorem dX9_bestListener_5 : decode cX9_bestListener 5 = .ok (.lstore 4, 2) := by decide +kernel
theorem dX9_bestListener_7 : decode cX9_bestListener 7 = .ok (.iconst 0, 1) := by decide +kernel
theorem dX9_bestListener_8 : decode cX9_bestListener 8 = .ok (.istore 6, 2) := by decide +kernel
theorem dX9_bestListener_10 : decode cX9_bestListener 10 = .ok (.iload 6, 2) := by decide +kernel
theorem dX9_bestListener_12 : decode cX9_bestListener 12 = .ok (.aload_n 1, 1) := by decide +kernel
theorem dX9_bestListener_13 : decode cX9_bestListener 13 = .ok (.getfield 61, 3) := by decide +kernel
theorem dX9_bestListener_16 : decode cX9_bestListener 16 = .ok (.if_icmp .ge 57, 3) := by decide +kernel
theorem dX9_bestListener_19 : decode cX9_bestListener 19 = .ok (.aload_n 0, 1) := by decide +kernel
theorem dX9_bestListener_20 : decode cX9_bestListener 20 = .ok (.invokevirtual 65, 3) := by decide +kernel
theorem dX9_bestListener_23 : decode cX9_bestListener 23 = .ok (.lconst 0, 1) := by decide +kernel
theorem dX9_bestListener_24 : decode cX9_bestListener 24 = .ok (.lcmp, 1) := by decide +kernel
theorem dX9_bestListener_25 : decode cX9_bestListener 25 = .ok (.ifCond .le 48, 3) := by decide +kernel
theorem dX9_bestListener_28 : decode cX9_bestListener 28 = .ok (.aload_n 0, 1) := by decide +kernel
theorem dX9_bestListener_29 : decode cX9_bestListener 29 = .ok (.aload_n 1, 1) := by decide +kernel
theorem dX9_bestListener_30 : decode cX9_bestListener 30 = .ok (.iload 6, 2) := by decide +kernel
theorem dX9_bestListener_32 : decode cX9_bestListener 32 = .ok (.iload_n 2, 1) := by decide +kernel
theorem dX9_bestListener_33 : decode cX9_bestListener 33 = .ok (.invokevirtual 69, 3) := by decide +kernel
theorem dX9_bestListener_36 : decode cX9_bestListener 36 = .ok (.lstore 7, 2) := by decide +kernel
theorem dX9_bestListener_38 : decode cX9_bestListener 38 = .ok (.lload 7, 2) := by decide +kernel
theorem dX9_bestListener_40 : decode cX9_bestListener 40 = .ok (.aload_n 0, 1) := by decide +kernel
theorem dX9_bestListener_41 : decode cX9_bestListener 41 = .ok (.invokevirtual 65, 3) := by decide +kernel
theorem dX9_bestListener_44 : decode cX9_bestListener 44 = .ok (.lload 7, 2) := by decide +kernel
theorem dX9_bestListener_46 : decode cX9_bestListener 46 = .ok (.lsub, 1) := by decide +kernel
theorem dX9_bestListener_47 : decode cX9_bestListener 47 = .ok (.invokestatic 73, 3) := by decide +kernel
theorem dX9_bestListener_50 : decode cX9_bestListener 50 = .ok (.lstore 9, 2) := by decide +kernel
theorem dX9_bestListener_52 : decode cX9_bestListener 52 = .ok (.lload 9, 2) := by decide +kernel
theorem dX9_bestListener_54 : decode cX9_bestListener 54 = .ok (.lload 4, 2) := by decide +kernel
theorem dX9_bestListener_56 : decode cX9_bestListener 56 = .ok (.lcmp, 1) := by decide +kernel
theorem dX9_bestListener_57 : decode cX9_bestListener 57 = .ok (.ifCond .ge 10, 3) := by decide +kernel
theorem dX9_bestListener_60 : decode cX9_bestListener 60 = .ok (.lload 9, 2) := by decide +kernel
theorem dX9_bestListener_62 : decode cX9_bestListener 62 = .ok (.lstore 4, 2) := by decide +kernel
theorem dX9_bestListener_64 : decode cX9_bestListener 64 = .ok (.iload 6, 2) := by decide +kernel
theorem dX9_bestListener_66 : decode cX9_bestListener 66 = .ok (.istore_n 3, 1) := by decide +kernel
theorem dX9_bestListener_67 : decode cX9_bestListener 67 = .ok (.iinc 6 1, 3) := by decide +kernel
theorem dX9_bestListener_70 : decode cX9_bestListener 70 = .ok (.goto (-60), 3) := by decide +kernel
theorem dX9_bestListener_73 : decode cX9_bestListener 73 = .ok (.iload_n 3, 1) := by decide +kernel
theorem dX9_bestListener_74 : decode cX9_bestListener 74 = .ok (.ireturn, 1) := by decide +kernel
theorem dX9_rowsHeardBy_0 : decode cX9_rowsHeardBy 0 = .ok (.lconst 0, 1) := by decide +kernel
theorem dX9_rowsHeardBy_1 : decode cX9_rowsHeardBy 1 = .ok (.lstore 4, 2) := by decide +kernel
theorem dX9_rowsHeardBy_3 : decode cX9_rowsHeardBy 3 = .ok (.iconst 0, 1) := by decide +kernel
theorem dX9_rowsHeardBy_4 : decode cX9_rowsHeardBy 4 = .ok (.istore 6, 2) := by decide +kernel
theorem dX9_rowsHeardBy_6 : decode cX9_rowsHeardBy 6 = .ok (.iload 6, 2) := by decide +kernel
theorem dX9_rowsHeardBy_8 : decode cX9_rowsHeardBy 8 = .ok (.bipush 8, 2) := by decide +kernel
theorem dX9_rowsHeardBy_10 : decode cX9_rowsHeardBy 10 = .ok (.if_icmp .ge 119, 3) := by decide +kernel
theorem dX9_rowsHeardBy_13 : decode cX9_rowsHeardBy 13 = .ok (.iconst 0, 1) := by decide +kernel
theorem dX9_rowsHeardBy_14 : decode cX9_rowsHeardBy 14 = .ok (.istore 7, 2) := by decide +kernel
theorem dX9_rowsHeardBy_16 : decode cX9_rowsHeardBy 16 = .ok (.iload 7, 2) := by decide +kernel
theorem dX9_rowsHeardBy_18 : decode cX9_rowsHeardBy 18 = .ok (.bipush 8, 2) := by decide +kernel
theorem dX9_rowsHeardBy_20 : decode cX9_rowsHeardBy 20 = .ok (.if_icmp .ge 103, 3) := by decide +kernel
theorem dX9_rowsHeardBy_23 : decode cX9_rowsHeardBy 23 = .ok (.aload_n 1, 1) := by decide +kernel
theorem dX9_rowsHeardBy_24 : decode cX9_rowsHeardBy 24 = .ok (.getfield 45, 3) := by decide +kernel
theorem dX9_rowsHeardBy_27 : decode cX9_rowsHeardBy 27 = .ok (.iload 6, 2) := by decide +kernel
theorem dX9_rowsHeardBy_29 : decode cX9_rowsHeardBy 29 = .ok (.iload 7, 2) := by decide +kernel
theorem dX9_rowsHeardBy_31 : decode cX9_rowsHeardBy 31 = .ok (.invokestatic 22, 3) := by decide +kernel
theorem dX9_rowsHeardBy_34 : decode cX9_rowsHeardBy 34 = .ok (.iaload, 1) := by decide +kernel
theorem dX9_rowsHeardBy_35 : decode cX9_rowsHeardBy 35 = .ok (.istore 8, 2) := by decide +kernel
theorem dX9_rowsHeardBy_37 : decode cX9_rowsHeardBy 37 = .ok (.iload 8, 2) := by decide +kernel
theorem dX9_rowsHeardBy_39 : decode cX9_rowsHeardBy 39 = .ok (.ifCond .lt 27, 3) := by decide +kernel
theorem dX9_rowsHeardBy_42 : decode cX9_rowsHeardBy 42 = .ok (.aload_n 0, 1) := by decide +kernel
theorem dX9_rowsHeardBy_43 : decode cX9_rowsHeardBy 43 = .ok (.getfield 9, 3) := by decide +kernel
theorem dX9_rowsHeardBy_46 : decode cX9_rowsHeardBy 46 = .ok (.iload_n 3, 1) := by decide +kernel
theorem dX9_rowsHeardBy_47 : decode cX9_rowsHeardBy 47 = .ok (.iload 6, 2) := by decide +kernel
theorem dX9_rowsHeardBy_49 : decode cX9_rowsHeardBy 49 = .ok (.invokestatic 22, 3) := by decide +kernel
theorem dX9_rowsHeardBy_52 : decode cX9_rowsHeardBy 52 = .ok (.iaload, 1) := by decide +kernel
theorem dX9_rowsHeardBy_53 : decode cX9_rowsHeardBy 53 = .ok (.iload 7, 2) := by decide +kernel
theorem dX9_rowsHeardBy_55 : decode cX9_rowsHeardBy 55 = .ok (.invokestatic 54, 3) := by decide +kernel
theorem dX9_rowsHeardBy_58 : decode cX9_rowsHeardBy 58 = .ok (.iconst 1, 1) := by decide +kernel
theorem dX9_rowsHeardBy_59 : decode cX9_rowsHeardBy 59 = .ok (.if_icmp .ne 7, 3) := by decide +kernel
theorem dX9_rowsHeardBy_62 : decode cX9_rowsHeardBy 62 = .ok (.iconst 1, 1) := by decide +kernel
theorem dX9_rowsHeardBy_63 : decode cX9_rowsHeardBy 63 = .ok (.goto 4, 3) := by decide +kernel
theorem dX9_rowsHeardBy_66 : decode cX9_rowsHeardBy 66 = .ok (.iconst 0, 1) := by decide +kernel
theorem dX9_rowsHeardBy_67 : decode cX9_rowsHeardBy 67 = .ok (.istore 9, 2) := by decide +kernel
theorem dX9_rowsHeardBy_69 : decode cX9_rowsHeardBy 69 = .ok (.iload 9, 2) := by decide +kernel
theorem dX9_rowsHeardBy_71 : decode cX9_rowsHeardBy 71 = .ok (.ifCond .eq 46, 3) := by decide +kernel
theorem dX9_rowsHeardBy_74 : decode cX9_rowsHeardBy 74 = .ok (.iload 8, 2) := by decide +kernel
theorem dX9_rowsHeardBy_76 : decode cX9_rowsHeardBy 76 = .ok (.aload_n 1, 1) := by decide +kernel
theorem dX9_rowsHeardBy_77 : decode cX9_rowsHeardBy 77 = .ok (.iload_n 2, 1) := by decide +kernel
theorem dX9_rowsHeardBy_78 : decode cX9_rowsHeardBy 78 = .ok (.iload 7, 2) := by decide +kernel
theorem dX9_rowsHeardBy_80 : decode cX9_rowsHeardBy 80 = .ok (.iload_n 3, 1) := by decide +kernel
theorem dX9_rowsHeardBy_81 : decode cX9_rowsHeardBy 81 = .ok (.invokevirtual 79, 3) := by decide +kernel
theorem dX9_rowsHeardBy_84 : decode cX9_rowsHeardBy 84 = .ok (.if_icmp .lt 33, 3) := by decide +kernel
theorem dX9_rowsHeardBy_87 : decode cX9_rowsHeardBy 87 = .ok (.lload 4, 2) := by decide +kernel
theorem dX9_rowsHeardBy_89 : decode cX9_rowsHeardBy 89 = .ok (.aload_n 0, 1) := by decide +kernel
theorem dX9_rowsHeardBy_90 : decode cX9_rowsHeardBy 90 = .ok (.getfield 15, 3) := by decide +kernel
theorem dX9_rowsHeardBy_93 : decode cX9_rowsHeardBy 93 = .ok (.iload_n 3, 1) := by decide +kernel
theorem dX9_rowsHeardBy_94 : decode cX9_rowsHeardBy 94 = .ok (.iload 6, 2) := by decide +kernel
theorem dX9_rowsHeardBy_96 : decode cX9_rowsHeardBy 96 = .ok (.invokestatic 22, 3) := by decide +kernel
theorem dX9_rowsHeardBy_99 : decode cX9_rowsHeardBy 99 = .ok (.laload, 1) := by decide +kernel
theorem dX9_rowsHeardBy_100 : decode cX9_rowsHeardBy 100 = .ok (.aload_n 0, 1) := by decide +kernel
theorem dX9_rowsHeardBy_101 : decode cX9_rowsHeardBy 101 = .ok (.getfield 19, 3) := by decide +kernel
theorem dX9_rowsHeardBy_104 : decode cX9_rowsHeardBy 104 = .ok (.iload_n 3, 1) := by decide +kernel
theorem dX9_rowsHeardBy_105 : decode cX9_rowsHeardBy 105 = .ok (.iconst 1, 1) := by decide +kernel
theorem dX9_rowsHeardBy_106 : decode cX9_rowsHeardBy 106 = .ok (.iadd, 1) := by decide +kernel
theorem dX9_rowsHeardBy_107 : decode cX9_rowsHeardBy 107 = .ok (.iload 7, 2) := by decide +kernel
theorem dX9_rowsHeardBy_109 : decode cX9_rowsHeardBy 109 = .ok (.invokestatic 22, 3) := by decide +kernel
theorem dX9_rowsHeardBy_112 : decode cX9_rowsHeardBy 112 = .ok (.laload, 1) := by decide +kernel
theorem dX9_rowsHeardBy_113 : decode cX9_rowsHeardBy 113 = .ok (.lmul, 1) := by decide +kernel
theorem dX9_rowsHeardBy_114 : decode cX9_rowsHeardBy 114 = .ok (.ladd, 1) := by decide +kernel
theorem dX9_rowsHeardBy_115 : decode cX9_rowsHeardBy 115 = .ok (.lstore 4, 2) := by decide +kernel
theorem dX9_rowsHeardBy_117 : decode cX9_rowsHeardBy 117 = .ok (.iinc 7 1, 3) := by decide +kernel
theorem dX9_rowsHeardBy_120 : decode cX9_rowsHeardBy 120 = .ok (.goto (-104), 3) := by decide +kernel
theorem dX9_rowsHeardBy_123 : decode cX9_rowsHeardBy 123 = .ok (.iinc 6 1, 3) := by decide +kernel
theorem dX9_rowsHeardBy_126 : decode cX9_rowsHeardBy 126 = .ok (.goto (-120), 3) := by decide +kernel
theorem dX9_rowsHeardBy_129 : decode cX9_rowsHeardBy 129 = .ok (.lload 4, 2) := by decide +kernel
theorem dX9_rowsHeardBy_131 : decode cX9_rowsHeardBy 131 = .ok (.lreturn, 1) := by decide +kernel
theorem dX10_init_0 : decode cX10_init 0 = .ok (.aload_n 0, 1) := by decide +kernel
theorem dX10_init_1 : decode cX10_init 1 = .ok (.invokespecial 1, 3) := by decide +kernel
theorem dX10_init_4 : decode cX10_init 4 = .ok (.return_, 1) := by decide +kernel
theorem dX10_wakingNoise_0 : decode cX10_wakingNoise 0 = .ok (.aload_n 0, 1) := by decide +kernel
theorem dX10_wakingNoise_1 : decode cX10_wakingNoise 1 = .ok (.iload_n 1, 1) := by decide +kernel
theorem dX10_wakingNoise_2 : decode cX10_wakingNoise 2 = .ok (.iload_n 2, 1) := by decide +kernel
theorem dX10_wakingNoise_3 : decode cX10_wakingNoise 3 = .ok (.iload_n 3, 1) := by decide +kernel
theorem dX10_wakingNoise_4 : decode cX10_wakingNoise 4 = .ok (.invokespecial 7, 3) := by decide +kernel
theorem dX10_wakingNoise_7 : decode cX10_wakingNoise 7 = .ok (.istore 4, 2) := by decide +kernel
theorem dX10_wakingNoise_9 : decode cX10_wakingNoise 9 = .ok (.iload_n 2, 1) := by decide +kernel
theorem dX10_wakingNoise_10 : decode cX10_wakingNoise 10 = .ok (.iconst 2, 1) := by decide +kernel
theorem dX10_wakingNoise_11 : decode cX10_wakingNoise 11 = .ok (.irem, 1) := by decide +kernel
theorem dX10_wakingNoise_12 : decode cX10_wakingNoise 12 = .ok (.iconst 1, 1) := by decide +kernel
theorem dX10_wakingNoise_13 : decode cX10_wakingNoise 13 = .ok (.if_icmp .ne 10, 3) := by decide +kernel
theorem dX10_wakingNoise_16 : decode cX10_wakingNoise 16 = .ok (.iconst 2, 1) := by decide +kernel
theorem dX10_wakingNoise_17 : decode cX10_wakingNoise 17 = .ok (.iload 4, 2) := by decide +kernel
theorem dX10_wakingNoise_19 : decode cX10_wakingNoise 19 = .ok (.imul, 1) := by decide +kernel
theorem dX10_wakingNoise_20 : decode cX10_wakingNoise 20 = .ok (.goto 5, 3) := by decide +kernel
theorem dX10_wakingNoise_23 : decode cX10_wakingNoise 23 = .ok (.iload 4, 2) := by decide +kernel
theorem dX10_wakingNoise_25 : decode cX10_wakingNoise 25 = .ok (.ireturn, 1) := by decide +kernel
theorem dJ6_bitCount_0f7a4_0 : decode cJ6_bitCount_0f7a4 0 = .ok (.iload_n 0, 1) := by decide +kernel
theorem dJ6_bitCount_0f7a4_1 : decode cJ6_bitCount_0f7a4 1 = .ok (.iload_n 0, 1) := by decide +kernel
theorem dJ6_bitCount_0f7a4_2 : decode cJ6_bitCount_0f7a4 2 = .ok (.iconst 1, 1) := by decide +kernel
theorem dJ6_bitCount_0f7a4_3 : decode cJ6_bitCount_0f7a4 3 = .ok (.iushr, 1) := by decide +kernel
theorem dJ6_bitCount_0f7a4_4 : decode cJ6_bitCount_0f7a4 4 = .ok (.ldc_w 265, 3) := by decide +kernel
theorem dJ6_bitCount_0f7a4_7 : decode cJ6_bitCount_0f7a4 7 = .ok (.iand, 1) := by decide +kernel
theorem dJ6_bitCount_0f7a4_8 : decode cJ6_bitCount_0f7a4 8 = .ok (.isub, 1) := by decide +kernel
theorem dJ6_bitCount_0f7a4_9 : decode cJ6_bitCount_0f7a4 9 = .ok (.istore_n 0, 1) := by decide +kernel
theorem dJ6_bitCount_0f7a4_10 : decode cJ6_bitCount_0f7a4 10 = .ok (.iload_n 0, 1) := by decide +kernel
theorem dJ6_bitCount_0f7a4_11 : decode cJ6_bitCount_0f7a4 11 = .ok (.ldc_w 266, 3) := by decide +kernel
theorem dJ6_bitCount_0f7a4_14 : decode cJ6_bitCount_0f7a4 14 = .ok (.iand, 1) := by decide +kernel
theorem dJ6_bitCount_0f7a4_15 : decode cJ6_bitCount_0f7a4 15 = .ok (.iload_n 0, 1) := by decide +kernel
theorem dJ6_bitCount_0f7a4_16 : decode cJ6_bitCount_0f7a4 16 = .ok (.iconst 2, 1) := by decide +kernel
theorem dJ6_bitCount_0f7a4_17 : decode cJ6_bitCount_0f7a4 17 = .ok (.iushr, 1) := by decide +kernel
theorem dJ6_bitCount_0f7a4_18 : decode cJ6_bitCount_0f7a4 18 = .ok (.ldc_w 266, 3) := by decide +kernel
theorem dJ6_bitCount_0f7a4_21 : decode cJ6_bitCount_0f7a4 21 = .ok (.iand, 1) := by decide +kernel
theorem dJ6_bitCount_0f7a4_22 : decode cJ6_bitCount_0f7a4 22 = .ok (.iadd, 1) := by decide +kernel
theorem dJ6_bitCount_0f7a4_23 : decode cJ6_bitCount_0f7a4 23 = .ok (.istore_n 0, 1) := by decide +kernel
theorem dJ6_bitCount_0f7a4_24 : decode cJ6_bitCount_0f7a4 24 = .ok (.iload_n 0, 1) := by decide +kernel
theorem dJ6_bitCount_0f7a4_25 : decode cJ6_bitCount_0f7a4 25 = .ok (.iload_n 0, 1) := by decide +kernel
theorem dJ6_bitCount_0f7a4_26 : decode cJ6_bitCount_0f7a4 26 = .ok (.iconst 4, 1) := by decide +kernel
theorem dJ6_bitCount_0f7a4_27 : decode cJ6_bitCount_0f7a4 27 = .ok (.iushr, 1) := by decide +kernel
theorem dJ6_bitCount_0f7a4_28 : decode cJ6_bitCount_0f7a4 28 = .ok (.iadd, 1) := by decide +kernel
theorem dJ6_bitCount_0f7a4_29 : decode cJ6_bitCount_0f7a4 29 = .ok (.ldc_w 267, 3) := by decide +kernel
theorem dJ6_bitCount_0f7a4_32 : decode cJ6_bitCount_0f7a4 32 = .ok (.iand, 1) := by decide +kernel
theorem dJ6_bitCount_0f7a4_33 : decode cJ6_bitCount_0f7a4 33 = .ok (.istore_n 0, 1) := by decide +kernel
theorem dJ6_bitCount_0f7a4_34 : decode cJ6_bitCount_0f7a4 34 = .ok (.iload_n 0, 1) := by decide +kernel
theorem dJ6_bitCount_0f7a4_35 : decode cJ6_bitCount_0f7a4 35 = .ok (.iload_n 0, 1) := by decide +kernel
theorem dJ6_bitCount_0f7a4_36 : decode cJ6_bitCount_0f7a4 36 = .ok (.bipush 8, 2) := by decide +kernel
theorem dJ6_bitCount_0f7a4_38 : decode cJ6_bitCount_0f7a4 38 = .ok (.iushr, 1) := by decide +kernel
theorem dJ6_bitCount_0f7a4_39 : decode cJ6_bitCount_0f7a4 39 = .ok (.iadd, 1) := by decide +kernel
theorem dJ6_bitCount_0f7a4_40 : decode cJ6_bitCount_0f7a4 40 = .ok (.istore_n 0, 1) := by decide +kernel
theorem dJ6_bitCount_0f7a4_41 : decode cJ6_bitCount_0f7a4 41 = .ok (.iload_n 0, 1) := by decide +kernel
theorem dJ6_bitCount_0f7a4_42 : decode cJ6_bitCount_0f7a4 42 = .ok (.iload_n 0, 1) := by decide +kernel
theorem dJ6_bitCount_0f7a4_43 : decode cJ6_bitCount_0f7a4 43 = .ok (.bipush 16, 2) := by decide +kernel
theorem dJ6_bitCount_0f7a4_45 : decode cJ6_bitCount_0f7a4 45 = .ok (.iushr, 1) := by decide +kernel
theorem dJ6_bitCount_0f7a4_46 : decode cJ6_bitCount_0f7a4 46 = .ok (.iadd, 1) := by decide +kernel
theorem dJ6_bitCount_0f7a4_47 : decode cJ6_bitCount_0f7a4 47 = .ok (.istore_n 0, 1) := by decide +kernel
theorem dJ6_bitCount_0f7a4_48 : decode cJ6_bitCount_0f7a4 48 = .ok (.iload_n 0, 1) := by decide +kernel
theorem dJ6_bitCount_0f7a4_49 : decode cJ6_bitCount_0f7a4 49 = .ok (.bipush 63, 2) := by decide +kernel
theorem dJ6_bitCount_0f7a4_51 : decode cJ6_bitCount_0f7a4 51 = .ok (.iand, 1) := by decide +kernel
theorem dJ6_bitCount_0f7a4_52 : decode cJ6_bitCount_0f7a4 52 = .ok (.ireturn, 1) := by decide +kernel
theorem dJ9_max_f86c9_0 : decode cJ9_max_f86c9 0 = .ok (.lload_n 0, 1) := by decide +kernel
theorem dJ9_max_f86c9_1 : decode cJ9_max_f86c9 1 = .ok (.lload_n 2, 1) := by decide +kernel
theorem dJ9_max_f86c9_2 : decode cJ9_max_f86c9 2 = .ok (.lcmp, 1) := by decide +kernel
theorem dJ9_max_f86c9_3 : decode cJ9_max_f86c9 3 = .ok (.ifCond .lt 7, 3) := by decide +kernel
theorem dJ9_max_f86c9_6 : decode cJ9_max_f86c9 6 = .ok (.lload_n 0, 1) := by decide +kernel
theorem dJ9_max_f86c9_7 : decode cJ9_max_f86c9 7 = .ok (.goto 4, 3) := by decide +kernel
theorem dJ9_max_f86c9_10 : decode cJ9_max_f86c9 10 = .ok (.lload_n 2, 1) := by decide +kernel
theorem dJ9_max_f86c9_11 : decode cJ9_max_f86c9 11 = .ok (.lreturn, 1) := by decide +kernel
theorem dJ9_min_7cf53_0 : decode cJ9_min_7cf53 0 = .ok (.iload_n 0, 1) := by decide +kernel
theorem dJ9_min_7cf53_1 : decode cJ9_min_7cf53 1 = .ok (.iload_n 1, 1) := by decide +kernel
theorem dJ9_min_7cf53_2 : decode cJ9_min_7cf53 2 = .ok (.if_icmp .gt 7, 3) := by decide +kernel
theorem dJ9_min_7cf53_5 : decode cJ9_min_7cf53 5 = .ok (.iload_n 0, 1) := by decide +kernel
theorem dJ9_min_7cf53_6 : decode cJ9_min_7cf53 6 = .ok (.goto 4, 3) := by decide +kernel
theorem dJ9_min_7cf53_9 : decode cJ9_min_7cf53 9 = .ok (.iload_n 1, 1) := by decide +kernel
theorem dJ9_min_7cf53_10 : decode cJ9_min_7cf53 10 = .ok (.ireturn, 1) := by decide +kernel
theorem dJ0_length_8abf5_0 : decode cJ0_length_8abf5 0 = .ok (.aload_n 0, 1) := by decide +kernel
theorem dJ0_length_8abf5_1 : decode cJ0_length_8abf5 1 = .ok (.getfield 9, 3) := by decide +kernel
theorem dJ0_length_8abf5_4 : decode cJ0_length_8abf5 4 = .ok (.arraylength, 1) := by decide +kernel
theorem dJ0_length_8abf5_5 : decode cJ0_length_8abf5 5 = .ok (.aload_n 0, 1) := by decide +kernel
theorem dJ0_length_8abf5_6 : decode cJ0_length_8abf5 6 = .ok (.invokevirtual 335, 3) := by decide +kernel
theorem dJ0_length_8abf5_9 : decode cJ0_length_8abf5 9 = .ok (.ishr, 1) := by decide +kernel
theorem dJ0_length_8abf5_10 : decode cJ0_length_8abf5 10 = .ok (.ireturn, 1) := by decide +kernel
theorem dJ0_charAt_5068e_0 : decode cJ0_charAt_5068e 0 = .ok (.aload_n 0, 1) := by decide +kernel
theorem dJ0_charAt_5068e_1 : decode cJ0_charAt_5068e 1 = .ok (.invokevirtual 492, 3) := by decide +kernel
theorem dJ0_charAt_5068e_4 : decode cJ0_charAt_5068e 4 = .ok (.ifCond .eq 12, 3) := by decide +kernel
theorem dJ0_charAt_5068e_7 : decode cJ0_charAt_5068e 7 = .ok (.aload_n 0, 1) := by decide +kernel
theorem dJ0_charAt_5068e_8 : decode cJ0_charAt_5068e 8 = .ok (.getfield 9, 3) := by decide +kernel
theorem dJ0_charAt_5068e_11 : decode cJ0_charAt_5068e 11 = .ok (.iload_n 1, 1) := by decide +kernel
theorem dJ0_charAt_5068e_12 : decode cJ0_charAt_5068e 12 = .ok (.invokestatic 495, 3) := by decide +kernel
theorem dJ0_charAt_5068e_15 : decode cJ0_charAt_5068e 15 = .ok (.ireturn, 1) := by decide +kernel
theorem dJ0_charAt_5068e_16 : decode cJ0_charAt_5068e 16 = .ok (.aload_n 0, 1) := by decide +kernel
theorem dJ0_charAt_5068e_17 : decode cJ0_charAt_5068e 17 = .ok (.getfield 9, 3) := by decide +kernel
theorem dJ0_charAt_5068e_20 : decode cJ0_charAt_5068e 20 = .ok (.iload_n 1, 1) := by decide +kernel
theorem dJ0_charAt_5068e_21 : decode cJ0_charAt_5068e 21 = .ok (.invokestatic 498, 3) := by decide +kernel
theorem dJ0_charAt_5068e_24 : decode cJ0_charAt_5068e 24 = .ok (.ireturn, 1) := by decide +kernel
theorem dJ0_coder_7d493_0 : decode cJ0_coder_7d493 0 = .ok (.getstatic 38, 3) := by decide +kernel
theorem dJ0_coder_7d493_3 : decode cJ0_coder_7d493 3 = .ok (.ifCond .eq 10, 3) := by decide +kernel
theorem dJ0_coder_7d493_6 : decode cJ0_coder_7d493 6 = .ok (.aload_n 0, 1) := by decide +kernel
theorem dJ0_coder_7d493_7 : decode cJ0_coder_7d493 7 = .ok (.getfield 15, 3) := by decide +kernel
theorem dJ0_coder_7d493_10 : decode cJ0_coder_7d493 10 = .ok (.goto 4, 3) := by decide +kernel
theorem dJ0_coder_7d493_13 : decode cJ0_coder_7d493 13 = .ok (.iconst 1, 1) := by decide +kernel
theorem dJ0_coder_7d493_14 : decode cJ0_coder_7d493 14 = .ok (.ireturn, 1) := by decide +kernel
theorem dJ0_isLatin1_aae02_0 : decode cJ0_isLatin1_aae02 0 = .ok (.getstatic 38, 3) := by decide +kernel
theorem dJ0_isLatin1_aae02_3 : decode cJ0_isLatin1_aae02 3 = .ok (.ifCond .eq 14, 3) := by decide +kernel
theorem dJ0_isLatin1_aae02_6 : decode cJ0_isLatin1_aae02 6 = .ok (.aload_n 0, 1) := by decide +kernel
theorem dJ0_isLatin1_aae02_7 : decode cJ0_isLatin1_aae02 7 = .ok (.getfield 15, 3) := by decide +kernel
theorem dJ0_isLatin1_aae02_10 : decode cJ0_isLatin1_aae02 10 = .ok (.ifCond .ne 7, 3) := by decide +kernel
theorem dJ0_isLatin1_aae02_13 : decode cJ0_isLatin1_aae02 13 = .ok (.iconst 1, 1) := by decide +kernel
theorem dJ0_isLatin1_aae02_14 : decode cJ0_isLatin1_aae02 14 = .ok (.goto 4, 3) := by decide +kernel
theorem dJ0_isLatin1_aae02_17 : decode cJ0_isLatin1_aae02 17 = .ok (.iconst 0, 1) := by decide +kernel
theorem dJ0_isLatin1_aae02_18 : decode cJ0_isLatin1_aae02 18 = .ok (.ireturn, 1) := by decide +kernel
theorem dJ0_checkIndex_df160_0 : decode cJ0_checkIndex_df160 0 = .ok (.iload_n 0, 1) := by decide +kernel
theorem dJ0_checkIndex_df160_1 : decode cJ0_checkIndex_df160 1 = .ok (.iload_n 1, 1) := by decide +kernel
theorem dJ0_checkIndex_df160_2 : decode cJ0_checkIndex_df160 2 = .ok (.getstatic 1053, 3) := by decide +kernel
theorem dJ0_checkIndex_df160_5 : decode cJ0_checkIndex_df160 5 = .ok (.invokestatic 1059, 3) := by decide +kernel
theorem dJ0_checkIndex_df160_8 : decode cJ0_checkIndex_df160 8 = .ok (.pop, 1) := by decide +kernel
theorem dJ0_checkIndex_df160_9 : decode cJ0_checkIndex_df160 9 = .ok (.return_, 1) := by decide +kernel
theorem dJ1_charAt_3b067_0 : decode cJ1_charAt_3b067 0 = .ok (.iload_n 1, 1) := by decide +kernel
theorem dJ1_charAt_3b067_1 : decode cJ1_charAt_3b067 1 = .ok (.aload_n 0, 1) := by decide +kernel
theorem dJ1_charAt_3b067_2 : decode cJ1_charAt_3b067 2 = .ok (.arraylength, 1) := by decide +kernel
theorem dJ1_charAt_3b067_3 : decode cJ1_charAt_3b067 3 = .ok (.invokestatic 9, 3) := by decide +kernel
theorem dJ1_charAt_3b067_6 : decode cJ1_charAt_3b067 6 = .ok (.aload_n 0, 1) := by decide +kernel
theorem dJ1_charAt_3b067_7 : decode cJ1_charAt_3b067 7 = .ok (.iload_n 1, 1) := by decide +kernel
theorem dJ1_charAt_3b067_8 : decode cJ1_charAt_3b067 8 = .ok (.baload, 1) := by decide +kernel
theorem dJ1_charAt_3b067_9 : decode cJ1_charAt_3b067 9 = .ok (.sipush 255, 3) := by decide +kernel
theorem dJ1_charAt_3b067_12 : decode cJ1_charAt_3b067 12 = .ok (.iand, 1) := by decide +kernel
theorem dJ1_charAt_3b067_13 : decode cJ1_charAt_3b067 13 = .ok (.i2c, 1) := by decide +kernel
theorem dJ1_charAt_3b067_14 : decode cJ1_charAt_3b067 14 = .ok (.ireturn, 1) := by decide +kernel
theorem dJ2_getChar_3b067_0 : decode cJ2_getChar_3b067 0 = .ok (.getstatic 44, 3) := by decide +kernel
theorem dJ2_getChar_3b067_3 : decode cJ2_getChar_3b067 3 = .ok (.ifCond .ne 25, 3) := by decide +kernel
theorem dJ2_getChar_3b067_6 : decode cJ2_getChar_3b067 6 = .ok (.iload_n 1, 1) := by decide +kernel
theorem dJ2_getChar_3b067_7 : decode cJ2_getChar_3b067 7 = .ok (.ifCond .lt 11, 3) := by decide +kernel
theorem dJ2_getChar_3b067_10 : decode cJ2_getChar_3b067 10 = .ok (.iload_n 1, 1) := by decide +kernel
theorem dJ2_getChar_3b067_11 : decode cJ2_getChar_3b067 11 = .ok (.aload_n 0, 1) := by decide +kernel
theorem dJ2_getChar_3b067_12 : decode cJ2_getChar_3b067 12 = .ok (.invokestatic 48, 3) := by decide +kernel
theorem dJ2_getChar_3b067_15 : decode cJ2_getChar_3b067 15 = .ok (.if_icmp .lt 13, 3) := by decide +kernel
theorem dJ2_getChar_3b067_18 : decode cJ2_getChar_3b067 18 = .ok (.new 52, 3) := by decide +kernel
theorem dJ2_getChar_3b067_21 : decode cJ2_getChar_3b067 21 = .ok (.dup, 1) := by decide +kernel
theorem dJ2_getChar_3b067_22 : decode cJ2_getChar_3b067 22 = .ok (.ldc 54, 2) := by decide +kernel
theorem dJ2_getChar_3b067_24 : decode cJ2_getChar_3b067 24 = .ok (.invokespecial 56, 3) := by decide +kernel
theorem dJ2_getChar_3b067_27 : decode cJ2_getChar_3b067 27 = .ok (.athrow, 1) := by decide +kernel
theorem dJ2_getChar_3b067_28 : decode cJ2_getChar_3b067 28 = .ok (.iload_n 1, 1) := by decide +kernel
theorem dJ2_getChar_3b067_29 : decode cJ2_getChar_3b067 29 = .ok (.iconst 1, 1) := by decide +kernel
theorem dJ2_getChar_3b067_30 : decode cJ2_getChar_3b067 30 = .ok (.ishl, 1) := by decide +kernel
theorem dJ2_getChar_3b067_31 : decode cJ2_getChar_3b067 31 = .ok (.istore_n 1, 1) := by decide +kernel
theorem dJ2_getChar_3b067_32 : decode cJ2_getChar_3b067 32 = .ok (.aload_n 0, 1) := by decide +kernel
theorem dJ2_getChar_3b067_33 : decode cJ2_getChar_3b067 33 = .ok (.iload_n 1, 1) := by decide +kernel
theorem dJ2_getChar_3b067_34 : decode cJ2_getChar_3b067 34 = .ok (.iinc 1 1, 3) := by decide +kernel
theorem dJ2_getChar_3b067_37 : decode cJ2_getChar_3b067 37 = .ok (.baload, 1) := by decide +kernel
theorem dJ2_getChar_3b067_38 : decode cJ2_getChar_3b067 38 = .ok (.sipush 255, 3) := by decide +kernel
theorem dJ2_getChar_3b067_41 : decode cJ2_getChar_3b067 41 = .ok (.iand, 1) := by decide +kernel
theorem dJ2_getChar_3b067_42 : decode cJ2_getChar_3b067 42 = .ok (.getstatic 59, 3) := by decide +kernel
theorem dJ2_getChar_3b067_45 : decode cJ2_getChar_3b067 45 = .ok (.ishl, 1) := by decide +kernel
theorem dJ2_getChar_3b067_46 : decode cJ2_getChar_3b067 46 = .ok (.aload_n 0, 1) := by decide +kernel
theorem dJ2_getChar_3b067_47 : decode cJ2_getChar_3b067 47 = .ok (.iload_n 1, 1) := by decide +kernel
theorem dJ2_getChar_3b067_48 : decode cJ2_getChar_3b067 48 = .ok (.baload, 1) := by decide +kernel
theorem dJ2_getChar_3b067_49 : decode cJ2_getChar_3b067 49 = .ok (.sipush 255, 3) := by decide +kernel
theorem dJ2_getChar_3b067_52 : decode cJ2_getChar_3b067 52 = .ok (.iand, 1) := by decide +kernel
theorem dJ2_getChar_3b067_53 : decode cJ2_getChar_3b067 53 = .ok (.getstatic 63, 3) := by decide +kernel
theorem dJ2_getChar_3b067_56 : decode cJ2_getChar_3b067 56 = .ok (.ishl, 1) := by decide +kernel
theorem dJ2_getChar_3b067_57 : decode cJ2_getChar_3b067 57 = .ok (.ior, 1) := by decide +kernel
theorem dJ2_getChar_3b067_58 : decode cJ2_getChar_3b067 58 = .ok (.i2c, 1) := by decide +kernel
theorem dJ2_getChar_3b067_59 : decode cJ2_getChar_3b067 59 = .ok (.ireturn, 1) := by decide +kernel
theorem dJ2_length_9d52b_0 : decode cJ2_length_9d52b 0 = .ok (.aload_n 0, 1) := by decide +kernel
theorem dJ2_length_9d52b_1 : decode cJ2_length_9d52b 1 = .ok (.arraylength, 1) := by decide +kernel
theorem dJ2_length_9d52b_2 : decode cJ2_length_9d52b 2 = .ok (.iconst 1, 1) := by decide +kernel
theorem dJ2_length_9d52b_3 : decode cJ2_length_9d52b 3 = .ok (.ishr, 1) := by decide +kernel
theorem dJ2_length_9d52b_4 : decode cJ2_length_9d52b 4 = .ok (.ireturn, 1) := by decide +kernel
theorem dJ2_charAt_3b067_0 : decode cJ2_charAt_3b067 0 = .ok (.iload_n 1, 1) := by decide +kernel
theorem dJ2_charAt_3b067_1 : decode cJ2_charAt_3b067 1 = .ok (.aload_n 0, 1) := by decide +kernel
theorem dJ2_charAt_3b067_2 : decode cJ2_charAt_3b067 2 = .ok (.invokestatic 67, 3) := by decide +kernel
theorem dJ2_charAt_3b067_5 : decode cJ2_charAt_3b067 5 = .ok (.aload_n 0, 1) := by decide +kernel
theorem dJ2_charAt_3b067_6 : decode cJ2_charAt_3b067 6 = .ok (.iload_n 1, 1) := by decide +kernel
theorem dJ2_charAt_3b067_7 : decode cJ2_charAt_3b067 7 = .ok (.invokestatic 71, 3) := by decide +kernel
theorem dJ2_charAt_3b067_10 : decode cJ2_charAt_3b067 10 = .ok (.ireturn, 1) := by decide +kernel
theorem dJ2_checkIndex_2214a_0 : decode cJ2_checkIndex_2214a 0 = .ok (.iload_n 0, 1) := by decide +kernel
theorem dJ2_checkIndex_2214a_1 : decode cJ2_checkIndex_2214a 1 = .ok (.aload_n 1, 1) := by decide +kernel
theorem dJ2_checkIndex_2214a_2 : decode cJ2_checkIndex_2214a 2 = .ok (.invokestatic 48, 3) := by decide +kernel
theorem dJ2_checkIndex_2214a_5 : decode cJ2_checkIndex_2214a 5 = .ok (.invokestatic 414, 3) := by decide +kernel
theorem dJ2_checkIndex_2214a_8 : decode cJ2_checkIndex_2214a 8 = .ok (.return_, 1) := by decide +kernel
theorem dJ3_checkIndex_8e157_0 : decode cJ3_checkIndex_8e157 0 = .ok (.iload_n 0, 1) := by decide +kernel
theorem dJ3_checkIndex_8e157_1 : decode cJ3_checkIndex_8e157 1 = .ok (.ifCond .lt 8, 3) := by decide +kernel
theorem dJ3_checkIndex_8e157_4 : decode cJ3_checkIndex_8e157 4 = .ok (.iload_n 0, 1) := by decide +kernel
theorem dJ3_checkIndex_8e157_5 : decode cJ3_checkIndex_8e157 5 = .ok (.iload_n 1, 1) := by decide +kernel
theorem dJ3_checkIndex_8e157_6 : decode cJ3_checkIndex_8e157 6 = .ok (.if_icmp .lt 10, 3) := by decide +kernel
theorem dJ3_checkIndex_8e157_9 : decode cJ3_checkIndex_8e157 9 = .ok (.aload_n 2, 1) := by decide +kernel
theorem dJ3_checkIndex_8e157_10 : decode cJ3_checkIndex_8e157 10 = .ok (.iload_n 0, 1) := by decide +kernel
theorem dJ3_checkIndex_8e157_11 : decode cJ3_checkIndex_8e157 11 = .ok (.iload_n 1, 1) := by decide +kernel
theorem dJ3_checkIndex_8e157_12 : decode cJ3_checkIndex_8e157 12 = .ok (.invokestatic 95, 3) := by decide +kernel
theorem dJ3_checkIndex_8e157_15 : decode cJ3_checkIndex_8e157 15 = .ok (.athrow, 1) := by decide +kernel
theorem dJ3_checkIndex_8e157_16 : decode cJ3_checkIndex_8e157 16 = .ok (.iload_n 0, 1) := by decide +kernel
theorem dJ3_checkIndex_8e157_17 : decode cJ3_checkIndex_8e157 17 = .ok (.ireturn, 1) := by decide +kernel
end
section
theorem dX12_init_0 : decode cX12_init 0 = .ok (.aload_n 0, 1) := by decide +kernel
theorem dX12_init_1 : decode cX12_init 1 = .ok (.invokespecial 1, 3) := by decide +kernel
theorem dX12_init_4 : decode cX12_init 4 = .ok (.aload_n 0, 1) := by decide +kernel
theorem dX12_init_5 : decode cX12_init 5 = .ok (.bipush 99, 2) := by decide +kernel
theorem dX12_init_7 : decode cX12_init 7 = .ok (.newarray .int, 2) := by decide +kernel
theorem dX12_init_9 : decode cX12_init 9 = .ok (.putfield 7, 3) := by decide +kernel
theorem dX12_init_12 : decode cX12_init 12 = .ok (.aload_n 0, 1) := by decide +kernel
theorem dX12_init_13 : decode cX12_init 13 = .ok (.lconst 1, 1) := by decide +kernel
theorem dX12_init_14 : decode cX12_init 14 = .ok (.putfield 13, 3) := by decide +kernel
theorem dX12_init_17 : decode cX12_init 17 = .ok (.aload_n 0, 1) := by decide +kernel
theorem dX12_init_18 : decode cX12_init 18 = .ok (.iconst 3, 1) := by decide +kernel
theorem dX12_init_19 : decode cX12_init 19 = .ok (.newarray .int, 2) := by decide +kernel
theorem dX12_init_21 : decode cX12_init 21 = .ok (.putfield 17, 3) := by decide +kernel
theorem dX12_init_24 : decode cX12_init 24 = .ok (.aload_n 0, 1) := by decide +kernel
theorem dX12_init_25 : decode cX12_init 25 = .ok (.sipush 150, 3) := by decide +kernel
theorem dX12_init_28 : decode cX12_init 28 = .ok (.newarray .int, 2) := by decide +kernel
theorem dX12_init_30 : decode cX12_init 30 = .ok (.putfield 20, 3) := by decide +kernel
theorem dX12_init_33 : decode cX12_init 33 = .ok (.aload_n 0, 1) := by decide +kernel
theorem dX12_init_34 : decode cX12_init 34 = .ok (.iconst 5, 1) := by decide +kernel
theorem dX12_init_35 : decode cX12_init 35 = .ok (.newarray .int, 2) := by decide +kernel
theorem dX12_init_37 : decode cX12_init 37 = .ok (.putfield 23, 3) := by decide +kernel
theorem dX12_init_40 : decode cX12_init 40 = .ok (.aload_n 0, 1) := by decide +kernel
theorem dX12_init_41 : decode cX12_init 41 = .ok (.bipush 8, 2) := by decide +kernel
theorem dX12_init_43 : decode cX12_init 43 = .ok (.newarray .int, 2) := by decide +kernel
theorem dX12_init_45 : decode cX12_init 45 = .ok (.putfield 26, 3) := by decide +kernel
theorem dX12_init_48 : decode cX12_init 48 = .ok (.aload_n 0, 1) := by decide +kernel
theorem dX12_init_49 : decode cX12_init 49 = .ok (.bipush 40, 2) := by decide +kernel
theorem dX12_init_51 : decode cX12_init 51 = .ok (.newarray .int, 2) := by decide +kernel
theorem dX12_init_53 : decode cX12_init 53 = .ok (.putfield 29, 3) := by decide +kernel
theorem dX12_init_56 : decode cX12_init 56 = .ok (.aload_n 0, 1) := by decide +kernel
theorem dX12_init_57 : decode cX12_init 57 = .ok (.bipush 64, 2) := by decide +kernel
theorem dX12_init_59 : decode cX12_init 59 = .ok (.newarray .boolean, 2) := by decide +kernel
theorem dX12_init_61 : decode cX12_init 61 = .ok (.putfield 32, 3) := by decide +kernel
theorem dX12_init_64 : decode cX12_init 64 = .ok (.aload_n 0, 1) := by decide +kernel
theorem dX12_init_65 : decode cX12_init 65 = .ok (.sipush 480, 3) := by decide +kernel
theorem dX12_init_68 : decode cX12_init 68 = .ok (.newarray .int, 2) := by decide +kernel
theorem dX12_init_70 : decode cX12_init 70 = .ok (.putfield 36, 3) := by decide +kernel
theorem dX12_init_73 : decode cX12_init 73 = .ok (.aload_n 0, 1) := by decide +kernel
theorem dX12_init_74 : decode cX12_init 74 = .ok (.bipush 64, 2) := by decide +kernel
theorem dX12_init_76 : decode cX12_init 76 = .ok (.newarray .boolean, 2) := by decide +kernel
theorem dX12_init_78 : decode cX12_init 78 = .ok (.putfield 39, 3) := by decide +kernel
theorem dX12_init_81 : decode cX12_init 81 = .ok (.aload_n 0, 1) := by decide +kernel
theorem dX12_init_82 : decode cX12_init 82 = .ok (.bipush 64, 2) := by decide +kernel
theorem dX12_init_84 : decode cX12_init 84 = .ok (.newarray .boolean, 2) := by decide +kernel
theorem dX12_init_86 : decode cX12_init 86 = .ok (.putfield 42, 3) := by decide +kernel
theorem dX12_init_89 : decode cX12_init 89 = .ok (.aload_n 0, 1) := by decide +kernel
theorem dX12_init_90 : decode cX12_init 90 = .ok (.bipush 104, 2) := by decide +kernel
theorem dX12_init_92 : decode cX12_init 92 = .ok (.newarray .long, 2) := by decide +kernel
theorem dX12_init_94 : decode cX12_init 94 = .ok (.putfield 45, 3) := by decide +kernel
theorem dX12_init_97 : decode cX12_init 97 = .ok (.aload_n 0, 1) := by decide +kernel
theorem dX12_init_98 : decode cX12_init 98 = .ok (.bipush 104, 2) := by decide +kernel
theorem dX12_init_100 : decode cX12_init 100 = .ok (.newarray .long, 2) := by decide +kernel
theorem dX12_init_102 : decode cX12_init 102 = .ok (.putfield 49, 3) := by decide +kernel
theorem dX12_init_105 : decode cX12_init 105 = .ok (.aload_n 0, 1) := by decide +kernel
theorem dX12_init_106 : decode cX12_init 106 = .ok (.sipush 768, 3) := by decide +kernel
theorem dX12_init_109 : decode cX12_init 109 = .ok (.newarray .boolean, 2) := by decide +kernel
theorem dX12_init_111 : decode cX12_init 111 = .ok (.putfield 52, 3) := by decide +kernel
theorem dX12_init_114 : decode cX12_init 114 = .ok (.aload_n 0, 1) := by decide +kernel
theorem dX12_init_115 : decode cX12_init 115 = .ok (.iconst 5, 1) := by decide +kernel
theorem dX12_init_116 : decode cX12_init 116 = .ok (.newarray .int, 2) := by decide +kernel
theorem dX12_init_118 : decode cX12_init 118 = .ok (.putfield 55, 3) := by decide +kernel
theorem dX12_init_121 : decode cX12_init 121 = .ok (.aload_n 0, 1) := by decide +kernel
theorem dX12_init_122 : decode cX12_init 122 = .ok (.iconst 2, 1) := by decide +kernel
theorem dX12_init_123 : decode cX12_init 123 = .ok (.newarray .boolean, 2) := by decide +kernel
theorem dX12_init_125 : decode cX12_init 125 = .ok (.putfield 58, 3) := by decide +kernel
theorem dX12_init_128 : decode cX12_init 128 = .ok (.aload_n 0, 1) := by decide +kernel
theorem dX12_init_129 : decode cX12_init 129 = .ok (.sipush 198, 3) := by decide +kernel
theorem dX12_init_132 : decode cX12_init 132 = .ok (.newarray .int, 2) := by decide +kernel
theorem dX12_init_134 : decode cX12_init 134 = .ok (.putfield 61, 3) := by decide +kernel
theorem dX12_init_137 : decode cX12_init 137 = .ok (.aload_n 0, 1) := by decide +kernel
theorem dX12_init_138 : decode cX12_init 138 = .ok (.bipush 80, 2) := by decide +kernel
theorem dX12_init_140 : decode cX12_init 140 = .ok (.newarray .int, 2) := by decide +kernel
theorem dX12_init_142 : decode cX12_init 142 = .ok (.putfield 64, 3) := by decide +kernel
theorem dX12_init_145 : decode cX12_init 145 = .ok (.aload_n 0, 1) := by decide +kernel
theorem dX12_init_146 : decode cX12_init 146 = .ok (.iconst 2, 1) := by decide +kernel
theorem dX12_init_147 : decode cX12_init 147 = .ok (.newarray .int, 2) := by decide +kernel
theorem dX12_init_149 : decode cX12_init 149 = .ok (.putfield 67, 3) := by decide +kernel
theorem dX12_init_152 : decode cX12_init 152 = .ok (.aload_n 0, 1) := by decide +kernel
theorem dX12_init_153 : decode cX12_init 153 = .ok (.invokevirtual 70, 3) := by decide +kernel
theorem dX12_init_156 : decode cX12_init 156 = .ok (.return_, 1) := by decide +kernel
theorem dX12_in_0 : decode cX12_in 0 = .ok (.lload_n 0, 1) := by decide +kernel
theorem dX12_in_1 : decode cX12_in 1 = .ok (.lload_n 2, 1) := by decide +kernel
theorem dX12_in_2 : decode cX12_in 2 = .ok (.lcmp, 1) := by decide +kernel
theorem dX12_in_3 : decode cX12_in 3 = .ok (.ifCond .lt 14, 3) := by decide +kernel
theorem dX12_in_6 : decode cX12_in 6 = .ok (.lload_n 0, 1) := by decide +kernel
theorem dX12_in_7 : decode cX12_in 7 = .ok (.lload 4, 2) := by decide +kernel
theorem dX12_in_9 : decode cX12_in 9 = .ok (.lcmp, 1) := by decide +kernel
theorem dX12_in_10 : decode cX12_in 10 = .ok (.ifCond .gt 7, 3) := by decide +kernel
theorem dX12_in_13 : decode cX12_in 13 = .ok (.iconst 1, 1) := by decide +kernel
theorem dX12_in_14 : decode cX12_in 14 = .ok (.goto 4, 3) := by decide +kernel
theorem dX12_in_17 : decode cX12_in 17 = .ok (.iconst 0, 1) := by decide +kernel
theorem dX12_in_18 : decode cX12_in 18 = .ok (.ireturn, 1) := by decide +kernel
theorem dX12_has_0 : decode cX12_has 0 = .ok (.iload_n 0, 1) := by decide +kernel
theorem dX12_has_1 : decode cX12_has 1 = .ok (.iload_n 1, 1) := by decide +kernel
theorem dX12_has_2 : decode cX12_has 2 = .ok (.ishr, 1) := by decide +kernel
theorem dX12_has_3 : decode cX12_has 3 = .ok (.iconst 1, 1) := by decide +kernel
theorem dX12_has_4 : decode cX12_has 4 = .ok (.iand, 1) := by decide +kernel
theorem dX12_has_5 : decode cX12_has 5 = .ok (.iconst 1, 1) := by decide +kernel
theorem dX12_has_6 : decode cX12_has 6 = .ok (.if_icmp .ne 7, 3) := by decide +kernel
theorem dX12_has_9 : decode cX12_has 9 = .ok (.iconst 1, 1) := by decide +kernel
theorem dX12_has_10 : decode cX12_has 10 = .ok (.goto 4, 3) := by decide +kernel
theorem dX12_has_13 : decode cX12_has 13 = .ok (.iconst 0, 1) := by decide +kernel
theorem dX12_has_14 : decode cX12_has 14 = .ok (.ireturn, 1) := by decide +kernel
theorem dX12_ones_0 : decode cX12_ones 0 = .ok (.iconst 0, 1) := by decide +kernel
theorem dX12_ones_1 : decode cX12_ones 1 = .ok (.istore_n 1, 1) := by decide +kernel
theorem dX12_ones_2 : decode cX12_ones 2 = .ok (.iload_n 0, 1) := by decide +kernel
theorem dX12_ones_3 : decode cX12_ones 3 = .ok (.istore_n 2, 1) := by decide +kernel
theorem dX12_ones_4 : decode cX12_ones 4 = .ok (.iload_n 2, 1) := by decide +kernel
theorem dX12_ones_5 : decode cX12_ones 5 = .ok (.ifCond .eq 15, 3) := by decide +kernel
theorem dX12_ones_8 : decode cX12_ones 8 = .ok (.iinc 1 1, 3) := by decide +kernel
theorem dX12_ones_11 : decode cX12_ones 11 = .ok (.iload_n 2, 1) := by decide +kernel
theorem dX12_ones_12 : decode cX12_ones 12 = .ok (.iload_n 2, 1) := by decide +kernel
theorem dX12_ones_13 : decode cX12_ones 13 = .ok (.iconst 1, 1) := by decide +kernel
theorem dX12_ones_14 : decode cX12_ones 14 = .ok (.isub, 1) := by decide +kernel
theorem dX12_ones_15 : decode cX12_ones 15 = .ok (.iand, 1) := by decide +kernel
theorem dX12_ones_16 : decode cX12_ones 16 = .ok (.istore_n 2, 1) := by decide +kernel
theorem dX12_ones_17 : decode cX12_ones 17 = .ok (.goto (-13), 3) := by decide +kernel
theorem dX12_ones_20 : decode cX12_ones 20 = .ok (.iload_n 1, 1) := by decide +kernel
theorem dX12_ones_21 : decode cX12_ones 21 = .ok (.ireturn, 1) := by decide +kernel
theorem dX12_bad_0 : decode cX12_bad 0 = .ok (.aload_n 0, 1) := by decide +kernel
theorem dX12_bad_1 : decode cX12_bad 1 = .ok (.getfield 17, 3) := by decide +kernel
theorem dX12_bad_4 : decode cX12_bad 4 = .ok (.iconst 0, 1) := by decide +kernel
theorem dX12_bad_5 : decode cX12_bad 5 = .ok (.dup2, 1) := by decide +kernel
theorem dX12_bad_6 : decode cX12_bad 6 = .ok (.iaload, 1) := by decide +kernel
theorem dX12_bad_7 : decode cX12_bad 7 = .ok (.iconst 1, 1) := by decide +kernel
theorem dX12_bad_8 : decode cX12_bad 8 = .ok (.iadd, 1) := by decide +kernel
theorem dX12_bad_9 : decode cX12_bad 9 = .ok (.iastore, 1) := by decide +kernel
theorem dX12_bad_10 : decode cX12_bad 10 = .ok (.bipush (-2), 2) := by decide +kernel
theorem dX12_bad_12 : decode cX12_bad 12 = .ok (.ireturn, 1) := by decide +kernel
theorem dX12_no_0 : decode cX12_no 0 = .ok (.aload_n 0, 1) := by decide +kernel
theorem dX12_no_1 : decode cX12_no 1 = .ok (.getfield 17, 3) := by decide +kernel
theorem dX12_no_4 : decode cX12_no 4 = .ok (.iconst 1, 1) := by decide +kernel
theorem dX12_no_5 : decode cX12_no 5 = .ok (.dup2, 1) := by decide +kernel
theorem dX12_no_6 : decode cX12_no 6 = .ok (.iaload, 1) := by decide +kernel
theorem dX12_no_7 : decode cX12_no 7 = .ok (.iconst 1, 1) := by decide +kernel
theorem dX12_no_8 : decode cX12_no 8 = .ok (.iadd, 1) := by decide +kernel
theorem dX12_no_9 : decode cX12_no 9 = .ok (.iastore, 1) := by decide +kernel
theorem dX12_no_10 : decode cX12_no 10 = .ok (.bipush (-3), 2) := by decide +kernel
theorem dX12_no_12 : decode cX12_no 12 = .ok (.ireturn, 1) := by decide +kernel
theorem dX12_full_0 : decode cX12_full 0 = .ok (.aload_n 0, 1) := by decide +kernel
theorem dX12_full_1 : decode cX12_full 1 = .ok (.getfield 17, 3) := by decide +kernel
theorem dX12_full_4 : decode cX12_full 4 = .ok (.iconst 2, 1) := by decide +kernel
theorem dX12_full_5 : decode cX12_full 5 = .ok (.dup2, 1) := by decide +kernel
theorem dX12_full_6 : decode cX12_full 6 = .ok (.iaload, 1) := by decide +kernel
theorem dX12_full_7 : decode cX12_full 7 = .ok (.iconst 1, 1) := by decide +kernel
theorem dX12_full_8 : decode cX12_full 8 = .ok (.iadd, 1) := by decide +kernel
theorem dX12_full_9 : decode cX12_full 9 = .ok (.iastore, 1) := by decide +kernel
theorem dX12_full_10 : decode cX12_full 10 = .ok (.bipush (-4), 2) := by decide +kernel
theorem dX12_full_12 : decode cX12_full 12 = .ok (.ireturn, 1) := by decide +kernel
theorem dX12_isRoom_0 : decode cX12_isRoom 0 = .ok (.iload_n 0, 1) := by decide +kernel
theorem dX12_isRoom_1 : decode cX12_isRoom 1 = .ok (.i2l, 1) := by decide +kernel
theorem dX12_isRoom_2 : decode cX12_isRoom 2 = .ok (.lconst 0, 1) := by decide +kernel
theorem dX12_isRoom_3 : decode cX12_isRoom 3 = .ok (.ldc2_w 73, 3) := by decide +kernel
theorem dX12_isRoom_6 : decode cX12_isRoom 6 = .ok (.invokestatic 75, 3) := by decide +kernel
theorem dX12_isRoom_9 : decode cX12_isRoom 9 = .ok (.ireturn, 1) := by decide +kernel
theorem dX12_isMinute_0 : decode cX12_isMinute 0 = .ok (.iload_n 0, 1) := by decide +kernel
theorem dX12_isMinute_1 : decode cX12_isMinute 1 = .ok (.i2l, 1) := by decide +kernel
theorem dX12_isMinute_2 : decode cX12_isMinute 2 = .ok (.lconst 0, 1) := by decide +kernel
theorem dX12_isMinute_3 : decode cX12_isMinute 3 = .ok (.ldc2_w 79, 3) := by decide +kernel
theorem dX12_isMinute_6 : decode cX12_isMinute 6 = .ok (.invokestatic 75, 3) := by decide +kernel
theorem dX12_isMinute_9 : decode cX12_isMinute 9 = .ok (.ireturn, 1) := by decide +kernel
theorem dX12_isWhat_0 : decode cX12_isWhat 0 = .ok (.iload_n 0, 1) := by decide +kernel
theorem dX12_isWhat_1 : decode cX12_isWhat 1 = .ok (.i2l, 1) := by decide +kernel
theorem dX12_isWhat_2 : decode cX12_isWhat 2 = .ok (.lconst 0, 1) := by decide +kernel
theorem dX12_isWhat_3 : decode cX12_isWhat 3 = .ok (.lconst 1, 1) := by decide +kernel
theorem dX12_isWhat_4 : decode cX12_isWhat 4 = .ok (.invokestatic 75, 3) := by decide +kernel
theorem dX12_isWhat_7 : decode cX12_isWhat 7 = .ok (.ireturn, 1) := by decide +kernel
theorem dX12_isSleeper_0 : decode cX12_isSleeper 0 = .ok (.iload_n 1, 1) := by decide +kernel
theorem dX12_isSleeper_1 : decode cX12_isSleeper 1 = .ok (.i2l, 1) := by decide +kernel
theorem dX12_isSleeper_2 : decode cX12_isSleeper 2 = .ok (.lconst 0, 1) := by decide +kernel
theorem dX12_isSleeper_3 : decode cX12_isSleeper 3 = .ok (.aload_n 0, 1) := by decide +kernel
theorem dX12_isSleeper_4 : decode cX12_isSleeper 4 = .ok (.getfield 7, 3) := by decide +kernel
theorem dX12_isSleeper_7 : decode cX12_isSleeper 7 = .ok (.iconst 5, 1) := by decide +kernel
theorem dX12_isSleeper_8 : decode cX12_isSleeper 8 = .ok (.iaload, 1) := by decide +kernel
theorem dX12_isSleeper_9 : decode cX12_isSleeper 9 = .ok (.iconst 1, 1) := by decide +kernel
theorem dX12_isSleeper_10 : decode cX12_isSleeper 10 = .ok (.isub, 1) := by decide +kernel
theorem dX12_isSleeper_11 : decode cX12_isSleeper 11 = .ok (.i2l, 1) := by decide +kernel
theorem dX12_isSleeper_12 : decode cX12_isSleeper 12 = .ok (.invokestatic 75, 3) := by decide +kernel
theorem dX12_isSleeper_15 : decode cX12_isSleeper 15 = .ok (.ireturn, 1) := by decide +kernel
theorem dX12_anew_0 : decode cX12_anew 0 = .ok (.iconst 0, 1) := by decide +kernel
theorem dX12_anew_1 : decode cX12_anew 1 = .ok (.istore_n 1, 1) := by decide +kernel
theorem dX12_anew_2 : decode cX12_anew 2 = .ok (.iload_n 1, 1) := by decide +kernel
theorem dX12_anew_3 : decode cX12_anew 3 = .ok (.bipush 99, 2) := by decide +kernel
theorem dX12_anew_5 : decode cX12_anew 5 = .ok (.if_icmp .ge 26, 3) := by decide +kernel
theorem dX12_anew_8 : decode cX12_anew 8 = .ok (.aload_n 0, 1) := by decide +kernel
theorem dX12_anew_9 : decode cX12_anew 9 = .ok (.getfield 7, 3) := by decide +kernel
theorem dX12_anew_12 : decode cX12_anew 12 = .ok (.iload_n 1, 1) := by decide +kernel
theorem dX12_anew_13 : decode cX12_anew 13 = .ok (.iload_n 1, 1) := by decide +kernel
theorem dX12_anew_14 : decode cX12_anew 14 = .ok (.bipush 71, 2) := by decide +kernel
theorem dX12_anew_16 : decode cX12_anew 16 = .ok (.if_icmp .ge 7, 3) := by decide +kernel
theorem dX12_anew_19 : decode cX12_anew 19 = .ok (.iconst 0, 1) := by decide +kernel
theorem dX12_anew_20 : decode cX12_anew 20 = .ok (.goto 4, 3) := by decide +kernel
theorem dX12_anew_23 : decode cX12_anew 23 = .ok (.iconst (-1), 1) := by decide +kernel
theorem dX12_anew_24 : decode cX12_anew 24 = .ok (.iastore, 1) := by decide +kernel
theorem dX12_anew_25 : decode cX12_anew 25 = .ok (.iinc 1 1, 3) := by decide +kernel
theorem dX12_anew_28 : decode cX12_anew 28 = .ok (.goto (-26), 3) := by decide +kernel
theorem dX12_anew_31 : decode cX12_anew 31 = .ok (.aload_n 0, 1) := by decide +kernel
theorem dX12_anew_32 : decode cX12_anew 32 = .ok (.iconst 0, 1) := by decide +kernel
theorem dX12_anew_33 : decode cX12_anew 33 = .ok (.putfield 81, 3) := by decide +kernel
theorem dX12_anew_36 : decode cX12_anew 36 = .ok (.return_, 1) := by decide +kernel
theorem dX12_house_0 : decode cX12_house 0 = .ok (.aload_n 0, 1) := by decide +kernel
theorem dX12_house_1 : decode cX12_house 1 = .ok (.getfield 7, 3) := by decide +kernel
theorem dX12_house_4 : decode cX12_house 4 = .ok (.iconst 5, 1) := by decide +kernel
theorem dX12_house_5 : decode cX12_house 5 = .ok (.iaload, 1) := by decide +kernel
theorem dX12_house_6 : decode cX12_house 6 = .ok (.istore_n 1, 1) := by decide +kernel
theorem dX12_house_7 : decode cX12_house 7 = .ok (.aload_n 0, 1) := by decide +kernel
theorem dX12_house_8 : decode cX12_house 8 = .ok (.invokevirtual 70, 3) := by decide +kernel
theorem dX12_house_11 : decode cX12_house 11 = .ok (.iload_n 1, 1) := by decide +kernel
theorem dX12_house_12 : decode cX12_house 12 = .ok (.ireturn, 1) := by decide +kernel
theorem dX12_pairOf_0 : decode cX12_pairOf 0 = .ok (.iload_n 0, 1) := by decide +kernel
theorem dX12_pairOf_1 : decode cX12_pairOf 1 = .ok (.iload_n 1, 1) := by decide +kernel
theorem dX12_pairOf_2 : decode cX12_pairOf 2 = .ok (.if_icmp .ge 7, 3) := by decide +kernel
theorem dX12_pairOf_5 : decode cX12_pairOf 5 = .ok (.iload_n 0, 1) := by decide +kernel
theorem dX12_pairOf_6 : decode cX12_pairOf 6 = .ok (.goto 4, 3) := by decide +kernel
theorem dX12_pairOf_9 : decode cX12_pairOf 9 = .ok (.iload_n 1, 1) := by decide +kernel
theorem dX12_pairOf_10 : decode cX12_pairOf 10 = .ok (.istore_n 2, 1) := by decide +kernel
theorem dX12_pairOf_11 : decode cX12_pairOf 11 = .ok (.iload_n 0, 1) := by decide +kernel
theorem dX12_pairOf_12 : decode cX12_pairOf 12 = .ok (.iload_n 1, 1) := by decide +kernel
theorem dX12_pairOf_13 : decode cX12_pairOf 13 = .ok (.if_icmp .ge 7, 3) := by decide +kernel
theorem dX12_pairOf_16 : decode cX12_pairOf 16 = .ok (.iload_n 1, 1) := by decide +kernel
theorem dX12_pairOf_17 : decode cX12_pairOf 17 = .ok (.goto 4, 3) := by decide +kernel
theorem dX12_pairOf_20 : decode cX12_pairOf 20 = .ok (.iload_n 0, 1) := by decide +kernel
theorem dX12_pairOf_21 : decode cX12_pairOf 21 = .ok (.istore_n 3, 1) := by decide +kernel
theorem dX12_pairOf_22 : decode cX12_pairOf 22 = .ok (.iload_n 2, 1) := by decide +kernel
theorem dX12_pairOf_23 : decode cX12_pairOf 23 = .ok (.bipush 15, 2) := by decide +kernel
theorem dX12_pairOf_25 : decode cX12_pairOf 25 = .ok (.iload_n 2, 1) := by decide +kernel
theorem dX12_pairOf_26 : decode cX12_pairOf 26 = .ok (.isub, 1) := by decide +kernel
theorem dX12_pairOf_27 : decode cX12_pairOf 27 = .ok (.imul, 1) := by decide +kernel
theorem dX12_pairOf_28 : decode cX12_pairOf 28 = .ok (.iconst 2, 1) := by decide +kernel
theorem dX12_pairOf_29 : decode cX12_pairOf 29 = .ok (.idiv, 1) := by decide +kernel
theorem dX12_pairOf_30 : decode cX12_pairOf 30 = .ok (.iload_n 3, 1) := by decide +kernel
theorem dX12_pairOf_31 : decode cX12_pairOf 31 = .ok (.iadd, 1) := by decide +kernel
theorem dX12_pairOf_32 : decode cX12_pairOf 32 = .ok (.iload_n 2, 1) := by decide +kernel
theorem dX12_pairOf_33 : decode cX12_pairOf 33 = .ok (.isub, 1) := by decide +kernel
theorem dX12_pairOf_34 : decode cX12_pairOf 34 = .ok (.iconst 1, 1) := by decide +kernel
theorem dX12_pairOf_35 : decode cX12_pairOf 35 = .ok (.isub, 1) := by decide +kernel
theorem dX12_pairOf_36 : decode cX12_pairOf 36 = .ok (.ireturn, 1) := by decide +kernel
theorem dX12_creakOf_0 : decode cX12_creakOf 0 = .ok (.iload_n 1, 1) := by decide +kernel
theorem dX12_creakOf_1 : decode cX12_creakOf 1 = .ok (.iload_n 2, 1) := by decide +kernel
theorem dX12_creakOf_2 : decode cX12_creakOf 2 = .ok (.if_icmp .ne 7, 3) := by decide +kernel
theorem dX12_creakOf_5 : decode cX12_creakOf 5 = .ok (.iconst (-1), 1) := by decide +kernel
theorem dX12_creakOf_6 : decode cX12_creakOf 6 = .ok (.goto 16, 3) := by decide +kernel
theorem dX12_creakOf_9 : decode cX12_creakOf 9 = .ok (.aload_n 0, 1) := by decide +kernel
theorem dX12_creakOf_10 : decode cX12_creakOf 10 = .ok (.getfield 7, 3) := by decide +kernel
theorem dX12_creakOf_13 : decode cX12_creakOf 13 = .ok (.bipush 71, 2) := by decide +kernel
theorem dX12_creakOf_15 : decode cX12_creakOf 15 = .ok (.iload_n 1, 1) := by decide +kernel
theorem dX12_creakOf_16 : decode cX12_creakOf 16 = .ok (.iload_n 2, 1) := by decide +kernel
theorem dX12_creakOf_17 : decode cX12_creakOf 17 = .ok (.invokestatic 85, 3) := by decide +kernel
theorem dX12_creakOf_20 : decode cX12_creakOf 20 = .ok (.iadd, 1) := by decide +kernel
theorem dX12_creakOf_21 : decode cX12_creakOf 21 = .ok (.iaload, 1) := by decide +kernel
theorem dX12_creakOf_22 : decode cX12_creakOf 22 = .ok (.ireturn, 1) := by decide +kernel
theorem dX12_stair_0 : decode cX12_stair 0 = .ok (.iload_n 1, 1) := by decide +kernel
theorem dX12_stair_1 : decode cX12_stair 1 = .ok (.invokestatic 89, 3) := by decide +kernel
theorem dX12_stair_4 : decode cX12_stair 4 = .ok (.ifCond .eq 27, 3) := by decide +kernel
theorem dX12_stair_7 : decode cX12_stair 7 = .ok (.iload_n 2, 1) := by decide +kernel
theorem dX12_stair_8 : decode cX12_stair 8 = .ok (.invokestatic 89, 3) := by decide +kernel
theorem dX12_stair_11 : decode cX12_stair 11 = .ok (.ifCond .eq 20, 3) := by decide +kernel
theorem dX12_stair_14 : decode cX12_stair 14 = .ok (.iload_n 1, 1) := by decide +kernel
theorem dX12_stair_15 : decode cX12_stair 15 = .ok (.iload_n 2, 1) := by decide +kernel
theorem dX12_stair_16 : decode cX12_stair 16 = .ok (.if_icmp .eq 15, 3) := by decide +kernel
theorem dX12_stair_19 : decode cX12_stair 19 = .ok (.iload_n 3, 1) := by decide +kernel
theorem dX12_stair_20 : decode cX12_stair 20 = .ok (.i2l, 1) := by decide +kernel
theorem dX12_stair_21 : decode cX12_stair 21 = .ok (.lconst 0, 1) := by decide +kernel
theorem dX12_stair_22 : decode cX12_stair 22 = .ok (.ldc2_w 93, 3) := by decide +kernel
theorem dX12_stair_25 : decode cX12_stair 25 = .ok (.invokestatic 75, 3) := by decide +kernel
theorem dX12_stair_28 : decode cX12_stair 28 = .ok (.ifCond .ne 11, 3) := by decide +kernel
theorem dX12_stair_31 : decode cX12_stair 31 = .ok (.aload_n 0, 1) := by decide +kernel
theorem dX12_stair_32 : decode cX12_stair 32 = .ok (.invokevirtual 95, 3) := by decide +kernel
theorem dX12_stair_35 : decode cX12_stair 35 = .ok (.pop, 1) := by decide +kernel
theorem dX12_stair_36 : decode cX12_stair 36 = .ok (.bipush (-10), 2) := by decide +kernel
theorem dX12_stair_38 : decode cX12_stair 38 = .ok (.ireturn, 1) := by decide +kernel
theorem dX12_stair_39 : decode cX12_stair 39 = .ok (.aload_n 0, 1) := by decide +kernel
theorem dX12_stair_40 : decode cX12_stair 40 = .ok (.iload_n 1, 1) := by decide +kernel
theorem dX12_stair_41 : decode cX12_stair 41 = .ok (.iload_n 2, 1) := by decide +kernel
theorem dX12_stair_42 : decode cX12_stair 42 = .ok (.invokevirtual 99, 3) := by decide +kernel
theorem dX12_stair_45 : decode cX12_stair 45 = .ok (.istore 4, 2) := by decide +kernel
theorem dX12_stair_47 : decode cX12_stair 47 = .ok (.aload_n 0, 1) := by decide +kernel
theorem dX12_stair_48 : decode cX12_stair 48 = .ok (.getfield 7, 3) := by decide +kernel
theorem dX12_stair_51 : decode cX12_stair 51 = .ok (.bipush 71, 2) := by decide +kernel
theorem dX12_stair_53 : decode cX12_stair 53 = .ok (.iload_n 1, 1) := by decide +kernel
theorem dX12_stair_54 : decode cX12_stair 54 = .ok (.iload_n 2, 1) := by decide +kernel
theorem dX12_stair_55 : decode cX12_stair 55 = .ok (.invokestatic 85, 3) := by decide +kernel
theorem dX12_stair_58 : decode cX12_stair 58 = .ok (.iadd, 1) := by decide +kernel
theorem dX12_stair_59 : decode cX12_stair 59 = .ok (.iload_n 3, 1) := by decide +kernel
theorem dX12_stair_60 : decode cX12_stair 60 = .ok (.iastore, 1) := by decide +kernel
theorem dX12_stair_61 : decode cX12_stair 61 = .ok (.iload 4, 2) := by decide +kernel
theorem dX12_stair_63 : decode cX12_stair 63 = .ok (.ireturn, 1) := by decide +kernel
theorem dX12_addSleeper_0 : decode cX12_addSleeper 0 = .ok (.aload_n 0, 1) := by decide +kernel
theorem dX12_addSleeper_1 : decode cX12_addSleeper 1 = .ok (.getfield 7, 3) := by decide +kernel
theorem dX12_addSleeper_4 : decode cX12_addSleeper 4 = .ok (.iconst 5, 1) := by decide +kernel
theorem dX12_addSleeper_5 : decode cX12_addSleeper 5 = .ok (.iaload, 1) := by decide +kernel
theorem dX12_addSleeper_6 : decode cX12_addSleeper 6 = .ok (.istore 4, 2) := by decide +kernel
theorem dX12_addSleeper_8 : decode cX12_addSleeper 8 = .ok (.aload_n 0, 1) := by decide +kernel
theorem dX12_addSleeper_9 : decode cX12_addSleeper 9 = .ok (.getfield 7, 3) := by decide +kernel
theorem dX12_addSleeper_12 : decode cX12_addSleeper 12 = .ok (.bipush 6, 2) := by decide +kernel
theorem dX12_addSleeper_14 : decode cX12_addSleeper 14 = .ok (.iload 4, 2) := by decide +kernel
theorem dX12_addSleeper_16 : decode cX12_addSleeper 16 = .ok (.iadd, 1) := by decide +kernel
theorem dX12_addSleeper_17 : decode cX12_addSleeper 17 = .ok (.iload_n 1, 1) := by decide +kernel
theorem dX12_addSleeper_18 : decode cX12_addSleeper 18 = .ok (.iastore, 1) := by decide +kernel
theorem dX12_addSleeper_19 : decode cX12_addSleeper 19 = .ok (.aload_n 0, 1) := by decide +kernel
theorem dX12_addSleeper_20 : decode cX12_addSleeper 20 = .ok (.getfield 7, 3) := by decide +kernel
theorem dX12_addSleeper_23 : decode cX12_addSleeper 23 = .ok (.bipush 11, 2) := by decide +kernel
theorem dX12_addSleeper_25 : decode cX12_addSleeper 25 = .ok (.iload 4, 2) := by decide +kernel
theorem dX12_addSleeper_27 : decode cX12_addSleeper 27 = .ok (.iadd, 1) := by decide +kernel
theorem dX12_addSleeper_28 : decode cX12_addSleeper 28 = .ok (.iload_n 2, 1) := by decide +kernel
theorem dX12_addSleeper_29 : decode cX12_addSleeper 29 = .ok (.iastore, 1) := by decide +kernel
theorem dX12_addSleeper_30 : decode cX12_addSleeper 30 = .ok (.aload_n 0, 1) := by decide +kernel
theorem dX12_addSleeper_31 : decode cX12_addSleeper 31 = .ok (.getfield 7, 3) := by decide +kernel
theorem dX12_addSleeper_34 : decode cX12_addSleeper 34 = .ok (.bipush 16, 2) := by decide +kernel
theorem dX12_addSleeper_36 : decode cX12_addSleeper 36 = .ok (.iload 4, 2) := by decide +kernel
theorem dX12_addSleeper_38 : decode cX12_addSleeper 38 = .ok (.iadd, 1) := by decide +kernel
theorem dX12_addSleeper_39 : decode cX12_addSleeper 39 = .ok (.iload_n 3, 1) := by decide +kernel
theorem dX12_addSleeper_40 : decode cX12_addSleeper 40 = .ok (.iastore, 1) := by decide +kernel
theorem dX12_addSleeper_41 : decode cX12_addSleeper 41 = .ok (.aload_n 0, 1) := by decide +kernel
theorem dX12_addSleeper_42 : decode cX12_addSleeper 42 = .ok (.getfield 7, 3) := by decide +kernel
theorem dX12_addSleeper_45 : decode cX12_addSleeper 45 = .ok (.iconst 5, 1) := by decide +kernel
theorem dX12_addSleeper_46 : decode cX12_addSleeper 46 = .ok (.dup2, 1) := by decide +kernel
theorem dX12_addSleeper_47 : decode cX12_addSleeper 47 = .ok (.iaload, 1) := by decide +kernel
theorem dX12_addSleeper_48 : decode cX12_addSleeper 48 = .ok (.iconst 1, 1) := by decide +kernel
theorem dX12_addSleeper_49 : decode cX12_addSleeper 49 = .ok (.iadd, 1) := by decide +kernel
theorem dX12_addSleeper_50 : decode cX12_addSleeper 50 = .ok (.iastore, 1) := by decide +kernel
theorem dX12_addSleeper_51 : decode cX12_addSleeper 51 = .ok (.return_, 1) := by decide +kernel
theorem dX12_sleeper_0 : decode cX12_sleeper 0 = .ok (.iload_n 1, 1) := by decide +kernel
theorem dX12_sleeper_1 : decode cX12_sleeper 1 = .ok (.i2l, 1) := by decide +kernel
theorem dX12_sleeper_2 : decode cX12_sleeper 2 = .ok (.lconst 0, 1) := by decide +kernel
theorem dX12_sleeper_3 : decode cX12_sleeper 3 = .ok (.ldc2_w 102, 3) := by decide +kernel
theorem dX12_sleeper_6 : decode cX12_sleeper 6 = .ok (.invokestatic 75, 3) := by decide +kernel
theorem dX12_sleeper_9 : decode cX12_sleeper 9 = .ok (.ifCond .eq 22, 3) := by decide +kernel
theorem dX12_sleeper_12 : decode cX12_sleeper 12 = .ok (.iload_n 2, 1) := by decide +kernel
theorem dX12_sleeper_13 : decode cX12_sleeper 13 = .ok (.invokestatic 89, 3) := by decide +kernel
theorem dX12_sleeper_16 : decode cX12_sleeper 16 = .ok (.ifCond .eq 15, 3) := by decide +kernel
theorem dX12_sleeper_19 : decode cX12_sleeper 19 = .ok (.iload_n 3, 1) := by decide +kernel
theorem dX12_sleeper_20 : decode cX12_sleeper 20 = .ok (.i2l, 1) := by decide +kernel
theorem dX12_sleeper_21 : decode cX12_sleeper 21 = .ok (.lconst 0, 1) := by decide +kernel
theorem dX12_sleeper_22 : decode cX12_sleeper 22 = .ok (.ldc2_w 93, 3) := by decide +kernel
theorem dX12_sleeper_25 : decode cX12_sleeper 25 = .ok (.invokestatic 75, 3) := by decide +kernel
theorem dX12_sleeper_28 : decode cX12_sleeper 28 = .ok (.ifCond .ne 8, 3) := by decide +kernel
theorem dX12_sleeper_31 : decode cX12_sleeper 31 = .ok (.aload_n 0, 1) := by decide +kernel
theorem dX12_sleeper_32 : decode cX12_sleeper 32 = .ok (.invokevirtual 95, 3) := by decide +kernel
theorem dX12_sleeper_35 : decode cX12_sleeper 35 = .ok (.ireturn, 1) := by decide +kernel
theorem dX12_sleeper_36 : decode cX12_sleeper 36 = .ok (.aload_n 0, 1) := by decide +kernel
theorem dX12_sleeper_37 : decode cX12_sleeper 37 = .ok (.getfield 7, 3) := by decide +kernel
theorem dX12_sleeper_40 : decode cX12_sleeper 40 = .ok (.iconst 5, 1) := by decide +kernel
theorem dX12_sleeper_41 : decode cX12_sleeper 41 = .ok (.iaload, 1) := by decide +kernel
theorem dX12_sleeper_42 : decode cX12_sleeper 42 = .ok (.iconst 5, 1) := by decide +kernel
theorem dX12_sleeper_43 : decode cX12_sleeper 43 = .ok (.if_icmp .ne 8, 3) := by decide +kernel
theorem dX12_sleeper_46 : decode cX12_sleeper 46 = .ok (.aload_n 0, 1) := by decide +kernel
theorem dX12_sleeper_47 : decode cX12_sleeper 47 = .ok (.invokevirtual 104, 3) := by decide +kernel
theorem dX12_sleeper_50 : decode cX12_sleeper 50 = .ok (.ireturn, 1) := by decide +kernel
theorem dX12_sleeper_51 : decode cX12_sleeper 51 = .ok (.aload_n 0, 1) := by decide +kernel
theorem dX12_sleeper_52 : decode cX12_sleeper 52 = .ok (.iload_n 1, 1) := by decide +kernel
theorem dX12_sleeper_53 : decode cX12_sleeper 53 = .ok (.iload_n 2, 1) := by decide +kernel
theorem dX12_sleeper_54 : decode cX12_sleeper 54 = .ok (.iload_n 3, 1) := by decide +kernel
theorem dX12_sleeper_55 : decode cX12_sleeper 55 = .ok (.invokevirtual 107, 3) := by decide +kernel
theorem dX12_sleeper_58 : decode cX12_sleeper 58 = .ok (.aload_n 0, 1) := by decide +kernel
theorem dX12_sleeper_59 : decode cX12_sleeper 59 = .ok (.iconst 0, 1) := by decide +kernel
theorem dX12_sleeper_60 : decode cX12_sleeper 60 = .ok (.putfield 81, 3) := by decide +kernel
theorem dX12_sleeper_63 : decode cX12_sleeper 63 = .ok (.aload_n 0, 1) := by decide +kernel
theorem dX12_sleeper_64 : decode cX12_sleeper 64 = .ok (.getfield 7, 3) := by decide +kernel
theorem dX12_sleeper_67 : decode cX12_sleeper 67 = .ok (.iconst 5, 1) := by decide +kernel
theorem dX12_sleeper_68 : decode cX12_sleeper 68 = .ok (.iaload, 1) := by decide +kernel
theorem dX12_sleeper_69 : decode cX12_sleeper 69 = .ok (.iconst 1, 1) := by decide +kernel
theorem dX12_sleeper_70 : decode cX12_sleeper 70 = .ok (.isub, 1) := by decide +kernel
theorem dX12_sleeper_71 : decode cX12_sleeper 71 = .ok (.ireturn, 1) := by decide +kernel
theorem dX12_addThing_0 : decode cX12_addThing 0 = .ok (.aload_n 0, 1) := by decide +kernel
theorem dX12_addThing_1 : decode cX12_addThing 1 = .ok (.getfield 7, 3) := by decide +kernel
theorem dX12_addThing_4 : decode cX12_addThing 4 = .ok (.bipush 22, 2) := by decide +kernel
theorem dX12_addThing_6 : decode cX12_addThing 6 = .ok (.aload_n 0, 1) := by decide +kernel
theorem dX12_addThing_7 : decode cX12_addThing 7 = .ok (.getfield 7, 3) := by decide +kernel
theorem dX12_addThing_10 : decode cX12_addThing 10 = .ok (.bipush 21, 2) := by decide +kernel
theorem dX12_addThing_12 : decode cX12_addThing 12 = .ok (.iaload, 1) := by decide +kernel
theorem dX12_addThing_13 : decode cX12_addThing 13 = .ok (.iadd, 1) := by decide +kernel
theorem dX12_addThing_14 : decode cX12_addThing 14 = .ok (.iload_n 1, 1) := by decide +kernel
theorem dX12_addThing_15 : decode cX12_addThing 15 = .ok (.iastore, 1) := by decide +kernel
theorem dX12_addThing_16 : decode cX12_addThing 16 = .ok (.aload_n 0, 1) := by decide +kernel
theorem dX12_addThing_17 : decode cX12_addThing 17 = .ok (.getfield 7, 3) := by decide +kernel
theorem dX12_addThing_20 : decode cX12_addThing 20 = .ok (.bipush 27, 2) := by decide +kernel
theorem dX12_addThing_22 : decode cX12_addThing 22 = .ok (.aload_n 0, 1) := by decide +kernel
theorem dX12_addThing_23 : decode cX12_addThing 23 = .ok (.getfield 7, 3) := by decide +kernel
theorem dX12_addThing_26 : decode cX12_addThing 26 = .ok (.bipush 21, 2) := by decide +kernel
theorem dX12_addThing_28 : decode cX12_addThing 28 = .ok (.iaload, 1) := by decide +kernel
theorem dX12_addThing_29 : decode cX12_addThing 29 = .ok (.iadd, 1) := by decide +kernel
theorem dX12_addThing_30 : decode cX12_addThing 30 = .ok (.iconst 0, 1) := by decide +kernel
theorem dX12_addThing_31 : decode cX12_addThing 31 = .ok (.iastore, 1) := by decide +kernel
theorem dX12_addThing_32 : decode cX12_addThing 32 = .ok (.aload_n 0, 1) := by decide +kernel
theorem dX12_addThing_33 : decode cX12_addThing 33 = .ok (.getfield 7, 3) := by decide +kernel
theorem dX12_addThing_36 : decode cX12_addThing 36 = .ok (.bipush 21, 2) := by decide +kernel
theorem dX12_addThing_38 : decode cX12_addThing 38 = .ok (.dup2, 1) := by decide +kernel
theorem dX12_addThing_39 : decode cX12_addThing 39 = .ok (.iaload, 1) := by decide +kernel
theorem dX12_addThing_40 : decode cX12_addThing 40 = .ok (.iconst 1, 1) := by decide +kernel
theorem dX12_addThing_41 : decode cX12_addThing 41 = .ok (.iadd, 1) := by decide +kernel
theorem dX12_addThing_42 : decode cX12_addThing 42 = .ok (.iastore, 1) := by decide +kernel
theorem dX12_addThing_43 : decode cX12_addThing 43 = .ok (.return_, 1) := by decide +kernel
theorem dX12_thing_0 : decode cX12_thing 0 = .ok (.iload_n 1, 1) := by decide +kernel
theorem dX12_thing_1 : decode cX12_thing 1 = .ok (.invokestatic 89, 3) := by decide +kernel
theorem dX12_thing_4 : decode cX12_thing 4 = .ok (.ifCond .ne 8, 3) := by decide +kernel
theorem dX12_thing_7 : decode cX12_thing 7 = .ok (.aload_n 0, 1) := by decide +kernel
theorem dX12_thing_8 : decode cX12_thing 8 = .ok (.invokevirtual 95, 3) := by decide +kernel
theorem dX12_thing_11 : decode cX12_thing 11 = .ok (.ireturn, 1) := by decide +kernel
theorem dX12_thing_12 : decode cX12_thing 12 = .ok (.aload_n 0, 1) := by decide +kernel
theorem dX12_thing_13 : decode cX12_thing 13 = .ok (.getfield 7, 3) := by decide +kernel
theorem dX12_thing_16 : decode cX12_thing 16 = .ok (.bipush 21, 2) := by decide +kernel
theorem dX12_thing_18 : decode cX12_thing 18 = .ok (.iaload, 1) := by decide +kernel
theorem dX12_thing_19 : decode cX12_thing 19 = .ok (.iconst 5, 1) := by decide +kernel
theorem dX12_thing_20 : decode cX12_thing 20 = .ok (.if_icmp .ne 8, 3) := by decide +kernel
theorem dX12_thing_23 : decode cX12_thing 23 = .ok (.aload_n 0, 1) := by decide +kernel
theorem dX12_thing_24 : decode cX12_thing 24 = .ok (.invokevirtual 104, 3) := by decide +kernel
theorem dX12_thing_27 : decode cX12_thing 27 = .ok (.ireturn, 1) := by decide +kernel
theorem dX12_thing_28 : decode cX12_thing 28 = .ok (.aload_n 0, 1) := by decide +kernel
theorem dX12_thing_29 : decode cX12_thing 29 = .ok (.iload_n 1, 1) := by decide +kernel
theorem dX12_thing_30 : decode cX12_thing 30 = .ok (.invokevirtual 111, 3) := by decide +kernel
theorem dX12_thing_33 : decode cX12_thing 33 = .ok (.aload_n 0, 1) := by decide +kernel
theorem dX12_thing_34 : decode cX12_thing 34 = .ok (.getfield 7, 3) := by decide +kernel
theorem dX12_thing_37 : decode cX12_thing 37 = .ok (.bipush 21, 2) := by decide +kernel
theorem dX12_thing_39 : decode cX12_thing 39 = .ok (.iaload, 1) := by decide +kernel
theorem dX12_thing_40 : decode cX12_thing 40 = .ok (.iconst 1, 1) := by decide +kernel
theorem dX12_thing_41 : decode cX12_thing 41 = .ok (.isub, 1) := by decide +kernel
theorem dX12_thing_42 : decode cX12_thing 42 = .ok (.ireturn, 1) := by decide +kernel
theorem dX12_isThing_0 : decode cX12_isThing 0 = .ok (.iload_n 1, 1) := by decide +kernel
theorem dX12_isThing_1 : decode cX12_isThing 1 = .ok (.i2l, 1) := by decide +kernel
theorem dX12_isThing_2 : decode cX12_isThing 2 = .ok (.lconst 0, 1) := by decide +kernel
theorem dX12_isThing_3 : decode cX12_isThing 3 = .ok (.aload_n 0, 1) := by decide +kernel
theorem dX12_isThing_4 : decode cX12_isThing 4 = .ok (.getfield 7, 3) := by decide +kernel
theorem dX12_isThing_7 : decode cX12_isThing 7 = .ok (.bipush 21, 2) := by decide +kernel
theorem dX12_isThing_9 : decode cX12_isThing 9 = .ok (.iaload, 1) := by decide +kernel
theorem dX12_isThing_10 : decode cX12_isThing 10 = .ok (.iconst 1, 1) := by decide +kernel
theorem dX12_isThing_11 : decode cX12_isThing 11 = .ok (.isub, 1) := by decide +kernel
theorem dX12_isThing_12 : decode cX12_isThing 12 = .ok (.i2l, 1) := by decide +kernel
theorem dX12_isThing_13 : decode cX12_isThing 13 = .ok (.invokestatic 75, 3) := by decide +kernel
theorem dX12_isThing_16 : decode cX12_isThing 16 = .ok (.ireturn, 1) := by decide +kernel
theorem dX12_lastOwner_0 : decode cX12_lastOwner 0 = .ok (.aload_n 0, 1) := by decide +kernel
theorem dX12_lastOwner_1 : decode cX12_lastOwner 1 = .ok (.getfield 7, 3) := by decide +kernel
theorem dX12_lastOwner_4 : decode cX12_lastOwner 4 = .ok (.bipush 27, 2) := by decide +kernel
theorem dX12_lastOwner_6 : decode cX12_lastOwner 6 = .ok (.iload_n 1, 1) := by decide +kernel
theorem dX12_lastOwner_7 : decode cX12_lastOwner 7 = .ok (.iadd, 1) := by decide +kernel
theorem dX12_lastOwner_8 : decode cX12_lastOwner 8 = .ok (.iaload, 1) := by decide +kernel
theorem dX12_lastOwner_9 : decode cX12_lastOwner 9 = .ok (.ifCond .ne 7, 3) := by decide +kernel
theorem dX12_lastOwner_12 : decode cX12_lastOwner 12 = .ok (.iconst (-1), 1) := by decide +kernel
theorem dX12_lastOwner_13 : decode cX12_lastOwner 13 = .ok (.goto 26, 3) := by decide +kernel
theorem dX12_lastOwner_16 : decode cX12_lastOwner 16 = .ok (.aload_n 0, 1) := by decide +kernel
theorem dX12_lastOwner_17 : decode cX12_lastOwner 17 = .ok (.getfield 7, 3) := by decide +kernel
theorem dX12_lastOwner_20 : decode cX12_lastOwner 20 = .ok (.bipush 32, 2) := by decide +kernel
theorem dX12_lastOwner_22 : decode cX12_lastOwner 22 = .ok (.iconst 4, 1) := by decide +kernel
theorem dX12_lastOwner_23 : decode cX12_lastOwner 23 = .ok (.iload_n 1, 1) := by decide +kernel
theorem dX12_lastOwner_24 : decode cX12_lastOwner 24 = .ok (.imul, 1) := by decide +kernel
theorem dX12_lastOwner_25 : decode cX12_lastOwner 25 = .ok (.iadd, 1) := by decide +kernel
theorem dX12_lastOwner_26 : decode cX12_lastOwner 26 = .ok (.aload_n 0, 1) := by decide +kernel
theorem dX12_lastOwner_27 : decode cX12_lastOwner 27 = .ok (.getfield 7, 3) := by decide +kernel
theorem dX12_lastOwner_30 : decode cX12_lastOwner 30 = .ok (.bipush 27, 2) := by decide +kernel
theorem dX12_lastOwner_32 : decode cX12_lastOwner 32 = .ok (.iload_n 1, 1) := by decide +kernel
theorem dX12_lastOwner_33 : decode cX12_lastOwner 33 = .ok (.iadd, 1) := by decide +kernel
theorem dX12_lastOwner_34 : decode cX12_lastOwner 34 = .ok (.iaload, 1) := by decide +kernel
theorem dX12_lastOwner_35 : decode cX12_lastOwner 35 = .ok (.iadd, 1) := by decide +kernel
theorem dX12_lastOwner_36 : decode cX12_lastOwner 36 = .ok (.iconst 1, 1) := by decide +kernel
theorem dX12_lastOwner_37 : decode cX12_lastOwner 37 = .ok (.isub, 1) := by decide +kernel
theorem dX12_lastOwner_38 : decode cX12_lastOwner 38 = .ok (.iaload, 1) := by decide +kernel
theorem dX12_lastOwner_39 : decode cX12_lastOwner 39 = .ok (.ireturn, 1) := by decide +kernel
theorem dX12_addOwner_0 : decode cX12_addOwner 0 = .ok (.aload_n 0, 1) := by decide +kernel
theorem dX12_addOwner_1 : decode cX12_addOwner 1 = .ok (.getfield 7, 3) := by decide +kernel
theorem dX12_addOwner_4 : decode cX12_addOwner 4 = .ok (.bipush 32, 2) := by decide +kernel
theorem dX12_addOwner_6 : decode cX12_addOwner 6 = .ok (.iconst 4, 1) := by decide +kernel
theorem dX12_addOwner_7 : decode cX12_addOwner 7 = .ok (.iload_n 1, 1) := by decide +kernel
theorem dX12_addOwner_8 : decode cX12_addOwner 8 = .ok (.imul, 1) := by decide +kernel
theorem dX12_addOwner_9 : decode cX12_addOwner 9 = .ok (.iadd, 1) := by decide +kernel
theorem dX12_addOwner_10 : decode cX12_addOwner 10 = .ok (.aload_n 0, 1) := by decide +kernel
theorem dX12_addOwner_11 : decode cX12_addOwner 11 = .ok (.getfield 7, 3) := by decide +kernel
theorem dX12_addOwner_14 : decode cX12_addOwner 14 = .ok (.bipush 27, 2) := by decide +kernel
theorem dX12_addOwner_16 : decode cX12_addOwner 16 = .ok (.iload_n 1, 1) := by decide +kernel
theorem dX12_addOwner_17 : decode cX12_addOwner 17 = .ok (.iadd, 1) := by decide +kernel
theorem dX12_addOwner_18 : decode cX12_addOwner 18 = .ok (.iaload, 1) := by decide +kernel
theorem dX12_addOwner_19 : decode cX12_addOwner 19 = .ok (.iadd, 1) := by decide +kernel
theorem dX12_addOwner_20 : decode cX12_addOwner 20 = .ok (.iload_n 2, 1) := by decide +kernel
theorem dX12_addOwner_21 : decode cX12_addOwner 21 = .ok (.iastore, 1) := by decide +kernel
theorem dX12_addOwner_22 : decode cX12_addOwner 22 = .ok (.aload_n 0, 1) := by decide +kernel
theorem dX12_addOwner_23 : decode cX12_addOwner 23 = .ok (.getfield 7, 3) := by decide +kernel
theorem dX12_addOwner_26 : decode cX12_addOwner 26 = .ok (.bipush 27, 2) := by decide +kernel
theorem dX12_addOwner_28 : decode cX12_addOwner 28 = .ok (.iload_n 1, 1) := by decide +kernel
theorem dX12_addOwner_29 : decode cX12_addOwner 29 = .ok (.iadd, 1) := by decide +kernel
theorem dX12_addOwner_30 : decode cX12_addOwner 30 = .ok (.dup2, 1) := by decide +kernel
theorem dX12_addOwner_31 : decode cX12_addOwner 31 = .ok (.iaload, 1) := by decide +kernel
theorem dX12_addOwner_32 : decode cX12_addOwner 32 = .ok (.iconst 1, 1) := by decide +kernel
theorem dX12_addOwner_33 : decode cX12_addOwner 33 = .ok (.iadd, 1) := by decide +kernel
theorem dX12_addOwner_34 : decode cX12_addOwner 34 = .ok (.iastore, 1) := by decide +kernel
theorem dX12_addOwner_35 : decode cX12_addOwner 35 = .ok (.return_, 1) := by decide +kernel
theorem dX12_owner_0 : decode cX12_owner 0 = .ok (.aload_n 0, 1) := by decide +kernel
theorem dX12_owner_1 : decode cX12_owner 1 = .ok (.iload_n 1, 1) := by decide +kernel
theorem dX12_owner_2 : decode cX12_owner 2 = .ok (.invokevirtual 115, 3) := by decide +kernel
theorem dX12_owner_5 : decode cX12_owner 5 = .ok (.ifCond .eq 24, 3) := by decide +kernel
theorem dX12_owner_8 : decode cX12_owner 8 = .ok (.iload_n 2, 1) := by decide +kernel
theorem dX12_owner_9 : decode cX12_owner 9 = .ok (.i2l, 1) := by decide +kernel
theorem dX12_owner_10 : decode cX12_owner 10 = .ok (.lconst 0, 1) := by decide +kernel
theorem dX12_owner_11 : decode cX12_owner 11 = .ok (.ldc2_w 118, 3) := by decide +kernel
theorem dX12_owner_14 : decode cX12_owner 14 = .ok (.invokestatic 75, 3) := by decide +kernel
theorem dX12_owner_17 : decode cX12_owner 17 = .ok (.ifCond .eq 12, 3) := by decide +kernel
theorem dX12_owner_20 : decode cX12_owner 20 = .ok (.aload_n 0, 1) := by decide +kernel
theorem dX12_owner_21 : decode cX12_owner 21 = .ok (.iload_n 1, 1) := by decide +kernel
theorem dX12_owner_22 : decode cX12_owner 22 = .ok (.invokevirtual 120, 3) := by decide +kernel
theorem dX12_owner_25 : decode cX12_owner 25 = .ok (.iload_n 2, 1) := by decide +kernel
theorem dX12_owner_26 : decode cX12_owner 26 = .ok (.if_icmp .ne 8, 3) := by decide +kernel
theorem dX12_owner_29 : decode cX12_owner 29 = .ok (.aload_n 0, 1) := by decide +kernel
theorem dX12_owner_30 : decode cX12_owner 30 = .ok (.invokevirtual 95, 3) := by decide +kernel
theorem dX12_owner_33 : decode cX12_owner 33 = .ok (.ireturn, 1) := by decide +kernel
theorem dX12_owner_34 : decode cX12_owner 34 = .ok (.aload_n 0, 1) := by decide +kernel
theorem dX12_owner_35 : decode cX12_owner 35 = .ok (.getfield 7, 3) := by decide +kernel
theorem dX12_owner_38 : decode cX12_owner 38 = .ok (.bipush 27, 2) := by decide +kernel
theorem dX12_owner_40 : decode cX12_owner 40 = .ok (.iload_n 1, 1) := by decide +kernel
theorem dX12_owner_41 : decode cX12_owner 41 = .ok (.iadd, 1) := by decide +kernel
theorem dX12_owner_42 : decode cX12_owner 42 = .ok (.iaload, 1) := by decide +kernel
theorem dX12_owner_43 : decode cX12_owner 43 = .ok (.iconst 4, 1) := by decide +kernel
theorem dX12_owner_44 : decode cX12_owner 44 = .ok (.if_icmp .ne 8, 3) := by decide +kernel
theorem dX12_owner_47 : decode cX12_owner 47 = .ok (.aload_n 0, 1) := by decide +kernel
theorem dX12_owner_48 : decode cX12_owner 48 = .ok (.invokevirtual 104, 3) := by decide +kernel
theorem dX12_owner_51 : decode cX12_owner 51 = .ok (.ireturn, 1) := by decide +kernel
theorem dX12_owner_52 : decode cX12_owner 52 = .ok (.aload_n 0, 1) := by decide +kernel
theorem dX12_owner_53 : decode cX12_owner 53 = .ok (.iload_n 1, 1) := by decide +kernel
theorem dX12_owner_54 : decode cX12_owner 54 = .ok (.iload_n 2, 1) := by decide +kernel
theorem dX12_owner_55 : decode cX12_owner 55 = .ok (.invokevirtual 124, 3) := by decide +kernel
theorem dX12_owner_58 : decode cX12_owner 58 = .ok (.aload_n 0, 1) := by decide +kernel
theorem dX12_owner_59 : decode cX12_owner 59 = .ok (.getfield 7, 3) := by decide +kernel
theorem dX12_owner_62 : decode cX12_owner 62 = .ok (.bipush 27, 2) := by decide +kernel
theorem dX12_owner_64 : decode cX12_owner 64 = .ok (.iload_n 1, 1) := by decide +kernel
theorem dX12_owner_65 : decode cX12_owner 65 = .ok (.iadd, 1) := by decide +kernel
theorem dX12_owner_66 : decode cX12_owner 66 = .ok (.iaload, 1) := by decide +kernel
theorem dX12_owner_67 : decode cX12_owner 67 = .ok (.ireturn, 1) := by decide +kernel
theorem dX12_type_0 : decode cX12_type 0 = .ok (.iload_n 1, 1) := by decide +kernel
theorem dX12_type_1 : decode cX12_type 1 = .ok (.i2l, 1) := by decide +kernel
theorem dX12_type_2 : decode cX12_type 2 = .ok (.lconst 0, 1) := by decide +kernel
theorem dX12_type_3 : decode cX12_type 3 = .ok (.ldc2_w 128, 3) := by decide +kernel
theorem dX12_type_6 : decode cX12_type 6 = .ok (.invokestatic 75, 3) := by decide +kernel
theorem dX12_type_9 : decode cX12_type 9 = .ok (.ifCond .ne 8, 3) := by decide +kernel
theorem dX12_type_12 : decode cX12_type 12 = .ok (.aload_n 0, 1) := by decide +kernel
theorem dX12_type_13 : decode cX12_type 13 = .ok (.invokevirtual 95, 3) := by decide +kernel
theorem dX12_type_16 : decode cX12_type 16 = .ok (.ireturn, 1) := by decide +kernel
theorem dX12_type_17 : decode cX12_type 17 = .ok (.aload_n 0, 1) := by decide +kernel
theorem dX12_type_18 : decode cX12_type 18 = .ok (.getfield 130, 3) := by decide +kernel
theorem dX12_type_21 : decode cX12_type 21 = .ok (.sipush 150, 3) := by decide +kernel
theorem dX12_type_24 : decode cX12_type 24 = .ok (.if_icmp .ne 8, 3) := by decide +kernel
theorem dX12_type_27 : decode cX12_type 27 = .ok (.aload_n 0, 1) := by decide +kernel
theorem dX12_type_28 : decode cX12_type 28 = .ok (.invokevirtual 104, 3) := by decide +kernel
theorem dX12_type_31 : decode cX12_type 31 = .ok (.ireturn, 1) := by decide +kernel
theorem dX12_type_32 : decode cX12_type 32 = .ok (.aload_n 0, 1) := by decide +kernel
theorem dX12_type_33 : decode cX12_type 33 = .ok (.getfield 20, 3) := by decide +kernel
theorem dX12_type_36 : decode cX12_type 36 = .ok (.aload_n 0, 1) := by decide +kernel
theorem dX12_type_37 : decode cX12_type 37 = .ok (.getfield 130, 3) := by decide +kernel
theorem dX12_type_40 : decode cX12_type 40 = .ok (.iload_n 1, 1) := by decide +kernel
theorem dX12_type_41 : decode cX12_type 41 = .ok (.iastore, 1) := by decide +kernel
theorem dX12_type_42 : decode cX12_type 42 = .ok (.aload_n 0, 1) := by decide +kernel
theorem dX12_type_43 : decode cX12_type 43 = .ok (.dup, 1) := by decide +kernel
theorem dX12_type_44 : decode cX12_type 44 = .ok (.getfield 130, 3) := by decide +kernel
theorem dX12_type_47 : decode cX12_type 47 = .ok (.iconst 1, 1) := by decide +kernel
theorem dX12_type_48 : decode cX12_type 48 = .ok (.iadd, 1) := by decide +kernel
theorem dX12_type_49 : decode cX12_type 49 = .ok (.putfield 130, 3) := by decide +kernel
theorem dX12_type_52 : decode cX12_type 52 = .ok (.aload_n 0, 1) := by decide +kernel
theorem dX12_type_53 : decode cX12_type 53 = .ok (.getfield 130, 3) := by decide +kernel
theorem dX12_type_56 : decode cX12_type 56 = .ok (.ireturn, 1) := by decide +kernel
theorem dX12_clear_0 : decode cX12_clear 0 = .ok (.aload_n 0, 1) := by decide +kernel
theorem dX12_clear_1 : decode cX12_clear 1 = .ok (.getfield 130, 3) := by decide +kernel
theorem dX12_clear_4 : decode cX12_clear 4 = .ok (.istore_n 1, 1) := by decide +kernel
theorem dX12_clear_5 : decode cX12_clear 5 = .ok (.aload_n 0, 1) := by decide +kernel
theorem dX12_clear_6 : decode cX12_clear 6 = .ok (.iconst 0, 1) := by decide +kernel
theorem dX12_clear_7 : decode cX12_clear 7 = .ok (.putfield 130, 3) := by decide +kernel
theorem dX12_clear_10 : decode cX12_clear 10 = .ok (.iload_n 1, 1) := by decide +kernel
theorem dX12_clear_11 : decode cX12_clear 11 = .ok (.ireturn, 1) := by decide +kernel
theorem dX12_byteAt_0 : decode cX12_byteAt 0 = .ok (.iload_n 1, 1) := by decide +kernel
theorem dX12_byteAt_1 : decode cX12_byteAt 1 = .ok (.aload_n 0, 1) := by decide +kernel
theorem dX12_byteAt_2 : decode cX12_byteAt 2 = .ok (.getfield 130, 3) := by decide +kernel
theorem dX12_byteAt_5 : decode cX12_byteAt 5 = .ok (.if_icmp .ge 12, 3) := by decide +kernel
theorem dX12_byteAt_8 : decode cX12_byteAt 8 = .ok (.aload_n 0, 1) := by decide +kernel
theorem dX12_byteAt_9 : decode cX12_byteAt 9 = .ok (.getfield 20, 3) := by decide +kernel
theorem dX12_byteAt_12 : decode cX12_byteAt 12 = .ok (.iload_n 1, 1) := by decide +kernel
theorem dX12_byteAt_13 : decode cX12_byteAt 13 = .ok (.iaload, 1) := by decide +kernel
theorem dX12_byteAt_14 : decode cX12_byteAt 14 = .ok (.goto 4, 3) := by decide +kernel
theorem dX12_byteAt_17 : decode cX12_byteAt 17 = .ok (.iconst (-1), 1) := by decide +kernel
theorem dX12_byteAt_18 : decode cX12_byteAt 18 = .ok (.ireturn, 1) := by decide +kernel
theorem dX12_nextToken_0 : decode cX12_nextToken 0 = .ok (.aload_n 0, 1) := by decide +kernel
theorem dX12_nextToken_1 : decode cX12_nextToken 1 = .ok (.aload_n 0, 1) := by decide +kernel
theorem dX12_nextToken_2 : decode cX12_nextToken 2 = .ok (.getfield 133, 3) := by decide +kernel
theorem dX12_nextToken_5 : decode cX12_nextToken 5 = .ok (.invokevirtual 136, 3) := by decide +kernel
theorem dX12_nextToken_8 : decode cX12_nextToken 8 = .ok (.bipush 32, 2) := by decide +kernel
theorem dX12_nextToken_10 : decode cX12_nextToken 10 = .ok (.if_icmp .ne 16, 3) := by decide +kernel
theorem dX12_nextToken_13 : decode cX12_nextToken 13 = .ok (.aload_n 0, 1) := by decide +kernel
theorem dX12_nextToken_14 : decode cX12_nextToken 14 = .ok (.dup, 1) := by decide +kernel
theorem dX12_nextToken_15 : decode cX12_nextToken 15 = .ok (.getfield 133, 3) := by decide +kernel
theorem dX12_nextToken_18 : decode cX12_nextToken 18 = .ok (.iconst 1, 1) := by decide +kernel
theorem dX12_nextToken_19 : decode cX12_nextToken 19 = .ok (.iadd, 1) := by decide +kernel
theorem dX12_nextToken_20 : decode cX12_nextToken 20 = .ok (.putfield 133, 3) := by decide +kernel
theorem dX12_nextToken_23 : decode cX12_nextToken 23 = .ok (.goto (-23), 3) := by decide +kernel
theorem dX12_nextToken_26 : decode cX12_nextToken 26 = .ok (.aload_n 0, 1) := by decide +kernel
theorem dX12_nextToken_27 : decode cX12_nextToken 27 = .ok (.aload_n 0, 1) := by decide +kernel
theorem dX12_nextToken_28 : decode cX12_nextToken 28 = .ok (.getfield 133, 3) := by decide +kernel
theorem dX12_nextToken_31 : decode cX12_nextToken 31 = .ok (.putfield 139, 3) := by decide +kernel
theorem dX12_nextToken_34 : decode cX12_nextToken 34 = .ok (.aload_n 0, 1) := by decide +kernel
theorem dX12_nextToken_35 : decode cX12_nextToken 35 = .ok (.iconst 0, 1) := by decide +kernel
theorem dX12_nextToken_36 : decode cX12_nextToken 36 = .ok (.putfield 142, 3) := by decide +kernel
theorem dX12_nextToken_39 : decode cX12_nextToken 39 = .ok (.aload_n 0, 1) := by decide +kernel
theorem dX12_nextToken_40 : decode cX12_nextToken 40 = .ok (.aload_n 0, 1) := by decide +kernel
theorem dX12_nextToken_41 : decode cX12_nextToken 41 = .ok (.getfield 133, 3) := by decide +kernel
theorem dX12_nextToken_44 : decode cX12_nextToken 44 = .ok (.aload_n 0, 1) := by decide +kernel
theorem dX12_nextToken_45 : decode cX12_nextToken 45 = .ok (.getfield 130, 3) := by decide +kernel
theorem dX12_nextToken_48 : decode cX12_nextToken 48 = .ok (.if_icmp .ne 7, 3) := by decide +kernel
theorem dX12_nextToken_51 : decode cX12_nextToken 51 = .ok (.iconst 3, 1) := by decide +kernel
theorem dX12_nextToken_52 : decode cX12_nextToken 52 = .ok (.goto 4, 3) := by decide +kernel
theorem dX12_nextToken_55 : decode cX12_nextToken 55 = .ok (.iconst 0, 1) := by decide +kernel
theorem dX12_nextToken_56 : decode cX12_nextToken 56 = .ok (.putfield 145, 3) := by decide +kernel
theorem dX12_nextToken_59 : decode cX12_nextToken 59 = .ok (.aload_n 0, 1) := by decide +kernel
theorem dX12_nextToken_60 : decode cX12_nextToken 60 = .ok (.aload_n 0, 1) := by decide +kernel
theorem dX12_nextToken_61 : decode cX12_nextToken 61 = .ok (.getfield 133, 3) := by decide +kernel
theorem dX12_nextToken_64 : decode cX12_nextToken 64 = .ok (.invokevirtual 136, 3) := by decide +kernel
theorem dX12_nextToken_67 : decode cX12_nextToken 67 = .ok (.i2l, 1) := by decide +kernel
theorem dX12_nextToken_68 : decode cX12_nextToken 68 = .ok (.ldc2_w 148, 3) := by decide +kernel
theorem dX12_nextToken_71 : decode cX12_nextToken 71 = .ok (.ldc2_w 150, 3) := by decide +kernel
theorem dX12_nextToken_74 : decode cX12_nextToken 74 = .ok (.invokestatic 75, 3) := by decide +kernel
theorem dX12_nextToken_77 : decode cX12_nextToken 77 = .ok (.ifCond .eq 29, 3) := by decide +kernel
theorem dX12_nextToken_80 : decode cX12_nextToken 80 = .ok (.aload_n 0, 1) := by decide +kernel
theorem dX12_nextToken_81 : decode cX12_nextToken 81 = .ok (.getfield 145, 3) := by decide +kernel
theorem dX12_nextToken_84 : decode cX12_nextToken 84 = .ok (.iconst 2, 1) := by decide +kernel
theorem dX12_nextToken_85 : decode cX12_nextToken 85 = .ok (.if_icmp .ge 21, 3) := by decide +kernel
theorem dX12_nextToken_88 : decode cX12_nextToken 88 = .ok (.aload_n 0, 1) := by decide +kernel
theorem dX12_nextToken_89 : decode cX12_nextToken 89 = .ok (.iconst 1, 1) := by decide +kernel
theorem dX12_nextToken_90 : decode cX12_nextToken 90 = .ok (.putfield 145, 3) := by decide +kernel
theorem dX12_nextToken_93 : decode cX12_nextToken 93 = .ok (.aload_n 0, 1) := by decide +kernel
theorem dX12_nextToken_94 : decode cX12_nextToken 94 = .ok (.dup, 1) := by decide +kernel
theorem dX12_nextToken_95 : decode cX12_nextToken 95 = .ok (.getfield 133, 3) := by decide +kernel
theorem dX12_nextToken_98 : decode cX12_nextToken 98 = .ok (.iconst 1, 1) := by decide +kernel
theorem dX12_nextToken_99 : decode cX12_nextToken 99 = .ok (.iadd, 1) := by decide +kernel
theorem dX12_nextToken_100 : decode cX12_nextToken 100 = .ok (.putfield 133, 3) := by decide +kernel
theorem dX12_nextToken_103 : decode cX12_nextToken 103 = .ok (.goto (-44), 3) := by decide +kernel
theorem dX12_nextToken_106 : decode cX12_nextToken 106 = .ok (.aload_n 0, 1) := by decide +kernel
theorem dX12_nextToken_107 : decode cX12_nextToken 107 = .ok (.aload_n 0, 1) := by decide +kernel
theorem dX12_nextToken_108 : decode cX12_nextToken 108 = .ok (.getfield 133, 3) := by decide +kernel
theorem dX12_nextToken_111 : decode cX12_nextToken 111 = .ok (.invokevirtual 136, 3) := by decide +kernel
theorem dX12_nextToken_114 : decode cX12_nextToken 114 = .ok (.i2l, 1) := by decide +kernel
theorem dX12_nextToken_115 : decode cX12_nextToken 115 = .ok (.ldc2_w 152, 3) := by decide +kernel
theorem dX12_nextToken_118 : decode cX12_nextToken 118 = .ok (.ldc2_w 154, 3) := by decide +kernel
theorem dX12_nextToken_121 : decode cX12_nextToken 121 = .ok (.invokestatic 75, 3) := by decide +kernel
theorem dX12_nextToken_124 : decode cX12_nextToken 124 = .ok (.ifCond .eq 69, 3) := by decide +kernel
theorem dX12_nextToken_127 : decode cX12_nextToken 127 = .ok (.aload_n 0, 1) := by decide +kernel
theorem dX12_nextToken_128 : decode cX12_nextToken 128 = .ok (.getfield 145, 3) := by decide +kernel
theorem dX12_nextToken_131 : decode cX12_nextToken 131 = .ok (.iconst 1, 1) := by decide +kernel
theorem dX12_nextToken_132 : decode cX12_nextToken 132 = .ok (.if_icmp .eq 61, 3) := by decide +kernel
theorem dX12_nextToken_135 : decode cX12_nextToken 135 = .ok (.aload_n 0, 1) := by decide +kernel
theorem dX12_nextToken_136 : decode cX12_nextToken 136 = .ok (.iconst 2, 1) := by decide +kernel
theorem dX12_nextToken_137 : decode cX12_nextToken 137 = .ok (.putfield 145, 3) := by decide +kernel
theorem dX12_nextToken_140 : decode cX12_nextToken 140 = .ok (.aload_n 0, 1) := by decide +kernel
theorem dX12_nextToken_141 : decode cX12_nextToken 141 = .ok (.aload_n 0, 1) := by decide +kernel
theorem dX12_nextToken_142 : decode cX12_nextToken 142 = .ok (.getfield 142, 3) := by decide +kernel
theorem dX12_nextToken_145 : decode cX12_nextToken 145 = .ok (.bipush 99, 2) := by decide +kernel
theorem dX12_nextToken_147 : decode cX12_nextToken 147 = .ok (.if_icmp .le 10, 3) := by decide +kernel
theorem dX12_nextToken_150 : decode cX12_nextToken 150 = .ok (.aload_n 0, 1) := by decide +kernel
theorem dX12_nextToken_151 : decode cX12_nextToken 151 = .ok (.getfield 142, 3) := by decide +kernel
theorem dX12_nextToken_154 : decode cX12_nextToken 154 = .ok (.goto 23, 3) := by decide +kernel
theorem dX12_nextToken_157 : decode cX12_nextToken 157 = .ok (.bipush 10, 2) := by decide +kernel
theorem dX12_nextToken_159 : decode cX12_nextToken 159 = .ok (.aload_n 0, 1) := by decide +kernel
theorem dX12_nextToken_160 : decode cX12_nextToken 160 = .ok (.getfield 142, 3) := by decide +kernel
theorem dX12_nextToken_163 : decode cX12_nextToken 163 = .ok (.imul, 1) := by decide +kernel
theorem dX12_nextToken_164 : decode cX12_nextToken 164 = .ok (.aload_n 0, 1) := by decide +kernel
theorem dX12_nextToken_165 : decode cX12_nextToken 165 = .ok (.getfield 20, 3) := by decide +kernel
theorem dX12_nextToken_168 : decode cX12_nextToken 168 = .ok (.aload_n 0, 1) := by decide +kernel
theorem dX12_nextToken_169 : decode cX12_nextToken 169 = .ok (.getfield 133, 3) := by decide +kernel
theorem dX12_nextToken_172 : decode cX12_nextToken 172 = .ok (.iaload, 1) := by decide +kernel
theorem dX12_nextToken_173 : decode cX12_nextToken 173 = .ok (.iadd, 1) := by decide +kernel
theorem dX12_nextToken_174 : decode cX12_nextToken 174 = .ok (.bipush 48, 2) := by decide +kernel
theorem dX12_nextToken_176 : decode cX12_nextToken 176 = .ok (.isub, 1) := by decide +kernel
theorem dX12_nextToken_177 : decode cX12_nextToken 177 = .ok (.putfield 142, 3) := by decide +kernel
theorem dX12_nextToken_180 : decode cX12_nextToken 180 = .ok (.aload_n 0, 1) := by decide +kernel
theorem dX12_nextToken_181 : decode cX12_nextToken 181 = .ok (.dup, 1) := by decide +kernel
theorem dX12_nextToken_182 : decode cX12_nextToken 182 = .ok (.getfield 133, 3) := by decide +kernel
theorem dX12_nextToken_185 : decode cX12_nextToken 185 = .ok (.iconst 1, 1) := by decide +kernel
theorem dX12_nextToken_186 : decode cX12_nextToken 186 = .ok (.iadd, 1) := by decide +kernel
theorem dX12_nextToken_187 : decode cX12_nextToken 187 = .ok (.putfield 133, 3) := by decide +kernel
theorem dX12_nextToken_190 : decode cX12_nextToken 190 = .ok (.goto (-84), 3) := by decide +kernel
theorem dX12_nextToken_193 : decode cX12_nextToken 193 = .ok (.aload_n 0, 1) := by decide +kernel
theorem dX12_nextToken_194 : decode cX12_nextToken 194 = .ok (.getfield 145, 3) := by decide +kernel
theorem dX12_nextToken_197 : decode cX12_nextToken 197 = .ok (.iconst 2, 1) := by decide +kernel
theorem dX12_nextToken_198 : decode cX12_nextToken 198 = .ok (.if_icmp .ne 24, 3) := by decide +kernel
theorem dX12_nextToken_201 : decode cX12_nextToken 201 = .ok (.aload_n 0, 1) := by decide +kernel
theorem dX12_nextToken_202 : decode cX12_nextToken 202 = .ok (.getfield 133, 3) := by decide +kernel
theorem dX12_nextToken_205 : decode cX12_nextToken 205 = .ok (.aload_n 0, 1) := by decide +kernel
theorem dX12_nextToken_206 : decode cX12_nextToken 206 = .ok (.getfield 139, 3) := by decide +kernel
theorem dX12_nextToken_209 : decode cX12_nextToken 209 = .ok (.isub, 1) := by decide +kernel
theorem dX12_nextToken_210 : decode cX12_nextToken 210 = .ok (.iconst 2, 1) := by decide +kernel
theorem dX12_nextToken_211 : decode cX12_nextToken 211 = .ok (.if_icmp .le 11, 3) := by decide +kernel
theorem dX12_nextToken_214 : decode cX12_nextToken 214 = .ok (.aload_n 0, 1) := by decide +kernel
theorem dX12_nextToken_215 : decode cX12_nextToken 215 = .ok (.iconst 0, 1) := by decide +kernel
theorem dX12_nextToken_216 : decode cX12_nextToken 216 = .ok (.putfield 145, 3) := by decide +kernel
theorem dX12_nextToken_219 : decode cX12_nextToken 219 = .ok (.goto 42, 3) := by decide +kernel
theorem dX12_nextToken_222 : decode cX12_nextToken 222 = .ok (.aload_n 0, 1) := by decide +kernel
theorem dX12_nextToken_223 : decode cX12_nextToken 223 = .ok (.getfield 145, 3) := by decide +kernel
theorem dX12_nextToken_226 : decode cX12_nextToken 226 = .ok (.ifCond .ne 35, 3) := by decide +kernel
theorem dX12_nextToken_229 : decode cX12_nextToken 229 = .ok (.aload_n 0, 1) := by decide +kernel
theorem dX12_nextToken_230 : decode cX12_nextToken 230 = .ok (.aload_n 0, 1) := by decide +kernel
theorem dX12_nextToken_231 : decode cX12_nextToken 231 = .ok (.aload_n 0, 1) := by decide +kernel
theorem dX12_nextToken_232 : decode cX12_nextToken 232 = .ok (.getfield 133, 3) := by decide +kernel
theorem dX12_nextToken_235 : decode cX12_nextToken 235 = .ok (.invokevirtual 136, 3) := by decide +kernel
theorem dX12_nextToken_238 : decode cX12_nextToken 238 = .ok (.bipush 59, 2) := by decide +kernel
theorem dX12_nextToken_240 : decode cX12_nextToken 240 = .ok (.if_icmp .ne 7, 3) := by decide +kernel
theorem dX12_nextToken_243 : decode cX12_nextToken 243 = .ok (.iconst 4, 1) := by decide +kernel
theorem dX12_nextToken_244 : decode cX12_nextToken 244 = .ok (.goto 4, 3) := by decide +kernel
theorem dX12_nextToken_247 : decode cX12_nextToken 247 = .ok (.iconst 0, 1) := by decide +kernel
theorem dX12_nextToken_248 : decode cX12_nextToken 248 = .ok (.putfield 145, 3) := by decide +kernel
theorem dX12_nextToken_251 : decode cX12_nextToken 251 = .ok (.aload_n 0, 1) := by decide +kernel
theorem dX12_nextToken_252 : decode cX12_nextToken 252 = .ok (.dup, 1) := by decide +kernel
theorem dX12_nextToken_253 : decode cX12_nextToken 253 = .ok (.getfield 133, 3) := by decide +kernel
theorem dX12_nextToken_256 : decode cX12_nextToken 256 = .ok (.iconst 1, 1) := by decide +kernel
theorem dX12_nextToken_257 : decode cX12_nextToken 257 = .ok (.iadd, 1) := by decide +kernel
theorem dX12_nextToken_258 : decode cX12_nextToken 258 = .ok (.putfield 133, 3) := by decide +kernel
theorem dX12_nextToken_261 : decode cX12_nextToken 261 = .ok (.return_, 1) := by decide +kernel
theorem dX12_isWord_0 : decode cX12_isWord 0 = .ok (.aload_n 0, 1) := by decide +kernel
theorem dX12_isWord_1 : decode cX12_isWord 1 = .ok (.getfield 145, 3) := by decide +kernel
theorem dX12_isWord_4 : decode cX12_isWord 4 = .ok (.iconst 1, 1) := by decide +kernel
theorem dX12_isWord_5 : decode cX12_isWord 5 = .ok (.if_icmp .ne 17, 3) := by decide +kernel
theorem dX12_isWord_8 : decode cX12_isWord 8 = .ok (.aload_n 0, 1) := by decide +kernel
theorem dX12_isWord_9 : decode cX12_isWord 9 = .ok (.getfield 133, 3) := by decide +kernel
theorem dX12_isWord_12 : decode cX12_isWord 12 = .ok (.aload_n 0, 1) := by decide +kernel
theorem dX12_isWord_13 : decode cX12_isWord 13 = .ok (.getfield 139, 3) := by decide +kernel
theorem dX12_isWord_16 : decode cX12_isWord 16 = .ok (.isub, 1) := by decide +kernel
theorem dX12_isWord_17 : decode cX12_isWord 17 = .ok (.bipush 7, 2) := by decide +kernel
theorem dX12_isWord_19 : decode cX12_isWord 19 = .ok (.if_icmp .le 5, 3) := by decide +kernel
theorem dX12_isWord_22 : decode cX12_isWord 22 = .ok (.iconst 0, 1) := by decide +kernel
theorem dX12_isWord_23 : decode cX12_isWord 23 = .ok (.ireturn, 1) := by decide +kernel
theorem dX12_isWord_24 : decode cX12_isWord 24 = .ok (.lconst 0, 1) := by decide +kernel
theorem dX12_isWord_25 : decode cX12_isWord 25 = .ok (.lstore_n 3, 1) := by decide +kernel
theorem dX12_isWord_26 : decode cX12_isWord 26 = .ok (.aload_n 0, 1) := by decide +kernel
theorem dX12_isWord_27 : decode cX12_isWord 27 = .ok (.getfield 139, 3) := by decide +kernel
theorem dX12_isWord_30 : decode cX12_isWord 30 = .ok (.istore 5, 2) := by decide +kernel
theorem dX12_isWord_32 : decode cX12_isWord 32 = .ok (.iload 5, 2) := by decide +kernel
theorem dX12_isWord_34 : decode cX12_isWord 34 = .ok (.aload_n 0, 1) := by decide +kernel
theorem dX12_isWord_35 : decode cX12_isWord 35 = .ok (.getfield 133, 3) := by decide +kernel
theorem dX12_isWord_38 : decode cX12_isWord 38 = .ok (.if_icmp .ge 30, 3) := by decide +kernel
theorem dX12_isWord_41 : decode cX12_isWord 41 = .ok (.ldc2_w 156, 3) := by decide +kernel
theorem dX12_isWord_44 : decode cX12_isWord 44 = .ok (.lload_n 3, 1) := by decide +kernel
theorem dX12_isWord_45 : decode cX12_isWord 45 = .ok (.lmul, 1) := by decide +kernel
theorem dX12_isWord_46 : decode cX12_isWord 46 = .ok (.aload_n 0, 1) := by decide +kernel
theorem dX12_isWord_47 : decode cX12_isWord 47 = .ok (.getfield 20, 3) := by decide +kernel
theorem dX12_isWord_50 : decode cX12_isWord 50 = .ok (.iload 5, 2) := by decide +kernel
theorem dX12_isWord_52 : decode cX12_isWord 52 = .ok (.iaload, 1) := by decide +kernel
theorem dX12_isWord_53 : decode cX12_isWord 53 = .ok (.i2l, 1) := by decide +kernel
theorem dX12_isWord_54 : decode cX12_isWord 54 = .ok (.ladd, 1) := by decide +kernel
theorem dX12_isWord_55 : decode cX12_isWord 55 = .ok (.ldc2_w 148, 3) := by decide +kernel
theorem dX12_isWord_58 : decode cX12_isWord 58 = .ok (.lsub, 1) := by decide +kernel
theorem dX12_isWord_59 : decode cX12_isWord 59 = .ok (.lconst 1, 1) := by decide +kernel
theorem dX12_isWord_60 : decode cX12_isWord 60 = .ok (.ladd, 1) := by decide +kernel
theorem dX12_isWord_61 : decode cX12_isWord 61 = .ok (.lstore_n 3, 1) := by decide +kernel
theorem dX12_isWord_62 : decode cX12_isWord 62 = .ok (.iinc 5 1, 3) := by decide +kernel
theorem dX12_isWord_65 : decode cX12_isWord 65 = .ok (.goto (-33), 3) := by decide +kernel
theorem dX12_isWord_68 : decode cX12_isWord 68 = .ok (.lload_n 3, 1) := by decide +kernel
theorem dX12_isWord_69 : decode cX12_isWord 69 = .ok (.lload_n 1, 1) := by decide +kernel
theorem dX12_isWord_70 : decode cX12_isWord 70 = .ok (.lcmp, 1) := by decide +kernel
theorem dX12_isWord_71 : decode cX12_isWord 71 = .ok (.ifCond .ne 7, 3) := by decide +kernel
theorem dX12_isWord_74 : decode cX12_isWord 74 = .ok (.iconst 1, 1) := by decide +kernel
theorem dX12_isWord_75 : decode cX12_isWord 75 = .ok (.goto 4, 3) := by decide +kernel
theorem dX12_isWord_78 : decode cX12_isWord 78 = .ok (.iconst 0, 1) := by decide +kernel
theorem dX12_isWord_79 : decode cX12_isWord 79 = .ok (.ireturn, 1) := by decide +kernel
theorem dX12_spelt_0 : decode cX12_spelt 0 = .ok (.lconst 0, 1) := by decide +kernel
theorem dX12_spelt_1 : decode cX12_spelt 1 = .ok (.lstore 7, 2) := by decide +kernel
theorem dX12_spelt_3 : decode cX12_spelt 3 = .ok (.ldc2_w 156, 3) := by decide +kernel
theorem dX12_spelt_6 : decode cX12_spelt 6 = .ok (.ldc2_w 156, 3) := by decide +kernel
theorem dX12_spelt_9 : decode cX12_spelt 9 = .ok (.ldc2_w 156, 3) := by decide +kernel
theorem dX12_spelt_12 : decode cX12_spelt 12 = .ok (.ldc2_w 156, 3) := by decide +kernel
theorem dX12_spelt_15 : decode cX12_spelt 15 = .ok (.iload_n 0, 1) := by decide +kernel
theorem dX12_spelt_16 : decode cX12_spelt 16 = .ok (.bipush 96, 2) := by decide +kernel
theorem dX12_spelt_18 : decode cX12_spelt 18 = .ok (.isub, 1) := by decide +kernel
theorem dX12_spelt_19 : decode cX12_spelt 19 = .ok (.i2l, 1) := by decide +kernel
theorem dX12_spelt_20 : decode cX12_spelt 20 = .ok (.lmul, 1) := by decide +kernel
theorem dX12_spelt_21 : decode cX12_spelt 21 = .ok (.iload_n 1, 1) := by decide +kernel
theorem dX12_spelt_22 : decode cX12_spelt 22 = .ok (.i2l, 1) := by decide +kernel
theorem dX12_spelt_23 : decode cX12_spelt 23 = .ok (.ladd, 1) := by decide +kernel
theorem dX12_spelt_24 : decode cX12_spelt 24 = .ok (.ldc2_w 158, 3) := by decide +kernel
theorem dX12_spelt_27 : decode cX12_spelt 27 = .ok (.lsub, 1) := by decide +kernel
theorem dX12_spelt_28 : decode cX12_spelt 28 = .ok (.lmul, 1) := by decide +kernel
theorem dX12_spelt_29 : decode cX12_spelt 29 = .ok (.iload_n 2, 1) := by decide +kernel
theorem dX12_spelt_30 : decode cX12_spelt 30 = .ok (.i2l, 1) := by decide +kernel
theorem dX12_spelt_31 : decode cX12_spelt 31 = .ok (.ladd, 1) := by decide +kernel
theorem dX12_spelt_32 : decode cX12_spelt 32 = .ok (.ldc2_w 158, 3) := by decide +kernel
theorem dX12_spelt_35 : decode cX12_spelt 35 = .ok (.lsub, 1) := by decide +kernel
theorem dX12_spelt_36 : decode cX12_spelt 36 = .ok (.lmul, 1) := by decide +kernel
theorem dX12_spelt_37 : decode cX12_spelt 37 = .ok (.iload_n 3, 1) := by decide +kernel
theorem dX12_spelt_38 : decode cX12_spelt 38 = .ok (.i2l, 1) := by decide +kernel
theorem dX12_spelt_39 : decode cX12_spelt 39 = .ok (.ladd, 1) := by decide +kernel
theorem dX12_spelt_40 : decode cX12_spelt 40 = .ok (.ldc2_w 158, 3) := by decide +kernel
theorem dX12_spelt_43 : decode cX12_spelt 43 = .ok (.lsub, 1) := by decide +kernel
theorem dX12_spelt_44 : decode cX12_spelt 44 = .ok (.lmul, 1) := by decide +kernel
theorem dX12_spelt_45 : decode cX12_spelt 45 = .ok (.iload 4, 2) := by decide +kernel
theorem dX12_spelt_47 : decode cX12_spelt 47 = .ok (.i2l, 1) := by decide +kernel
theorem dX12_spelt_48 : decode cX12_spelt 48 = .ok (.ladd, 1) := by decide +kernel
theorem dX12_spelt_49 : decode cX12_spelt 49 = .ok (.ldc2_w 158, 3) := by decide +kernel
theorem dX12_spelt_52 : decode cX12_spelt 52 = .ok (.lsub, 1) := by decide +kernel
theorem dX12_spelt_53 : decode cX12_spelt 53 = .ok (.lstore 7, 2) := by decide +kernel
theorem dX12_spelt_55 : decode cX12_spelt 55 = .ok (.iload 5, 2) := by decide +kernel
theorem dX12_spelt_57 : decode cX12_spelt 57 = .ok (.ifCond .ne 8, 3) := by decide +kernel
theorem dX12_spelt_60 : decode cX12_spelt 60 = .ok (.lload 7, 2) := by decide +kernel
theorem dX12_spelt_62 : decode cX12_spelt 62 = .ok (.goto 29, 3) := by decide +kernel
theorem dX12_spelt_65 : decode cX12_spelt 65 = .ok (.ldc2_w 156, 3) := by decide +kernel
theorem dX12_spelt_68 : decode cX12_spelt 68 = .ok (.ldc2_w 156, 3) := by decide +kernel
theorem dX12_spelt_71 : decode cX12_spelt 71 = .ok (.lload 7, 2) := by decide +kernel
theorem dX12_spelt_73 : decode cX12_spelt 73 = .ok (.lmul, 1) := by decide +kernel
theorem dX12_spelt_74 : decode cX12_spelt 74 = .ok (.iload 5, 2) := by decide +kernel
theorem dX12_spelt_76 : decode cX12_spelt 76 = .ok (.i2l, 1) := by decide +kernel
theorem dX12_spelt_77 : decode cX12_spelt 77 = .ok (.ladd, 1) := by decide +kernel
theorem dX12_spelt_78 : decode cX12_spelt 78 = .ok (.ldc2_w 158, 3) := by decide +kernel
theorem dX12_spelt_81 : decode cX12_spelt 81 = .ok (.lsub, 1) := by decide +kernel
theorem dX12_spelt_82 : decode cX12_spelt 82 = .ok (.lmul, 1) := by decide +kernel
theorem dX12_spelt_83 : decode cX12_spelt 83 = .ok (.iload 6, 2) := by decide +kernel
theorem dX12_spelt_85 : decode cX12_spelt 85 = .ok (.i2l, 1) := by decide +kernel
theorem dX12_spelt_86 : decode cX12_spelt 86 = .ok (.ladd, 1) := by decide +kernel
theorem dX12_spelt_87 : decode cX12_spelt 87 = .ok (.ldc2_w 158, 3) := by decide +kernel
theorem dX12_spelt_90 : decode cX12_spelt 90 = .ok (.lsub, 1) := by decide +kernel
theorem dX12_spelt_91 : decode cX12_spelt 91 = .ok (.lreturn, 1) := by decide +kernel
theorem dX12_reads_0 : decode cX12_reads 0 = .ok (.aload_n 0, 1) := by decide +kernel
theorem dX12_reads_1 : decode cX12_reads 1 = .ok (.invokevirtual 160, 3) := by decide +kernel
theorem dX12_reads_4 : decode cX12_reads 4 = .ok (.aload_n 0, 1) := by decide +kernel
theorem dX12_reads_5 : decode cX12_reads 5 = .ok (.getfield 23, 3) := by decide +kernel
theorem dX12_reads_8 : decode cX12_reads 8 = .ok (.iload_n 1, 1) := by decide +kernel
theorem dX12_reads_9 : decode cX12_reads 9 = .ok (.aload_n 0, 1) := by decide +kernel
theorem dX12_reads_10 : decode cX12_reads 10 = .ok (.getfield 142, 3) := by decide +kernel
theorem dX12_reads_13 : decode cX12_reads 13 = .ok (.iastore, 1) := by decide +kernel
theorem dX12_reads_14 : decode cX12_reads 14 = .ok (.aload_n 0, 1) := by decide +kernel
theorem dX12_reads_15 : decode cX12_reads 15 = .ok (.getfield 145, 3) := by decide +kernel
theorem dX12_reads_18 : decode cX12_reads 18 = .ok (.iconst 2, 1) := by decide +kernel
theorem dX12_reads_19 : decode cX12_reads 19 = .ok (.if_icmp .ne 15, 3) := by decide +kernel
theorem dX12_reads_22 : decode cX12_reads 22 = .ok (.aload_n 0, 1) := by decide +kernel
theorem dX12_reads_23 : decode cX12_reads 23 = .ok (.getfield 142, 3) := by decide +kernel
theorem dX12_reads_26 : decode cX12_reads 26 = .ok (.iload_n 2, 1) := by decide +kernel
theorem dX12_reads_27 : decode cX12_reads 27 = .ok (.if_icmp .gt 7, 3) := by decide +kernel
theorem dX12_reads_30 : decode cX12_reads 30 = .ok (.iconst 1, 1) := by decide +kernel
theorem dX12_reads_31 : decode cX12_reads 31 = .ok (.goto 4, 3) := by decide +kernel
theorem dX12_reads_34 : decode cX12_reads 34 = .ok (.iconst 0, 1) := by decide +kernel
theorem dX12_reads_35 : decode cX12_reads 35 = .ok (.ireturn, 1) := by decide +kernel
theorem dX12_ends_0 : decode cX12_ends 0 = .ok (.aload_n 0, 1) := by decide +kernel
theorem dX12_ends_1 : decode cX12_ends 1 = .ok (.invokevirtual 160, 3) := by decide +kernel
theorem dX12_ends_4 : decode cX12_ends 4 = .ok (.aload_n 0, 1) := by decide +kernel
theorem dX12_ends_5 : decode cX12_ends 5 = .ok (.getfield 145, 3) := by decide +kernel
theorem dX12_ends_8 : decode cX12_ends 8 = .ok (.iconst 4, 1) := by decide +kernel
theorem dX12_ends_9 : decode cX12_ends 9 = .ok (.if_icmp .ne 7, 3) := by decide +kernel
theorem dX12_ends_12 : decode cX12_ends 12 = .ok (.iconst 1, 1) := by decide +kernel
theorem dX12_ends_13 : decode cX12_ends 13 = .ok (.goto 4, 3) := by decide +kernel
theorem dX12_ends_16 : decode cX12_ends 16 = .ok (.iconst 0, 1) := by decide +kernel
theorem dX12_ends_17 : decode cX12_ends 17 = .ok (.ireturn, 1) := by decide +kernel
theorem dX12_readOwners_0 : decode cX12_readOwners 0 = .ok (.aload_n 0, 1) := by decide +kernel
theorem dX12_readOwners_1 : decode cX12_readOwners 1 = .ok (.iconst 0, 1) := by decide +kernel
theorem dX12_readOwners_2 : decode cX12_readOwners 2 = .ok (.putfield 163, 3) := by decide +kernel
theorem dX12_readOwners_5 : decode cX12_readOwners 5 = .ok (.aload_n 0, 1) := by decide +kernel
theorem dX12_readOwners_6 : decode cX12_readOwners 6 = .ok (.invokevirtual 160, 3) := by decide +kernel
theorem dX12_readOwners_9 : decode cX12_readOwners 9 = .ok (.aload_n 0, 1) := by decide +kernel
theorem dX12_readOwners_10 : decode cX12_readOwners 10 = .ok (.getfield 145, 3) := by decide +kernel
theorem dX12_readOwners_13 : decode cX12_readOwners 13 = .ok (.iconst 2, 1) := by decide +kernel
theorem dX12_readOwners_14 : decode cX12_readOwners 14 = .ok (.if_icmp .ne 74, 3) := by decide +kernel
theorem dX12_readOwners_17 : decode cX12_readOwners 17 = .ok (.aload_n 0, 1) := by decide +kernel
theorem dX12_readOwners_18 : decode cX12_readOwners 18 = .ok (.getfield 142, 3) := by decide +kernel
theorem dX12_readOwners_21 : decode cX12_readOwners 21 = .ok (.iconst 3, 1) := by decide +kernel
theorem dX12_readOwners_22 : decode cX12_readOwners 22 = .ok (.if_icmp .ge 66, 3) := by decide +kernel
theorem dX12_readOwners_25 : decode cX12_readOwners 25 = .ok (.aload_n 0, 1) := by decide +kernel
theorem dX12_readOwners_26 : decode cX12_readOwners 26 = .ok (.getfield 163, 3) := by decide +kernel
theorem dX12_readOwners_29 : decode cX12_readOwners 29 = .ok (.iconst 4, 1) := by decide +kernel
theorem dX12_readOwners_30 : decode cX12_readOwners 30 = .ok (.if_icmp .ge 58, 3) := by decide +kernel
theorem dX12_readOwners_33 : decode cX12_readOwners 33 = .ok (.aload_n 0, 1) := by decide +kernel
theorem dX12_readOwners_34 : decode cX12_readOwners 34 = .ok (.getfield 163, 3) := by decide +kernel
theorem dX12_readOwners_37 : decode cX12_readOwners 37 = .ok (.ifCond .eq 19, 3) := by decide +kernel
theorem dX12_readOwners_40 : decode cX12_readOwners 40 = .ok (.aload_n 0, 1) := by decide +kernel
theorem dX12_readOwners_41 : decode cX12_readOwners 41 = .ok (.getfield 23, 3) := by decide +kernel
theorem dX12_readOwners_44 : decode cX12_readOwners 44 = .ok (.aload_n 0, 1) := by decide +kernel
theorem dX12_readOwners_45 : decode cX12_readOwners 45 = .ok (.getfield 163, 3) := by decide +kernel
theorem dX12_readOwners_48 : decode cX12_readOwners 48 = .ok (.iaload, 1) := by decide +kernel
theorem dX12_readOwners_49 : decode cX12_readOwners 49 = .ok (.aload_n 0, 1) := by decide +kernel
theorem dX12_readOwners_50 : decode cX12_readOwners 50 = .ok (.getfield 142, 3) := by decide +kernel
theorem dX12_readOwners_53 : decode cX12_readOwners 53 = .ok (.if_icmp .eq 35, 3) := by decide +kernel
theorem dX12_readOwners_56 : decode cX12_readOwners 56 = .ok (.aload_n 0, 1) := by decide +kernel
theorem dX12_readOwners_57 : decode cX12_readOwners 57 = .ok (.getfield 23, 3) := by decide +kernel
theorem dX12_readOwners_60 : decode cX12_readOwners 60 = .ok (.aload_n 0, 1) := by decide +kernel
theorem dX12_readOwners_61 : decode cX12_readOwners 61 = .ok (.getfield 163, 3) := by decide +kernel
theorem dX12_readOwners_64 : decode cX12_readOwners 64 = .ok (.iconst 1, 1) := by decide +kernel
theorem dX12_readOwners_65 : decode cX12_readOwners 65 = .ok (.iadd, 1) := by decide +kernel
theorem dX12_readOwners_66 : decode cX12_readOwners 66 = .ok (.aload_n 0, 1) := by decide +kernel
theorem dX12_readOwners_67 : decode cX12_readOwners 67 = .ok (.getfield 142, 3) := by decide +kernel
theorem dX12_readOwners_70 : decode cX12_readOwners 70 = .ok (.iastore, 1) := by decide +kernel
theorem dX12_readOwners_71 : decode cX12_readOwners 71 = .ok (.aload_n 0, 1) := by decide +kernel
theorem dX12_readOwners_72 : decode cX12_readOwners 72 = .ok (.dup, 1) := by decide +kernel
theorem dX12_readOwners_73 : decode cX12_readOwners 73 = .ok (.getfield 163, 3) := by decide +kernel
theorem dX12_readOwners_76 : decode cX12_readOwners 76 = .ok (.iconst 1, 1) := by decide +kernel
theorem dX12_readOwners_77 : decode cX12_readOwners 77 = .ok (.iadd, 1) := by decide +kernel
theorem dX12_readOwners_78 : decode cX12_readOwners 78 = .ok (.putfield 163, 3) := by decide +kernel
theorem dX12_readOwners_81 : decode cX12_readOwners 81 = .ok (.aload_n 0, 1) := by decide +kernel
theorem dX12_readOwners_82 : decode cX12_readOwners 82 = .ok (.invokevirtual 160, 3) := by decide +kernel
theorem dX12_readOwners_85 : decode cX12_readOwners 85 = .ok (.goto (-76), 3) := by decide +kernel
theorem dX12_readOwners_88 : decode cX12_readOwners 88 = .ok (.aload_n 0, 1) := by decide +kernel
theorem dX12_readOwners_89 : decode cX12_readOwners 89 = .ok (.getfield 145, 3) := by decide +kernel
theorem dX12_readOwners_92 : decode cX12_readOwners 92 = .ok (.iconst 4, 1) := by decide +kernel
theorem dX12_readOwners_93 : decode cX12_readOwners 93 = .ok (.if_icmp .ne 7, 3) := by decide +kernel
theorem dX12_readOwners_96 : decode cX12_readOwners 96 = .ok (.iconst 1, 1) := by decide +kernel
theorem dX12_readOwners_97 : decode cX12_readOwners 97 = .ok (.goto 4, 3) := by decide +kernel
theorem dX12_readOwners_100 : decode cX12_readOwners 100 = .ok (.iconst 0, 1) := by decide +kernel
theorem dX12_readOwners_101 : decode cX12_readOwners 101 = .ok (.ireturn, 1) := by decide +kernel
theorem dX12_readItem_0 : decode cX12_readItem 0 = .ok (.iload_n 1, 1) := by decide +kernel
theorem dX12_readItem_1 : decode cX12_readItem 1 = .ok (.ifCond .ne 40, 3) := by decide +kernel
theorem dX12_readItem_4 : decode cX12_readItem 4 = .ok (.aload_n 0, 1) := by decide +kernel
theorem dX12_readItem_5 : decode cX12_readItem 5 = .ok (.bipush 104, 2) := by decide +kernel
theorem dX12_readItem_7 : decode cX12_readItem 7 = .ok (.bipush 111, 2) := by decide +kernel
theorem dX12_readItem_9 : decode cX12_readItem 9 = .ok (.bipush 117, 2) := by decide +kernel
theorem dX12_readItem_11 : decode cX12_readItem 11 = .ok (.bipush 115, 2) := by decide +kernel
theorem dX12_readItem_13 : decode cX12_readItem 13 = .ok (.bipush 101, 2) := by decide +kernel
theorem dX12_readItem_15 : decode cX12_readItem 15 = .ok (.iconst 0, 1) := by decide +kernel
theorem dX12_readItem_16 : decode cX12_readItem 16 = .ok (.iconst 0, 1) := by decide +kernel
theorem dX12_readItem_17 : decode cX12_readItem 17 = .ok (.invokestatic 166, 3) := by decide +kernel
theorem dX12_readItem_20 : decode cX12_readItem 20 = .ok (.invokevirtual 170, 3) := by decide +kernel
theorem dX12_readItem_23 : decode cX12_readItem 23 = .ok (.ifCond .ne 5, 3) := by decide +kernel
theorem dX12_readItem_26 : decode cX12_readItem 26 = .ok (.iconst 0, 1) := by decide +kernel
theorem dX12_readItem_27 : decode cX12_readItem 27 = .ok (.ireturn, 1) := by decide +kernel
theorem dX12_readItem_28 : decode cX12_readItem 28 = .ok (.iload_n 2, 1) := by decide +kernel
theorem dX12_readItem_29 : decode cX12_readItem 29 = .ok (.ifCond .eq 7, 3) := by decide +kernel
theorem dX12_readItem_32 : decode cX12_readItem 32 = .ok (.aload_n 0, 1) := by decide +kernel
theorem dX12_readItem_33 : decode cX12_readItem 33 = .ok (.invokevirtual 70, 3) := by decide +kernel
theorem dX12_readItem_36 : decode cX12_readItem 36 = .ok (.aload_n 0, 1) := by decide +kernel
theorem dX12_readItem_37 : decode cX12_readItem 37 = .ok (.invokevirtual 174, 3) := by decide +kernel
theorem dX12_readItem_40 : decode cX12_readItem 40 = .ok (.ireturn, 1) := by decide +kernel
theorem dX12_readItem_41 : decode cX12_readItem 41 = .ok (.aload_n 0, 1) := by decide +kernel
theorem dX12_readItem_42 : decode cX12_readItem 42 = .ok (.bipush 115, 2) := by decide +kernel
theorem dX12_readItem_44 : decode cX12_readItem 44 = .ok (.bipush 116, 2) := by decide +kernel
theorem dX12_readItem_46 : decode cX12_readItem 46 = .ok (.bipush 97, 2) := by decide +kernel
theorem dX12_readItem_48 : decode cX12_readItem 48 = .ok (.bipush 105, 2) := by decide +kernel
theorem dX12_readItem_50 : decode cX12_readItem 50 = .ok (.bipush 114, 2) := by decide +kernel
theorem dX12_readItem_52 : decode cX12_readItem 52 = .ok (.iconst 0, 1) := by decide +kernel
theorem dX12_readItem_53 : decode cX12_readItem 53 = .ok (.iconst 0, 1) := by decide +kernel
theorem dX12_readItem_54 : decode cX12_readItem 54 = .ok (.invokestatic 166, 3) := by decide +kernel
theorem dX12_readItem_57 : decode cX12_readItem 57 = .ok (.invokevirtual 170, 3) := by decide +kernel
theorem dX12_readItem_60 : decode cX12_readItem 60 = .ok (.ifCond .eq 108, 3) := by decide +kernel
theorem dX12_readItem_63 : decode cX12_readItem 63 = .ok (.aload_n 0, 1) := by decide +kernel
theorem dX12_readItem_64 : decode cX12_readItem 64 = .ok (.iconst 0, 1) := by decide +kernel
theorem dX12_readItem_65 : decode cX12_readItem 65 = .ok (.bipush 7, 2) := by decide +kernel
theorem dX12_readItem_67 : decode cX12_readItem 67 = .ok (.invokevirtual 178, 3) := by decide +kernel
theorem dX12_readItem_70 : decode cX12_readItem 70 = .ok (.ifCond .eq 42, 3) := by decide +kernel
theorem dX12_readItem_73 : decode cX12_readItem 73 = .ok (.aload_n 0, 1) := by decide +kernel
theorem dX12_readItem_74 : decode cX12_readItem 74 = .ok (.iconst 1, 1) := by decide +kernel
theorem dX12_readItem_75 : decode cX12_readItem 75 = .ok (.bipush 7, 2) := by decide +kernel
theorem dX12_readItem_77 : decode cX12_readItem 77 = .ok (.invokevirtual 178, 3) := by decide +kernel
theorem dX12_readItem_80 : decode cX12_readItem 80 = .ok (.ifCond .eq 32, 3) := by decide +kernel
theorem dX12_readItem_83 : decode cX12_readItem 83 = .ok (.aload_n 0, 1) := by decide +kernel
theorem dX12_readItem_84 : decode cX12_readItem 84 = .ok (.getfield 23, 3) := by decide +kernel
theorem dX12_readItem_87 : decode cX12_readItem 87 = .ok (.iconst 0, 1) := by decide +kernel
theorem dX12_readItem_88 : decode cX12_readItem 88 = .ok (.iaload, 1) := by decide +kernel
theorem dX12_readItem_89 : decode cX12_readItem 89 = .ok (.aload_n 0, 1) := by decide +kernel
theorem dX12_readItem_90 : decode cX12_readItem 90 = .ok (.getfield 23, 3) := by decide +kernel
theorem dX12_readItem_93 : decode cX12_readItem 93 = .ok (.iconst 1, 1) := by decide +kernel
theorem dX12_readItem_94 : decode cX12_readItem 94 = .ok (.iaload, 1) := by decide +kernel
theorem dX12_readItem_95 : decode cX12_readItem 95 = .ok (.if_icmp .eq 17, 3) := by decide +kernel
theorem dX12_readItem_98 : decode cX12_readItem 98 = .ok (.aload_n 0, 1) := by decide +kernel
theorem dX12_readItem_99 : decode cX12_readItem 99 = .ok (.iconst 2, 1) := by decide +kernel
theorem dX12_readItem_100 : decode cX12_readItem 100 = .ok (.bipush 9, 2) := by decide +kernel
theorem dX12_readItem_102 : decode cX12_readItem 102 = .ok (.invokevirtual 178, 3) := by decide +kernel
theorem dX12_readItem_105 : decode cX12_readItem 105 = .ok (.ifCond .eq 7, 3) := by decide +kernel
theorem dX12_readItem_108 : decode cX12_readItem 108 = .ok (.iconst 1, 1) := by decide +kernel
theorem dX12_readItem_109 : decode cX12_readItem 109 = .ok (.goto 4, 3) := by decide +kernel
theorem dX12_readItem_112 : decode cX12_readItem 112 = .ok (.iconst 0, 1) := by decide +kernel
theorem dX12_readItem_113 : decode cX12_readItem 113 = .ok (.istore_n 3, 1) := by decide +kernel
theorem dX12_readItem_114 : decode cX12_readItem 114 = .ok (.iload_n 3, 1) := by decide +kernel
theorem dX12_readItem_115 : decode cX12_readItem 115 = .ok (.ifCond .eq 36, 3) := by decide +kernel
theorem dX12_readItem_118 : decode cX12_readItem 118 = .ok (.iload_n 2, 1) := by decide +kernel
theorem dX12_readItem_119 : decode cX12_readItem 119 = .ok (.ifCond .eq 32, 3) := by decide +kernel
theorem dX12_readItem_122 : decode cX12_readItem 122 = .ok (.aload_n 0, 1) := by decide +kernel
theorem dX12_readItem_123 : decode cX12_readItem 123 = .ok (.getfield 7, 3) := by decide +kernel
theorem dX12_readItem_126 : decode cX12_readItem 126 = .ok (.bipush 71, 2) := by decide +kernel
theorem dX12_readItem_128 : decode cX12_readItem 128 = .ok (.aload_n 0, 1) := by decide +kernel
theorem dX12_readItem_129 : decode cX12_readItem 129 = .ok (.getfield 23, 3) := by decide +kernel
theorem dX12_readItem_132 : decode cX12_readItem 132 = .ok (.iconst 0, 1) := by decide +kernel
theorem dX12_readItem_133 : decode cX12_readItem 133 = .ok (.iaload, 1) := by decide +kernel
theorem dX12_readItem_134 : decode cX12_readItem 134 = .ok (.aload_n 0, 1) := by decide +kernel
theorem dX12_readItem_135 : decode cX12_readItem 135 = .ok (.getfield 23, 3) := by decide +kernel
theorem dX12_readItem_138 : decode cX12_readItem 138 = .ok (.iconst 1, 1) := by decide +kernel
theorem dX12_readItem_139 : decode cX12_readItem 139 = .ok (.iaload, 1) := by decide +kernel
theorem dX12_readItem_140 : decode cX12_readItem 140 = .ok (.invokestatic 85, 3) := by decide +kernel
theorem dX12_readItem_143 : decode cX12_readItem 143 = .ok (.iadd, 1) := by decide +kernel
theorem dX12_readItem_144 : decode cX12_readItem 144 = .ok (.aload_n 0, 1) := by decide +kernel
theorem dX12_readItem_145 : decode cX12_readItem 145 = .ok (.getfield 23, 3) := by decide +kernel
theorem dX12_readItem_148 : decode cX12_readItem 148 = .ok (.iconst 2, 1) := by decide +kernel
theorem dX12_readItem_149 : decode cX12_readItem 149 = .ok (.iaload, 1) := by decide +kernel
theorem dX12_readItem_150 : decode cX12_readItem 150 = .ok (.iastore, 1) := by decide +kernel
theorem dX12_readItem_151 : decode cX12_readItem 151 = .ok (.iload_n 3, 1) := by decide +kernel
theorem dX12_readItem_152 : decode cX12_readItem 152 = .ok (.ifCond .eq 14, 3) := by decide +kernel
theorem dX12_readItem_155 : decode cX12_readItem 155 = .ok (.aload_n 0, 1) := by decide +kernel
theorem dX12_readItem_156 : decode cX12_readItem 156 = .ok (.invokevirtual 174, 3) := by decide +kernel
theorem dX12_readItem_159 : decode cX12_readItem 159 = .ok (.ifCond .eq 7, 3) := by decide +kernel
theorem dX12_readItem_162 : decode cX12_readItem 162 = .ok (.iconst 1, 1) := by decide +kernel
theorem dX12_readItem_163 : decode cX12_readItem 163 = .ok (.goto 4, 3) := by decide +kernel
theorem dX12_readItem_166 : decode cX12_readItem 166 = .ok (.iconst 0, 1) := by decide +kernel
theorem dX12_readItem_167 : decode cX12_readItem 167 = .ok (.ireturn, 1) := by decide +kernel
theorem dX12_readItem_168 : decode cX12_readItem 168 = .ok (.aload_n 0, 1) := by decide +kernel
theorem dX12_readItem_169 : decode cX12_readItem 169 = .ok (.bipush 115, 2) := by decide +kernel
theorem dX12_readItem_171 : decode cX12_readItem 171 = .ok (.bipush 108, 2) := by decide +kernel
theorem dX12_readItem_173 : decode cX12_readItem 173 = .ok (.bipush 101, 2) := by decide +kernel
theorem dX12_readItem_175 : decode cX12_readItem 175 = .ok (.bipush 101, 2) := by decide +kernel
theorem dX12_readItem_177 : decode cX12_readItem 177 = .ok (.bipush 112, 2) := by decide +kernel
theorem dX12_readItem_179 : decode cX12_readItem 179 = .ok (.bipush 101, 2) := by decide +kernel
theorem dX12_readItem_181 : decode cX12_readItem 181 = .ok (.bipush 114, 2) := by decide +kernel
theorem dX12_readItem_183 : decode cX12_readItem 183 = .ok (.invokestatic 166, 3) := by decide +kernel
theorem dX12_readItem_186 : decode cX12_readItem 186 = .ok (.invokevirtual 170, 3) := by decide +kernel
theorem dX12_readItem_189 : decode cX12_readItem 189 = .ok (.ifCond .eq 103, 3) := by decide +kernel
theorem dX12_readItem_192 : decode cX12_readItem 192 = .ok (.aload_n 0, 1) := by decide +kernel
theorem dX12_readItem_193 : decode cX12_readItem 193 = .ok (.getfield 182, 3) := by decide +kernel
theorem dX12_readItem_196 : decode cX12_readItem 196 = .ok (.iconst 5, 1) := by decide +kernel
theorem dX12_readItem_197 : decode cX12_readItem 197 = .ok (.if_icmp .ge 36, 3) := by decide +kernel
theorem dX12_readItem_200 : decode cX12_readItem 200 = .ok (.aload_n 0, 1) := by decide +kernel
theorem dX12_readItem_201 : decode cX12_readItem 201 = .ok (.iconst 0, 1) := by decide +kernel
theorem dX12_readItem_202 : decode cX12_readItem 202 = .ok (.iconst 5, 1) := by decide +kernel
theorem dX12_readItem_203 : decode cX12_readItem 203 = .ok (.invokevirtual 178, 3) := by decide +kernel
theorem dX12_readItem_206 : decode cX12_readItem 206 = .ok (.ifCond .eq 27, 3) := by decide +kernel
theorem dX12_readItem_209 : decode cX12_readItem 209 = .ok (.aload_n 0, 1) := by decide +kernel
theorem dX12_readItem_210 : decode cX12_readItem 210 = .ok (.iconst 1, 1) := by decide +kernel
theorem dX12_readItem_211 : decode cX12_readItem 211 = .ok (.bipush 7, 2) := by decide +kernel
theorem dX12_readItem_213 : decode cX12_readItem 213 = .ok (.invokevirtual 178, 3) := by decide +kernel
theorem dX12_readItem_216 : decode cX12_readItem 216 = .ok (.ifCond .eq 17, 3) := by decide +kernel
theorem dX12_readItem_219 : decode cX12_readItem 219 = .ok (.aload_n 0, 1) := by decide +kernel
theorem dX12_readItem_220 : decode cX12_readItem 220 = .ok (.iconst 2, 1) := by decide +kernel
theorem dX12_readItem_221 : decode cX12_readItem 221 = .ok (.bipush 9, 2) := by decide +kernel
theorem dX12_readItem_223 : decode cX12_readItem 223 = .ok (.invokevirtual 178, 3) := by decide +kernel
theorem dX12_readItem_226 : decode cX12_readItem 226 = .ok (.ifCond .eq 7, 3) := by decide +kernel
theorem dX12_readItem_229 : decode cX12_readItem 229 = .ok (.iconst 1, 1) := by decide +kernel
theorem dX12_readItem_230 : decode cX12_readItem 230 = .ok (.goto 4, 3) := by decide +kernel
theorem dX12_readItem_233 : decode cX12_readItem 233 = .ok (.iconst 0, 1) := by decide +kernel
theorem dX12_readItem_234 : decode cX12_readItem 234 = .ok (.istore_n 3, 1) := by decide +kernel
theorem dX12_readItem_235 : decode cX12_readItem 235 = .ok (.aload_n 0, 1) := by decide +kernel
theorem dX12_readItem_236 : decode cX12_readItem 236 = .ok (.dup, 1) := by decide +kernel
theorem dX12_readItem_237 : decode cX12_readItem 237 = .ok (.getfield 182, 3) := by decide +kernel
theorem dX12_readItem_240 : decode cX12_readItem 240 = .ok (.iconst 1, 1) := by decide +kernel
theorem dX12_readItem_241 : decode cX12_readItem 241 = .ok (.iadd, 1) := by decide +kernel
theorem dX12_readItem_242 : decode cX12_readItem 242 = .ok (.putfield 182, 3) := by decide +kernel
theorem dX12_readItem_245 : decode cX12_readItem 245 = .ok (.iload_n 3, 1) := by decide +kernel
theorem dX12_readItem_246 : decode cX12_readItem 246 = .ok (.ifCond .eq 29, 3) := by decide +kernel
theorem dX12_readItem_249 : decode cX12_readItem 249 = .ok (.iload_n 2, 1) := by decide +kernel
theorem dX12_readItem_250 : decode cX12_readItem 250 = .ok (.ifCond .eq 25, 3) := by decide +kernel
theorem dX12_readItem_253 : decode cX12_readItem 253 = .ok (.aload_n 0, 1) := by decide +kernel
theorem dX12_readItem_254 : decode cX12_readItem 254 = .ok (.aload_n 0, 1) := by decide +kernel
theorem dX12_readItem_255 : decode cX12_readItem 255 = .ok (.getfield 23, 3) := by decide +kernel
theorem dX12_readItem_258 : decode cX12_readItem 258 = .ok (.iconst 0, 1) := by decide +kernel
theorem dX12_readItem_259 : decode cX12_readItem 259 = .ok (.iaload, 1) := by decide +kernel
theorem dX12_readItem_260 : decode cX12_readItem 260 = .ok (.aload_n 0, 1) := by decide +kernel
theorem dX12_readItem_261 : decode cX12_readItem 261 = .ok (.getfield 23, 3) := by decide +kernel
theorem dX12_readItem_264 : decode cX12_readItem 264 = .ok (.iconst 1, 1) := by decide +kernel
theorem dX12_readItem_265 : decode cX12_readItem 265 = .ok (.iaload, 1) := by decide +kernel
theorem dX12_readItem_266 : decode cX12_readItem 266 = .ok (.aload_n 0, 1) := by decide +kernel
theorem dX12_readItem_267 : decode cX12_readItem 267 = .ok (.getfield 23, 3) := by decide +kernel
theorem dX12_readItem_270 : decode cX12_readItem 270 = .ok (.iconst 2, 1) := by decide +kernel
theorem dX12_readItem_271 : decode cX12_readItem 271 = .ok (.iaload, 1) := by decide +kernel
theorem dX12_readItem_272 : decode cX12_readItem 272 = .ok (.invokevirtual 107, 3) := by decide +kernel
theorem dX12_readItem_275 : decode cX12_readItem 275 = .ok (.iload_n 3, 1) := by decide +kernel
theorem dX12_readItem_276 : decode cX12_readItem 276 = .ok (.ifCond .eq 14, 3) := by decide +kernel
theorem dX12_readItem_279 : decode cX12_readItem 279 = .ok (.aload_n 0, 1) := by decide +kernel
theorem dX12_readItem_280 : decode cX12_readItem 280 = .ok (.invokevirtual 174, 3) := by decide +kernel
theorem dX12_readItem_283 : decode cX12_readItem 283 = .ok (.ifCond .eq 7, 3) := by decide +kernel
theorem dX12_readItem_286 : decode cX12_readItem 286 = .ok (.iconst 1, 1) := by decide +kernel
theorem dX12_readItem_287 : decode cX12_readItem 287 = .ok (.goto 4, 3) := by decide +kernel
theorem dX12_readItem_290 : decode cX12_readItem 290 = .ok (.iconst 0, 1) := by decide +kernel
theorem dX12_readItem_291 : decode cX12_readItem 291 = .ok (.ireturn, 1) := by decide +kernel
theorem dX12_readItem_292 : decode cX12_readItem 292 = .ok (.aload_n 0, 1) := by decide +kernel
theorem dX12_readItem_293 : decode cX12_readItem 293 = .ok (.bipush 116, 2) := by decide +kernel
theorem dX12_readItem_295 : decode cX12_readItem 295 = .ok (.bipush 104, 2) := by decide +kernel
theorem dX12_readItem_297 : decode cX12_readItem 297 = .ok (.bipush 105, 2) := by decide +kernel
theorem dX12_readItem_299 : decode cX12_readItem 299 = .ok (.bipush 110, 2) := by decide +kernel
theorem dX12_readItem_301 : decode cX12_readItem 301 = .ok (.bipush 103, 2) := by decide +kernel
theorem dX12_readItem_303 : decode cX12_readItem 303 = .ok (.iconst 0, 1) := by decide +kernel
theorem dX12_readItem_304 : decode cX12_readItem 304 = .ok (.iconst 0, 1) := by decide +kernel
theorem dX12_readItem_305 : decode cX12_readItem 305 = .ok (.invokestatic 166, 3) := by decide +kernel
theorem dX12_readItem_308 : decode cX12_readItem 308 = .ok (.invokevirtual 170, 3) := by decide +kernel
theorem dX12_readItem_311 : decode cX12_readItem 311 = .ok (.ifCond .eq 25, 3) := by decide +kernel
theorem dX12_readItem_314 : decode cX12_readItem 314 = .ok (.aload_n 0, 1) := by decide +kernel
theorem dX12_readItem_315 : decode cX12_readItem 315 = .ok (.getfield 185, 3) := by decide +kernel
theorem dX12_readItem_318 : decode cX12_readItem 318 = .ok (.iconst 5, 1) := by decide +kernel
theorem dX12_readItem_319 : decode cX12_readItem 319 = .ok (.if_icmp .ge 17, 3) := by decide +kernel
theorem dX12_readItem_322 : decode cX12_readItem 322 = .ok (.aload_n 0, 1) := by decide +kernel
theorem dX12_readItem_323 : decode cX12_readItem 323 = .ok (.iconst 0, 1) := by decide +kernel
theorem dX12_readItem_324 : decode cX12_readItem 324 = .ok (.bipush 7, 2) := by decide +kernel
theorem dX12_readItem_326 : decode cX12_readItem 326 = .ok (.invokevirtual 178, 3) := by decide +kernel
theorem dX12_readItem_329 : decode cX12_readItem 329 = .ok (.ifCond .eq 7, 3) := by decide +kernel
theorem dX12_readItem_332 : decode cX12_readItem 332 = .ok (.iconst 1, 1) := by decide +kernel
theorem dX12_readItem_333 : decode cX12_readItem 333 = .ok (.goto 4, 3) := by decide +kernel
theorem dX12_readItem_336 : decode cX12_readItem 336 = .ok (.iconst 0, 1) := by decide +kernel
theorem dX12_readItem_337 : decode cX12_readItem 337 = .ok (.istore_n 3, 1) := by decide +kernel
theorem dX12_readItem_338 : decode cX12_readItem 338 = .ok (.aload_n 0, 1) := by decide +kernel
theorem dX12_readItem_339 : decode cX12_readItem 339 = .ok (.dup, 1) := by decide +kernel
theorem dX12_readItem_340 : decode cX12_readItem 340 = .ok (.getfield 185, 3) := by decide +kernel
theorem dX12_readItem_343 : decode cX12_readItem 343 = .ok (.iconst 1, 1) := by decide +kernel
theorem dX12_readItem_344 : decode cX12_readItem 344 = .ok (.iadd, 1) := by decide +kernel
theorem dX12_readItem_345 : decode cX12_readItem 345 = .ok (.putfield 185, 3) := by decide +kernel
theorem dX12_readItem_348 : decode cX12_readItem 348 = .ok (.iload_n 3, 1) := by decide +kernel
theorem dX12_readItem_349 : decode cX12_readItem 349 = .ok (.ifCond .ne 5, 3) := by decide +kernel
theorem dX12_readItem_352 : decode cX12_readItem 352 = .ok (.iconst 0, 1) := by decide +kernel
theorem dX12_readItem_353 : decode cX12_readItem 353 = .ok (.ireturn, 1) := by decide +kernel
theorem dX12_readItem_354 : decode cX12_readItem 354 = .ok (.iload_n 2, 1) := by decide +kernel
theorem dX12_readItem_355 : decode cX12_readItem 355 = .ok (.ifCond .eq 13, 3) := by decide +kernel
theorem dX12_readItem_358 : decode cX12_readItem 358 = .ok (.aload_n 0, 1) := by decide +kernel
theorem dX12_readItem_359 : decode cX12_readItem 359 = .ok (.aload_n 0, 1) := by decide +kernel
theorem dX12_readItem_360 : decode cX12_readItem 360 = .ok (.getfield 23, 3) := by decide +kernel
theorem dX12_readItem_363 : decode cX12_readItem 363 = .ok (.iconst 0, 1) := by decide +kernel
theorem dX12_readItem_364 : decode cX12_readItem 364 = .ok (.iaload, 1) := by decide +kernel
theorem dX12_readItem_365 : decode cX12_readItem 365 = .ok (.invokevirtual 111, 3) := by decide +kernel
theorem dX12_readItem_368 : decode cX12_readItem 368 = .ok (.aload_n 0, 1) := by decide +kernel
theorem dX12_readItem_369 : decode cX12_readItem 369 = .ok (.invokevirtual 188, 3) := by decide +kernel
theorem dX12_readItem_372 : decode cX12_readItem 372 = .ok (.istore 4, 2) := by decide +kernel
theorem dX12_readItem_374 : decode cX12_readItem 374 = .ok (.iconst 0, 1) := by decide +kernel
theorem dX12_readItem_375 : decode cX12_readItem 375 = .ok (.istore 5, 2) := by decide +kernel
theorem dX12_readItem_377 : decode cX12_readItem 377 = .ok (.iload 5, 2) := by decide +kernel
theorem dX12_readItem_379 : decode cX12_readItem 379 = .ok (.aload_n 0, 1) := by decide +kernel
theorem dX12_readItem_380 : decode cX12_readItem 380 = .ok (.getfield 163, 3) := by decide +kernel
theorem dX12_readItem_383 : decode cX12_readItem 383 = .ok (.if_icmp .ge 35, 3) := by decide +kernel
theorem dX12_readItem_386 : decode cX12_readItem 386 = .ok (.iload_n 2, 1) := by decide +kernel
theorem dX12_readItem_387 : decode cX12_readItem 387 = .ok (.ifCond .eq 31, 3) := by decide +kernel
theorem dX12_readItem_390 : decode cX12_readItem 390 = .ok (.aload_n 0, 1) := by decide +kernel
theorem dX12_readItem_391 : decode cX12_readItem 391 = .ok (.aload_n 0, 1) := by decide +kernel
theorem dX12_readItem_392 : decode cX12_readItem 392 = .ok (.getfield 7, 3) := by decide +kernel
theorem dX12_readItem_395 : decode cX12_readItem 395 = .ok (.bipush 21, 2) := by decide +kernel
theorem dX12_readItem_397 : decode cX12_readItem 397 = .ok (.iaload, 1) := by decide +kernel
theorem dX12_readItem_398 : decode cX12_readItem 398 = .ok (.iconst 1, 1) := by decide +kernel
theorem dX12_readItem_399 : decode cX12_readItem 399 = .ok (.isub, 1) := by decide +kernel
theorem dX12_readItem_400 : decode cX12_readItem 400 = .ok (.aload_n 0, 1) := by decide +kernel
theorem dX12_readItem_401 : decode cX12_readItem 401 = .ok (.getfield 23, 3) := by decide +kernel
theorem dX12_readItem_404 : decode cX12_readItem 404 = .ok (.iload 5, 2) := by decide +kernel
theorem dX12_readItem_406 : decode cX12_readItem 406 = .ok (.iconst 1, 1) := by decide +kernel
theorem dX12_readItem_407 : decode cX12_readItem 407 = .ok (.iadd, 1) := by decide +kernel
theorem dX12_readItem_408 : decode cX12_readItem 408 = .ok (.iaload, 1) := by decide +kernel
theorem dX12_readItem_409 : decode cX12_readItem 409 = .ok (.invokevirtual 124, 3) := by decide +kernel
theorem dX12_readItem_412 : decode cX12_readItem 412 = .ok (.iinc 5 1, 3) := by decide +kernel
theorem dX12_readItem_415 : decode cX12_readItem 415 = .ok (.goto (-38), 3) := by decide +kernel
theorem dX12_readItem_418 : decode cX12_readItem 418 = .ok (.iload 4, 2) := by decide +kernel
theorem dX12_readItem_420 : decode cX12_readItem 420 = .ok (.ireturn, 1) := by decide +kernel
theorem dX12_readText_0 : decode cX12_readText 0 = .ok (.aload_n 0, 1) := by decide +kernel
theorem dX12_readText_1 : decode cX12_readText 1 = .ok (.iconst 0, 1) := by decide +kernel
theorem dX12_readText_2 : decode cX12_readText 2 = .ok (.putfield 133, 3) := by decide +kernel
theorem dX12_readText_5 : decode cX12_readText 5 = .ok (.aload_n 0, 1) := by decide +kernel
theorem dX12_readText_6 : decode cX12_readText 6 = .ok (.iconst 0, 1) := by decide +kernel
theorem dX12_readText_7 : decode cX12_readText 7 = .ok (.putfield 182, 3) := by decide +kernel
theorem dX12_readText_10 : decode cX12_readText 10 = .ok (.aload_n 0, 1) := by decide +kernel
theorem dX12_readText_11 : decode cX12_readText 11 = .ok (.iconst 0, 1) := by decide +kernel
theorem dX12_readText_12 : decode cX12_readText 12 = .ok (.putfield 185, 3) := by decide +kernel
theorem dX12_readText_15 : decode cX12_readText 15 = .ok (.iconst 0, 1) := by decide +kernel
theorem dX12_readText_16 : decode cX12_readText 16 = .ok (.istore_n 2, 1) := by decide +kernel
theorem dX12_readText_17 : decode cX12_readText 17 = .ok (.aload_n 0, 1) := by decide +kernel
theorem dX12_readText_18 : decode cX12_readText 18 = .ok (.invokevirtual 160, 3) := by decide +kernel
theorem dX12_readText_21 : decode cX12_readText 21 = .ok (.iload_n 2, 1) := by decide +kernel
theorem dX12_readText_22 : decode cX12_readText 22 = .ok (.ifCond .eq 11, 3) := by decide +kernel
theorem dX12_readText_25 : decode cX12_readText 25 = .ok (.aload_n 0, 1) := by decide +kernel
theorem dX12_readText_26 : decode cX12_readText 26 = .ok (.getfield 145, 3) := by decide +kernel
theorem dX12_readText_29 : decode cX12_readText 29 = .ok (.iconst 3, 1) := by decide +kernel
theorem dX12_readText_30 : decode cX12_readText 30 = .ok (.if_icmp .eq 24, 3) := by decide +kernel
theorem dX12_readText_33 : decode cX12_readText 33 = .ok (.aload_n 0, 1) := by decide +kernel
theorem dX12_readText_34 : decode cX12_readText 34 = .ok (.iload_n 2, 1) := by decide +kernel
theorem dX12_readText_35 : decode cX12_readText 35 = .ok (.iload_n 1, 1) := by decide +kernel
theorem dX12_readText_36 : decode cX12_readText 36 = .ok (.invokevirtual 191, 3) := by decide +kernel
theorem dX12_readText_39 : decode cX12_readText 39 = .ok (.ifCond .ne 5, 3) := by decide +kernel
theorem dX12_readText_42 : decode cX12_readText 42 = .ok (.iconst (-1), 1) := by decide +kernel
theorem dX12_readText_43 : decode cX12_readText 43 = .ok (.ireturn, 1) := by decide +kernel
theorem dX12_readText_44 : decode cX12_readText 44 = .ok (.iinc 2 1, 3) := by decide +kernel
theorem dX12_readText_47 : decode cX12_readText 47 = .ok (.aload_n 0, 1) := by decide +kernel
theorem dX12_readText_48 : decode cX12_readText 48 = .ok (.invokevirtual 160, 3) := by decide +kernel
theorem dX12_readText_51 : decode cX12_readText 51 = .ok (.goto (-30), 3) := by decide +kernel
theorem dX12_readText_54 : decode cX12_readText 54 = .ok (.iload_n 2, 1) := by decide +kernel
theorem dX12_readText_55 : decode cX12_readText 55 = .ok (.ireturn, 1) := by decide +kernel
theorem dX12_read_0 : decode cX12_read 0 = .ok (.aload_n 0, 1) := by decide +kernel
theorem dX12_read_1 : decode cX12_read 1 = .ok (.iconst 0, 1) := by decide +kernel
theorem dX12_read_2 : decode cX12_read 2 = .ok (.invokevirtual 195, 3) := by decide +kernel
theorem dX12_read_5 : decode cX12_read 5 = .ok (.ifCond .ge 11, 3) := by decide +kernel
theorem dX12_read_8 : decode cX12_read 8 = .ok (.bipush (-10), 2) := by decide +kernel
theorem dX12_read_10 : decode cX12_read 10 = .ok (.aload_n 0, 1) := by decide +kernel
theorem dX12_read_11 : decode cX12_read 11 = .ok (.getfield 139, 3) := by decide +kernel
theorem dX12_read_14 : decode cX12_read 14 = .ok (.isub, 1) := by decide +kernel
theorem dX12_read_15 : decode cX12_read 15 = .ok (.ireturn, 1) := by decide +kernel
theorem dX12_read_16 : decode cX12_read 16 = .ok (.aload_n 0, 1) := by decide +kernel
theorem dX12_read_17 : decode cX12_read 17 = .ok (.iconst 1, 1) := by decide +kernel
theorem dX12_read_18 : decode cX12_read 18 = .ok (.invokevirtual 195, 3) := by decide +kernel
theorem dX12_read_21 : decode cX12_read 21 = .ok (.ireturn, 1) := by decide +kernel
theorem dX12_findFar_0 : decode cX12_findFar 0 = .ok (.iconst 0, 1) := by decide +kernel
theorem dX12_findFar_1 : decode cX12_findFar 1 = .ok (.istore_n 2, 1) := by decide +kernel
theorem dX12_findFar_2 : decode cX12_findFar 2 = .ok (.iload_n 2, 1) := by decide +kernel
theorem dX12_findFar_3 : decode cX12_findFar 3 = .ok (.bipush 8, 2) := by decide +kernel
theorem dX12_findFar_5 : decode cX12_findFar 5 = .ok (.if_icmp .ge 26, 3) := by decide +kernel
theorem dX12_findFar_8 : decode cX12_findFar 8 = .ok (.aload_n 0, 1) := by decide +kernel
theorem dX12_findFar_9 : decode cX12_findFar 9 = .ok (.getfield 26, 3) := by decide +kernel
theorem dX12_findFar_12 : decode cX12_findFar 12 = .ok (.iload_n 2, 1) := by decide +kernel
theorem dX12_findFar_13 : decode cX12_findFar 13 = .ok (.iload_n 2, 1) := by decide +kernel
theorem dX12_findFar_14 : decode cX12_findFar 14 = .ok (.iload_n 1, 1) := by decide +kernel
theorem dX12_findFar_15 : decode cX12_findFar 15 = .ok (.if_icmp .ne 7, 3) := by decide +kernel
theorem dX12_findFar_18 : decode cX12_findFar 18 = .ok (.iconst 0, 1) := by decide +kernel
theorem dX12_findFar_19 : decode cX12_findFar 19 = .ok (.goto 5, 3) := by decide +kernel
theorem dX12_findFar_22 : decode cX12_findFar 22 = .ok (.bipush 99, 2) := by decide +kernel
theorem dX12_findFar_24 : decode cX12_findFar 24 = .ok (.iastore, 1) := by decide +kernel
theorem dX12_findFar_25 : decode cX12_findFar 25 = .ok (.iinc 2 1, 3) := by decide +kernel
theorem dX12_findFar_28 : decode cX12_findFar 28 = .ok (.goto (-26), 3) := by decide +kernel
theorem dX12_findFar_31 : decode cX12_findFar 31 = .ok (.iconst 0, 1) := by decide +kernel
theorem dX12_findFar_32 : decode cX12_findFar 32 = .ok (.istore_n 2, 1) := by decide +kernel
theorem dX12_findFar_33 : decode cX12_findFar 33 = .ok (.iload_n 2, 1) := by decide +kernel
theorem dX12_findFar_34 : decode cX12_findFar 34 = .ok (.bipush 8, 2) := by decide +kernel
theorem dX12_findFar_36 : decode cX12_findFar 36 = .ok (.if_icmp .ge 92, 3) := by decide +kernel
theorem dX12_findFar_39 : decode cX12_findFar 39 = .ok (.iconst 0, 1) := by decide +kernel
theorem dX12_findFar_40 : decode cX12_findFar 40 = .ok (.istore_n 3, 1) := by decide +kernel
theorem dX12_findFar_41 : decode cX12_findFar 41 = .ok (.iload_n 3, 1) := by decide +kernel
theorem dX12_findFar_42 : decode cX12_findFar 42 = .ok (.bipush 8, 2) := by decide +kernel
theorem dX12_findFar_44 : decode cX12_findFar 44 = .ok (.if_icmp .ge 78, 3) := by decide +kernel
theorem dX12_findFar_47 : decode cX12_findFar 47 = .ok (.iconst 0, 1) := by decide +kernel
theorem dX12_findFar_48 : decode cX12_findFar 48 = .ok (.istore 4, 2) := by decide +kernel
theorem dX12_findFar_50 : decode cX12_findFar 50 = .ok (.iload 4, 2) := by decide +kernel
theorem dX12_findFar_52 : decode cX12_findFar 52 = .ok (.bipush 8, 2) := by decide +kernel
theorem dX12_findFar_54 : decode cX12_findFar 54 = .ok (.if_icmp .ge 62, 3) := by decide +kernel
theorem dX12_findFar_57 : decode cX12_findFar 57 = .ok (.aload_n 0, 1) := by decide +kernel
theorem dX12_findFar_58 : decode cX12_findFar 58 = .ok (.getfield 26, 3) := by decide +kernel
theorem dX12_findFar_61 : decode cX12_findFar 61 = .ok (.iload 4, 2) := by decide +kernel
theorem dX12_findFar_63 : decode cX12_findFar 63 = .ok (.aload_n 0, 1) := by decide +kernel
theorem dX12_findFar_64 : decode cX12_findFar 64 = .ok (.iload_n 3, 1) := by decide +kernel
theorem dX12_findFar_65 : decode cX12_findFar 65 = .ok (.iload 4, 2) := by decide +kernel
theorem dX12_findFar_67 : decode cX12_findFar 67 = .ok (.invokevirtual 99, 3) := by decide +kernel
theorem dX12_findFar_70 : decode cX12_findFar 70 = .ok (.ifCond .lt 32, 3) := by decide +kernel
theorem dX12_findFar_73 : decode cX12_findFar 73 = .ok (.aload_n 0, 1) := by decide +kernel
theorem dX12_findFar_74 : decode cX12_findFar 74 = .ok (.getfield 26, 3) := by decide +kernel
theorem dX12_findFar_77 : decode cX12_findFar 77 = .ok (.iload_n 3, 1) := by decide +kernel
theorem dX12_findFar_78 : decode cX12_findFar 78 = .ok (.iaload, 1) := by decide +kernel
theorem dX12_findFar_79 : decode cX12_findFar 79 = .ok (.iconst 1, 1) := by decide +kernel
theorem dX12_findFar_80 : decode cX12_findFar 80 = .ok (.iadd, 1) := by decide +kernel
theorem dX12_findFar_81 : decode cX12_findFar 81 = .ok (.aload_n 0, 1) := by decide +kernel
theorem dX12_findFar_82 : decode cX12_findFar 82 = .ok (.getfield 26, 3) := by decide +kernel
theorem dX12_findFar_85 : decode cX12_findFar 85 = .ok (.iload 4, 2) := by decide +kernel
theorem dX12_findFar_87 : decode cX12_findFar 87 = .ok (.iaload, 1) := by decide +kernel
theorem dX12_findFar_88 : decode cX12_findFar 88 = .ok (.if_icmp .ge 14, 3) := by decide +kernel
theorem dX12_findFar_91 : decode cX12_findFar 91 = .ok (.aload_n 0, 1) := by decide +kernel
theorem dX12_findFar_92 : decode cX12_findFar 92 = .ok (.getfield 26, 3) := by decide +kernel
theorem dX12_findFar_95 : decode cX12_findFar 95 = .ok (.iload_n 3, 1) := by decide +kernel
theorem dX12_findFar_96 : decode cX12_findFar 96 = .ok (.iaload, 1) := by decide +kernel
theorem dX12_findFar_97 : decode cX12_findFar 97 = .ok (.iconst 1, 1) := by decide +kernel
theorem dX12_findFar_98 : decode cX12_findFar 98 = .ok (.iadd, 1) := by decide +kernel
theorem dX12_findFar_99 : decode cX12_findFar 99 = .ok (.goto 10, 3) := by decide +kernel
theorem dX12_findFar_102 : decode cX12_findFar 102 = .ok (.aload_n 0, 1) := by decide +kernel
theorem dX12_findFar_103 : decode cX12_findFar 103 = .ok (.getfield 26, 3) := by decide +kernel
theorem dX12_findFar_106 : decode cX12_findFar 106 = .ok (.iload 4, 2) := by decide +kernel
theorem dX12_findFar_108 : decode cX12_findFar 108 = .ok (.iaload, 1) := by decide +kernel
theorem dX12_findFar_109 : decode cX12_findFar 109 = .ok (.iastore, 1) := by decide +kernel
theorem dX12_findFar_110 : decode cX12_findFar 110 = .ok (.iinc 4 1, 3) := by decide +kernel
theorem dX12_findFar_113 : decode cX12_findFar 113 = .ok (.goto (-63), 3) := by decide +kernel
theorem dX12_findFar_116 : decode cX12_findFar 116 = .ok (.iinc 3 1, 3) := by decide +kernel
theorem dX12_findFar_119 : decode cX12_findFar 119 = .ok (.goto (-78), 3) := by decide +kernel
theorem dX12_findFar_122 : decode cX12_findFar 122 = .ok (.iinc 2 1, 3) := by decide +kernel
theorem dX12_findFar_125 : decode cX12_findFar 125 = .ok (.goto (-92), 3) := by decide +kernel
theorem dX12_findFar_128 : decode cX12_findFar 128 = .ok (.return_, 1) := by decide +kernel
theorem dX12_far_0 : decode cX12_far 0 = .ok (.iload_n 1, 1) := by decide +kernel
theorem dX12_far_1 : decode cX12_far 1 = .ok (.invokestatic 89, 3) := by decide +kernel
theorem dX12_far_4 : decode cX12_far 4 = .ok (.ifCond .eq 10, 3) := by decide +kernel
theorem dX12_far_7 : decode cX12_far 7 = .ok (.iload_n 2, 1) := by decide +kernel
theorem dX12_far_8 : decode cX12_far 8 = .ok (.invokestatic 89, 3) := by decide +kernel
theorem dX12_far_11 : decode cX12_far 11 = .ok (.ifCond .ne 8, 3) := by decide +kernel
theorem dX12_far_14 : decode cX12_far 14 = .ok (.aload_n 0, 1) := by decide +kernel
theorem dX12_far_15 : decode cX12_far 15 = .ok (.invokevirtual 95, 3) := by decide +kernel
theorem dX12_far_18 : decode cX12_far 18 = .ok (.ireturn, 1) := by decide +kernel
theorem dX12_far_19 : decode cX12_far 19 = .ok (.aload_n 0, 1) := by decide +kernel
theorem dX12_far_20 : decode cX12_far 20 = .ok (.iload_n 1, 1) := by decide +kernel
theorem dX12_far_21 : decode cX12_far 21 = .ok (.invokevirtual 199, 3) := by decide +kernel
theorem dX12_far_24 : decode cX12_far 24 = .ok (.aload_n 0, 1) := by decide +kernel
theorem dX12_far_25 : decode cX12_far 25 = .ok (.getfield 26, 3) := by decide +kernel
theorem dX12_far_28 : decode cX12_far 28 = .ok (.iload_n 2, 1) := by decide +kernel
theorem dX12_far_29 : decode cX12_far 29 = .ok (.iaload, 1) := by decide +kernel
theorem dX12_far_30 : decode cX12_far 30 = .ok (.bipush 99, 2) := by decide +kernel
theorem dX12_far_32 : decode cX12_far 32 = .ok (.if_icmp .ne 7, 3) := by decide +kernel
theorem dX12_far_35 : decode cX12_far 35 = .ok (.iconst (-1), 1) := by decide +kernel
theorem dX12_far_36 : decode cX12_far 36 = .ok (.goto 9, 3) := by decide +kernel
theorem dX12_far_39 : decode cX12_far 39 = .ok (.aload_n 0, 1) := by decide +kernel
theorem dX12_far_40 : decode cX12_far 40 = .ok (.getfield 26, 3) := by decide +kernel
theorem dX12_far_43 : decode cX12_far 43 = .ok (.iload_n 2, 1) := by decide +kernel
theorem dX12_far_44 : decode cX12_far 44 = .ok (.iaload, 1) := by decide +kernel
theorem dX12_far_45 : decode cX12_far 45 = .ok (.ireturn, 1) := by decide +kernel
theorem dX12_wakesFrom_0 : decode cX12_wakesFrom 0 = .ok (.aload_n 0, 1) := by decide +kernel
theorem dX12_wakesFrom_1 : decode cX12_wakesFrom 1 = .ok (.getfield 7, 3) := by decide +kernel
theorem dX12_wakesFrom_4 : decode cX12_wakesFrom 4 = .ok (.bipush 16, 2) := by decide +kernel
theorem dX12_wakesFrom_6 : decode cX12_wakesFrom 6 = .ok (.iload_n 1, 1) := by decide +kernel
theorem dX12_wakesFrom_7 : decode cX12_wakesFrom 7 = .ok (.iadd, 1) := by decide +kernel
theorem dX12_wakesFrom_8 : decode cX12_wakesFrom 8 = .ok (.iaload, 1) := by decide +kernel
theorem dX12_wakesFrom_9 : decode cX12_wakesFrom 9 = .ok (.iconst 2, 1) := by decide +kernel
theorem dX12_wakesFrom_10 : decode cX12_wakesFrom 10 = .ok (.iadd, 1) := by decide +kernel
theorem dX12_wakesFrom_11 : decode cX12_wakesFrom 11 = .ok (.istore 4, 2) := by decide +kernel
theorem dX12_wakesFrom_13 : decode cX12_wakesFrom 13 = .ok (.aload_n 0, 1) := by decide +kernel
theorem dX12_wakesFrom_14 : decode cX12_wakesFrom 14 = .ok (.getfield 7, 3) := by decide +kernel
theorem dX12_wakesFrom_17 : decode cX12_wakesFrom 17 = .ok (.bipush 6, 2) := by decide +kernel
theorem dX12_wakesFrom_19 : decode cX12_wakesFrom 19 = .ok (.iload_n 1, 1) := by decide +kernel
theorem dX12_wakesFrom_20 : decode cX12_wakesFrom 20 = .ok (.iadd, 1) := by decide +kernel
theorem dX12_wakesFrom_21 : decode cX12_wakesFrom 21 = .ok (.iaload, 1) := by decide +kernel
theorem dX12_wakesFrom_22 : decode cX12_wakesFrom 22 = .ok (.istore 5, 2) := by decide +kernel
theorem dX12_wakesFrom_24 : decode cX12_wakesFrom 24 = .ok (.iload_n 3, 1) := by decide +kernel
theorem dX12_wakesFrom_25 : decode cX12_wakesFrom 25 = .ok (.bipush 10, 2) := by decide +kernel
theorem dX12_wakesFrom_27 : decode cX12_wakesFrom 27 = .ok (.irem, 1) := by decide +kernel
theorem dX12_wakesFrom_28 : decode cX12_wakesFrom 28 = .ok (.ifCond .ne 10, 3) := by decide +kernel
theorem dX12_wakesFrom_31 : decode cX12_wakesFrom 31 = .ok (.iload 4, 2) := by decide +kernel
theorem dX12_wakesFrom_33 : decode cX12_wakesFrom 33 = .ok (.iconst 2, 1) := by decide +kernel
theorem dX12_wakesFrom_34 : decode cX12_wakesFrom 34 = .ok (.idiv, 1) := by decide +kernel
theorem dX12_wakesFrom_35 : decode cX12_wakesFrom 35 = .ok (.goto 7, 3) := by decide +kernel
theorem dX12_wakesFrom_38 : decode cX12_wakesFrom 38 = .ok (.iload 4, 2) := by decide +kernel
theorem dX12_wakesFrom_40 : decode cX12_wakesFrom 40 = .ok (.iconst 3, 1) := by decide +kernel
theorem dX12_wakesFrom_41 : decode cX12_wakesFrom 41 = .ok (.iadd, 1) := by decide +kernel
theorem dX12_wakesFrom_42 : decode cX12_wakesFrom 42 = .ok (.istore 6, 2) := by decide +kernel
theorem dX12_wakesFrom_44 : decode cX12_wakesFrom 44 = .ok (.iload 5, 2) := by decide +kernel
theorem dX12_wakesFrom_46 : decode cX12_wakesFrom 46 = .ok (.tableswitch 101 1 5 #[34, 39, 42, 64, 84], 34) := by decide +kernel
theorem dX12_wakesFrom_80 : decode cX12_wakesFrom 80 = .ok (.iload 4, 2) := by decide +kernel
theorem dX12_wakesFrom_82 : decode cX12_wakesFrom 82 = .ok (.iconst 2, 1) := by decide +kernel
theorem dX12_wakesFrom_83 : decode cX12_wakesFrom 83 = .ok (.idiv, 1) := by decide +kernel
theorem dX12_wakesFrom_84 : decode cX12_wakesFrom 84 = .ok (.ireturn, 1) := by decide +kernel
theorem dX12_wakesFrom_85 : decode cX12_wakesFrom 85 = .ok (.iload 6, 2) := by decide +kernel
theorem dX12_wakesFrom_87 : decode cX12_wakesFrom 87 = .ok (.ireturn, 1) := by decide +kernel
theorem dX12_wakesFrom_88 : decode cX12_wakesFrom 88 = .ok (.iload_n 2, 1) := by decide +kernel
theorem dX12_wakesFrom_89 : decode cX12_wakesFrom 89 = .ok (.aload_n 0, 1) := by decide +kernel
theorem dX12_wakesFrom_90 : decode cX12_wakesFrom 90 = .ok (.getfield 7, 3) := by decide +kernel
theorem dX12_wakesFrom_93 : decode cX12_wakesFrom 93 = .ok (.bipush 11, 2) := by decide +kernel
theorem dX12_wakesFrom_95 : decode cX12_wakesFrom 95 = .ok (.iload_n 1, 1) := by decide +kernel
theorem dX12_wakesFrom_96 : decode cX12_wakesFrom 96 = .ok (.iadd, 1) := by decide +kernel
theorem dX12_wakesFrom_97 : decode cX12_wakesFrom 97 = .ok (.iaload, 1) := by decide +kernel
theorem dX12_wakesFrom_98 : decode cX12_wakesFrom 98 = .ok (.if_icmp .ne 7, 3) := by decide +kernel
theorem dX12_wakesFrom_101 : decode cX12_wakesFrom 101 = .ok (.iconst 1, 1) := by decide +kernel
theorem dX12_wakesFrom_102 : decode cX12_wakesFrom 102 = .ok (.goto 7, 3) := by decide +kernel
theorem dX12_wakesFrom_105 : decode cX12_wakesFrom 105 = .ok (.iload 4, 2) := by decide +kernel
theorem dX12_wakesFrom_107 : decode cX12_wakesFrom 107 = .ok (.iconst 2, 1) := by decide +kernel
theorem dX12_wakesFrom_108 : decode cX12_wakesFrom 108 = .ok (.idiv, 1) := by decide +kernel
theorem dX12_wakesFrom_109 : decode cX12_wakesFrom 109 = .ok (.ireturn, 1) := by decide +kernel
theorem dX12_wakesFrom_110 : decode cX12_wakesFrom 110 = .ok (.iload_n 3, 1) := by decide +kernel
theorem dX12_wakesFrom_111 : decode cX12_wakesFrom 111 = .ok (.bipush 30, 2) := by decide +kernel
theorem dX12_wakesFrom_113 : decode cX12_wakesFrom 113 = .ok (.if_icmp .ge 10, 3) := by decide +kernel
theorem dX12_wakesFrom_116 : decode cX12_wakesFrom 116 = .ok (.iload 4, 2) := by decide +kernel
theorem dX12_wakesFrom_118 : decode cX12_wakesFrom 118 = .ok (.iconst 2, 1) := by decide +kernel
theorem dX12_wakesFrom_119 : decode cX12_wakesFrom 119 = .ok (.idiv, 1) := by decide +kernel
theorem dX12_wakesFrom_120 : decode cX12_wakesFrom 120 = .ok (.goto 9, 3) := by decide +kernel
theorem dX12_wakesFrom_123 : decode cX12_wakesFrom 123 = .ok (.iconst 2, 1) := by decide +kernel
theorem dX12_wakesFrom_124 : decode cX12_wakesFrom 124 = .ok (.iload 4, 2) := by decide +kernel
theorem dX12_wakesFrom_126 : decode cX12_wakesFrom 126 = .ok (.iconst 2, 1) := by decide +kernel
theorem dX12_wakesFrom_127 : decode cX12_wakesFrom 127 = .ok (.idiv, 1) := by decide +kernel
theorem dX12_wakesFrom_128 : decode cX12_wakesFrom 128 = .ok (.imul, 1) := by decide +kernel
theorem dX12_wakesFrom_129 : decode cX12_wakesFrom 129 = .ok (.ireturn, 1) := by decide +kernel
theorem dX12_wakesFrom_130 : decode cX12_wakesFrom 130 = .ok (.iload_n 3, 1) := by decide +kernel
theorem dX12_wakesFrom_131 : decode cX12_wakesFrom 131 = .ok (.iconst 2, 1) := by decide +kernel
theorem dX12_wakesFrom_132 : decode cX12_wakesFrom 132 = .ok (.irem, 1) := by decide +kernel
theorem dX12_wakesFrom_133 : decode cX12_wakesFrom 133 = .ok (.iconst 1, 1) := by decide +kernel
theorem dX12_wakesFrom_134 : decode cX12_wakesFrom 134 = .ok (.if_icmp .ne 10, 3) := by decide +kernel
theorem dX12_wakesFrom_137 : decode cX12_wakesFrom 137 = .ok (.iconst 2, 1) := by decide +kernel
theorem dX12_wakesFrom_138 : decode cX12_wakesFrom 138 = .ok (.iload 6, 2) := by decide +kernel
theorem dX12_wakesFrom_140 : decode cX12_wakesFrom 140 = .ok (.imul, 1) := by decide +kernel
theorem dX12_wakesFrom_141 : decode cX12_wakesFrom 141 = .ok (.goto 5, 3) := by decide +kernel
theorem dX12_wakesFrom_144 : decode cX12_wakesFrom 144 = .ok (.iload 6, 2) := by decide +kernel
theorem dX12_wakesFrom_146 : decode cX12_wakesFrom 146 = .ok (.ireturn, 1) := by decide +kernel
theorem dX12_wakesFrom_147 : decode cX12_wakesFrom 147 = .ok (.iload 4, 2) := by decide +kernel
theorem dX12_wakesFrom_149 : decode cX12_wakesFrom 149 = .ok (.ireturn, 1) := by decide +kernel
theorem dX12_wakesBy_0 : decode cX12_wakesBy 0 = .ok (.aload_n 0, 1) := by decide +kernel
theorem dX12_wakesBy_1 : decode cX12_wakesBy 1 = .ok (.iload_n 2, 1) := by decide +kernel
theorem dX12_wakesBy_2 : decode cX12_wakesBy 2 = .ok (.invokevirtual 199, 3) := by decide +kernel
theorem dX12_wakesBy_5 : decode cX12_wakesBy 5 = .ok (.iconst 0, 1) := by decide +kernel
theorem dX12_wakesBy_6 : decode cX12_wakesBy 6 = .ok (.istore 4, 2) := by decide +kernel
theorem dX12_wakesBy_8 : decode cX12_wakesBy 8 = .ok (.iconst 0, 1) := by decide +kernel
theorem dX12_wakesBy_9 : decode cX12_wakesBy 9 = .ok (.istore 5, 2) := by decide +kernel
theorem dX12_wakesBy_11 : decode cX12_wakesBy 11 = .ok (.iload 5, 2) := by decide +kernel
theorem dX12_wakesBy_13 : decode cX12_wakesBy 13 = .ok (.aload_n 0, 1) := by decide +kernel
theorem dX12_wakesBy_14 : decode cX12_wakesBy 14 = .ok (.getfield 7, 3) := by decide +kernel
theorem dX12_wakesBy_17 : decode cX12_wakesBy 17 = .ok (.iconst 5, 1) := by decide +kernel
theorem dX12_wakesBy_18 : decode cX12_wakesBy 18 = .ok (.iaload, 1) := by decide +kernel
theorem dX12_wakesBy_19 : decode cX12_wakesBy 19 = .ok (.if_icmp .ge 61, 3) := by decide +kernel
theorem dX12_wakesBy_22 : decode cX12_wakesBy 22 = .ok (.iload_n 1, 1) := by decide +kernel
theorem dX12_wakesBy_23 : decode cX12_wakesBy 23 = .ok (.iconst 2, 1) := by decide +kernel
theorem dX12_wakesBy_24 : decode cX12_wakesBy 24 = .ok (.aload_n 0, 1) := by decide +kernel
theorem dX12_wakesBy_25 : decode cX12_wakesBy 25 = .ok (.getfield 26, 3) := by decide +kernel
theorem dX12_wakesBy_28 : decode cX12_wakesBy 28 = .ok (.aload_n 0, 1) := by decide +kernel
theorem dX12_wakesBy_29 : decode cX12_wakesBy 29 = .ok (.getfield 7, 3) := by decide +kernel
theorem dX12_wakesBy_32 : decode cX12_wakesBy 32 = .ok (.bipush 11, 2) := by decide +kernel
theorem dX12_wakesBy_34 : decode cX12_wakesBy 34 = .ok (.iload 5, 2) := by decide +kernel
theorem dX12_wakesBy_36 : decode cX12_wakesBy 36 = .ok (.iadd, 1) := by decide +kernel
theorem dX12_wakesBy_37 : decode cX12_wakesBy 37 = .ok (.iaload, 1) := by decide +kernel
theorem dX12_wakesBy_38 : decode cX12_wakesBy 38 = .ok (.iaload, 1) := by decide +kernel
theorem dX12_wakesBy_39 : decode cX12_wakesBy 39 = .ok (.imul, 1) := by decide +kernel
theorem dX12_wakesBy_40 : decode cX12_wakesBy 40 = .ok (.isub, 1) := by decide +kernel
theorem dX12_wakesBy_41 : decode cX12_wakesBy 41 = .ok (.istore 6, 2) := by decide +kernel
theorem dX12_wakesBy_43 : decode cX12_wakesBy 43 = .ok (.iload 4, 2) := by decide +kernel
theorem dX12_wakesBy_45 : decode cX12_wakesBy 45 = .ok (.iload 6, 2) := by decide +kernel
theorem dX12_wakesBy_47 : decode cX12_wakesBy 47 = .ok (.ifCond .le 23, 3) := by decide +kernel
theorem dX12_wakesBy_50 : decode cX12_wakesBy 50 = .ok (.iload 6, 2) := by decide +kernel
theorem dX12_wakesBy_52 : decode cX12_wakesBy 52 = .ok (.aload_n 0, 1) := by decide +kernel
theorem dX12_wakesBy_53 : decode cX12_wakesBy 53 = .ok (.iload 5, 2) := by decide +kernel
theorem dX12_wakesBy_55 : decode cX12_wakesBy 55 = .ok (.iload_n 2, 1) := by decide +kernel
theorem dX12_wakesBy_56 : decode cX12_wakesBy 56 = .ok (.iload_n 3, 1) := by decide +kernel
theorem dX12_wakesBy_57 : decode cX12_wakesBy 57 = .ok (.invokevirtual 202, 3) := by decide +kernel
theorem dX12_wakesBy_60 : decode cX12_wakesBy 60 = .ok (.if_icmp .lt 10, 3) := by decide +kernel
theorem dX12_wakesBy_63 : decode cX12_wakesBy 63 = .ok (.iconst 1, 1) := by decide +kernel
theorem dX12_wakesBy_64 : decode cX12_wakesBy 64 = .ok (.iload 5, 2) := by decide +kernel
theorem dX12_wakesBy_66 : decode cX12_wakesBy 66 = .ok (.ishl, 1) := by decide +kernel
theorem dX12_wakesBy_67 : decode cX12_wakesBy 67 = .ok (.goto 4, 3) := by decide +kernel
theorem dX12_wakesBy_70 : decode cX12_wakesBy 70 = .ok (.iconst 0, 1) := by decide +kernel
theorem dX12_wakesBy_71 : decode cX12_wakesBy 71 = .ok (.ior, 1) := by decide +kernel
theorem dX12_wakesBy_72 : decode cX12_wakesBy 72 = .ok (.istore 4, 2) := by decide +kernel
theorem dX12_wakesBy_74 : decode cX12_wakesBy 74 = .ok (.iinc 5 1, 3) := by decide +kernel
theorem dX12_wakesBy_77 : decode cX12_wakesBy 77 = .ok (.goto (-66), 3) := by decide +kernel
theorem dX12_wakesBy_80 : decode cX12_wakesBy 80 = .ok (.iload 4, 2) := by decide +kernel
theorem dX12_wakesBy_82 : decode cX12_wakesBy 82 = .ok (.ireturn, 1) := by decide +kernel
theorem dX12_wakes_0 : decode cX12_wakes 0 = .ok (.iload_n 1, 1) := by decide +kernel
theorem dX12_wakes_1 : decode cX12_wakes 1 = .ok (.i2l, 1) := by decide +kernel
theorem dX12_wakes_2 : decode cX12_wakes 2 = .ok (.lconst 0, 1) := by decide +kernel
theorem dX12_wakes_3 : decode cX12_wakes 3 = .ok (.ldc2_w 206, 3) := by decide +kernel
theorem dX12_wakes_6 : decode cX12_wakes 6 = .ok (.invokestatic 75, 3) := by decide +kernel
theorem dX12_wakes_9 : decode cX12_wakes 9 = .ok (.ifCond .eq 27, 3) := by decide +kernel
theorem dX12_wakes_12 : decode cX12_wakes 12 = .ok (.iload_n 2, 1) := by decide +kernel
theorem dX12_wakes_13 : decode cX12_wakes 13 = .ok (.invokestatic 89, 3) := by decide +kernel
theorem dX12_wakes_16 : decode cX12_wakes 16 = .ok (.ifCond .eq 20, 3) := by decide +kernel
theorem dX12_wakes_19 : decode cX12_wakes 19 = .ok (.iload_n 3, 1) := by decide +kernel
theorem dX12_wakes_20 : decode cX12_wakes 20 = .ok (.invokestatic 208, 3) := by decide +kernel
theorem dX12_wakes_23 : decode cX12_wakes 23 = .ok (.ifCond .eq 13, 3) := by decide +kernel
theorem dX12_wakes_26 : decode cX12_wakes 26 = .ok (.aload_n 0, 1) := by decide +kernel
theorem dX12_wakes_27 : decode cX12_wakes 27 = .ok (.iload_n 1, 1) := by decide +kernel
theorem dX12_wakes_28 : decode cX12_wakes 28 = .ok (.iload_n 2, 1) := by decide +kernel
theorem dX12_wakes_29 : decode cX12_wakes 29 = .ok (.iload_n 3, 1) := by decide +kernel
theorem dX12_wakes_30 : decode cX12_wakes 30 = .ok (.invokevirtual 211, 3) := by decide +kernel
theorem dX12_wakes_33 : decode cX12_wakes 33 = .ok (.goto 7, 3) := by decide +kernel
theorem dX12_wakes_36 : decode cX12_wakes 36 = .ok (.aload_n 0, 1) := by decide +kernel
theorem dX12_wakes_37 : decode cX12_wakes 37 = .ok (.invokevirtual 95, 3) := by decide +kernel
theorem dX12_wakes_40 : decode cX12_wakes 40 = .ok (.ireturn, 1) := by decide +kernel
theorem dX12_loud_0 : decode cX12_loud 0 = .ok (.iload_n 1, 1) := by decide +kernel
theorem dX12_loud_1 : decode cX12_loud 1 = .ok (.invokestatic 89, 3) := by decide +kernel
theorem dX12_loud_4 : decode cX12_loud 4 = .ok (.ifCond .eq 10, 3) := by decide +kernel
theorem dX12_loud_7 : decode cX12_loud 7 = .ok (.iload_n 2, 1) := by decide +kernel
theorem dX12_loud_8 : decode cX12_loud 8 = .ok (.invokestatic 208, 3) := by decide +kernel
theorem dX12_loud_11 : decode cX12_loud 11 = .ok (.ifCond .ne 8, 3) := by decide +kernel
theorem dX12_loud_14 : decode cX12_loud 14 = .ok (.aload_n 0, 1) := by decide +kernel
theorem dX12_loud_15 : decode cX12_loud 15 = .ok (.invokevirtual 95, 3) := by decide +kernel
theorem dX12_loud_18 : decode cX12_loud 18 = .ok (.ireturn, 1) := by decide +kernel
theorem dX12_loud_19 : decode cX12_loud 19 = .ok (.iconst 0, 1) := by decide +kernel
theorem dX12_loud_20 : decode cX12_loud 20 = .ok (.istore_n 3, 1) := by decide +kernel
theorem dX12_loud_21 : decode cX12_loud 21 = .ok (.iconst 1, 1) := by decide +kernel
theorem dX12_loud_22 : decode cX12_loud 22 = .ok (.istore 4, 2) := by decide +kernel
theorem dX12_loud_24 : decode cX12_loud 24 = .ok (.iload 4, 2) := by decide +kernel
theorem dX12_loud_26 : decode cX12_loud 26 = .ok (.bipush 30, 2) := by decide +kernel
theorem dX12_loud_28 : decode cX12_loud 28 = .ok (.if_icmp .gt 27, 3) := by decide +kernel
theorem dX12_loud_31 : decode cX12_loud 31 = .ok (.aload_n 0, 1) := by decide +kernel
theorem dX12_loud_32 : decode cX12_loud 32 = .ok (.iload 4, 2) := by decide +kernel
theorem dX12_loud_34 : decode cX12_loud 34 = .ok (.iload_n 1, 1) := by decide +kernel
theorem dX12_loud_35 : decode cX12_loud 35 = .ok (.iload_n 2, 1) := by decide +kernel
theorem dX12_loud_36 : decode cX12_loud 36 = .ok (.invokevirtual 211, 3) := by decide +kernel
theorem dX12_loud_39 : decode cX12_loud 39 = .ok (.ifCond .ne 8, 3) := by decide +kernel
theorem dX12_loud_42 : decode cX12_loud 42 = .ok (.iload 4, 2) := by decide +kernel
theorem dX12_loud_44 : decode cX12_loud 44 = .ok (.goto 4, 3) := by decide +kernel
theorem dX12_loud_47 : decode cX12_loud 47 = .ok (.iload_n 3, 1) := by decide +kernel
theorem dX12_loud_48 : decode cX12_loud 48 = .ok (.istore_n 3, 1) := by decide +kernel
theorem dX12_loud_49 : decode cX12_loud 49 = .ok (.iinc 4 1, 3) := by decide +kernel
theorem dX12_loud_52 : decode cX12_loud 52 = .ok (.goto (-28), 3) := by decide +kernel
theorem dX12_loud_55 : decode cX12_loud 55 = .ok (.iload_n 3, 1) := by decide +kernel
theorem dX12_loud_56 : decode cX12_loud 56 = .ok (.ireturn, 1) := by decide +kernel
theorem dX12_note_0 : decode cX12_note 0 = .ok (.aload_n 0, 1) := by decide +kernel
theorem dX12_note_1 : decode cX12_note 1 = .ok (.getfield 81, 3) := by decide +kernel
theorem dX12_note_4 : decode cX12_note 4 = .ok (.bipush 8, 2) := by decide +kernel
theorem dX12_note_6 : decode cX12_note 6 = .ok (.if_icmp .ne 41, 3) := by decide +kernel
theorem dX12_note_9 : decode cX12_note 9 = .ok (.iconst 0, 1) := by decide +kernel
theorem dX12_note_10 : decode cX12_note 10 = .ok (.istore_n 1, 1) := by decide +kernel
theorem dX12_note_11 : decode cX12_note 11 = .ok (.iload_n 1, 1) := by decide +kernel
theorem dX12_note_12 : decode cX12_note 12 = .ok (.bipush 35, 2) := by decide +kernel
theorem dX12_note_14 : decode cX12_note 14 = .ok (.if_icmp .ge 23, 3) := by decide +kernel
theorem dX12_note_17 : decode cX12_note 17 = .ok (.aload_n 0, 1) := by decide +kernel
theorem dX12_note_18 : decode cX12_note 18 = .ok (.getfield 29, 3) := by decide +kernel
theorem dX12_note_21 : decode cX12_note 21 = .ok (.iload_n 1, 1) := by decide +kernel
theorem dX12_note_22 : decode cX12_note 22 = .ok (.aload_n 0, 1) := by decide +kernel
theorem dX12_note_23 : decode cX12_note 23 = .ok (.getfield 29, 3) := by decide +kernel
theorem dX12_note_26 : decode cX12_note 26 = .ok (.iload_n 1, 1) := by decide +kernel
theorem dX12_note_27 : decode cX12_note 27 = .ok (.iconst 5, 1) := by decide +kernel
theorem dX12_note_28 : decode cX12_note 28 = .ok (.iadd, 1) := by decide +kernel
theorem dX12_note_29 : decode cX12_note 29 = .ok (.iaload, 1) := by decide +kernel
theorem dX12_note_30 : decode cX12_note 30 = .ok (.iastore, 1) := by decide +kernel
theorem dX12_note_31 : decode cX12_note 31 = .ok (.iinc 1 1, 3) := by decide +kernel
theorem dX12_note_34 : decode cX12_note 34 = .ok (.goto (-23), 3) := by decide +kernel
theorem dX12_note_37 : decode cX12_note 37 = .ok (.aload_n 0, 1) := by decide +kernel
theorem dX12_note_38 : decode cX12_note 38 = .ok (.dup, 1) := by decide +kernel
theorem dX12_note_39 : decode cX12_note 39 = .ok (.getfield 81, 3) := by decide +kernel
theorem dX12_note_42 : decode cX12_note 42 = .ok (.iconst 1, 1) := by decide +kernel
theorem dX12_note_43 : decode cX12_note 43 = .ok (.isub, 1) := by decide +kernel
theorem dX12_note_44 : decode cX12_note 44 = .ok (.putfield 81, 3) := by decide +kernel
theorem dX12_note_47 : decode cX12_note 47 = .ok (.iconst 0, 1) := by decide +kernel
theorem dX12_note_48 : decode cX12_note 48 = .ok (.istore_n 1, 1) := by decide +kernel
theorem dX12_note_49 : decode cX12_note 49 = .ok (.iload_n 1, 1) := by decide +kernel
theorem dX12_note_50 : decode cX12_note 50 = .ok (.iconst 5, 1) := by decide +kernel
theorem dX12_note_51 : decode cX12_note 51 = .ok (.if_icmp .ge 28, 3) := by decide +kernel
theorem dX12_note_54 : decode cX12_note 54 = .ok (.aload_n 0, 1) := by decide +kernel
theorem dX12_note_55 : decode cX12_note 55 = .ok (.getfield 29, 3) := by decide +kernel
theorem dX12_note_58 : decode cX12_note 58 = .ok (.iconst 5, 1) := by decide +kernel
theorem dX12_note_59 : decode cX12_note 59 = .ok (.aload_n 0, 1) := by decide +kernel
theorem dX12_note_60 : decode cX12_note 60 = .ok (.getfield 81, 3) := by decide +kernel
theorem dX12_note_63 : decode cX12_note 63 = .ok (.imul, 1) := by decide +kernel
theorem dX12_note_64 : decode cX12_note 64 = .ok (.iload_n 1, 1) := by decide +kernel
theorem dX12_note_65 : decode cX12_note 65 = .ok (.iadd, 1) := by decide +kernel
theorem dX12_note_66 : decode cX12_note 66 = .ok (.aload_n 0, 1) := by decide +kernel
theorem dX12_note_67 : decode cX12_note 67 = .ok (.getfield 7, 3) := by decide +kernel
theorem dX12_note_70 : decode cX12_note 70 = .ok (.iload_n 1, 1) := by decide +kernel
theorem dX12_note_71 : decode cX12_note 71 = .ok (.iaload, 1) := by decide +kernel
theorem dX12_note_72 : decode cX12_note 72 = .ok (.iastore, 1) := by decide +kernel
theorem dX12_note_73 : decode cX12_note 73 = .ok (.iinc 1 1, 3) := by decide +kernel
theorem dX12_note_76 : decode cX12_note 76 = .ok (.goto (-27), 3) := by decide +kernel
theorem dX12_note_79 : decode cX12_note 79 = .ok (.aload_n 0, 1) := by decide +kernel
theorem dX12_note_80 : decode cX12_note 80 = .ok (.dup, 1) := by decide +kernel
theorem dX12_note_81 : decode cX12_note 81 = .ok (.getfield 81, 3) := by decide +kernel
theorem dX12_note_84 : decode cX12_note 84 = .ok (.iconst 1, 1) := by decide +kernel
theorem dX12_note_85 : decode cX12_note 85 = .ok (.iadd, 1) := by decide +kernel
theorem dX12_note_86 : decode cX12_note 86 = .ok (.putfield 81, 3) := by decide +kernel
theorem dX12_note_89 : decode cX12_note 89 = .ok (.return_, 1) := by decide +kernel
theorem dX12_passes_0 : decode cX12_passes 0 = .ok (.aload_n 0, 1) := by decide +kernel
theorem dX12_passes_1 : decode cX12_passes 1 = .ok (.getfield 7, 3) := by decide +kernel
theorem dX12_passes_4 : decode cX12_passes 4 = .ok (.iconst 0, 1) := by decide +kernel
theorem dX12_passes_5 : decode cX12_passes 5 = .ok (.aload_n 0, 1) := by decide +kernel
theorem dX12_passes_6 : decode cX12_passes 6 = .ok (.getfield 7, 3) := by decide +kernel
theorem dX12_passes_9 : decode cX12_passes 9 = .ok (.iconst 0, 1) := by decide +kernel
theorem dX12_passes_10 : decode cX12_passes 10 = .ok (.iaload, 1) := by decide +kernel
theorem dX12_passes_11 : decode cX12_passes 11 = .ok (.iload_n 1, 1) := by decide +kernel
theorem dX12_passes_12 : decode cX12_passes 12 = .ok (.iadd, 1) := by decide +kernel
theorem dX12_passes_13 : decode cX12_passes 13 = .ok (.bipush 59, 2) := by decide +kernel
theorem dX12_passes_15 : decode cX12_passes 15 = .ok (.if_icmp .le 8, 3) := by decide +kernel
theorem dX12_passes_18 : decode cX12_passes 18 = .ok (.bipush 59, 2) := by decide +kernel
theorem dX12_passes_20 : decode cX12_passes 20 = .ok (.goto 11, 3) := by decide +kernel
theorem dX12_passes_23 : decode cX12_passes 23 = .ok (.aload_n 0, 1) := by decide +kernel
theorem dX12_passes_24 : decode cX12_passes 24 = .ok (.getfield 7, 3) := by decide +kernel
theorem dX12_passes_27 : decode cX12_passes 27 = .ok (.iconst 0, 1) := by decide +kernel
theorem dX12_passes_28 : decode cX12_passes 28 = .ok (.iaload, 1) := by decide +kernel
theorem dX12_passes_29 : decode cX12_passes 29 = .ok (.iload_n 1, 1) := by decide +kernel
theorem dX12_passes_30 : decode cX12_passes 30 = .ok (.iadd, 1) := by decide +kernel
theorem dX12_passes_31 : decode cX12_passes 31 = .ok (.iastore, 1) := by decide +kernel
theorem dX12_passes_32 : decode cX12_passes 32 = .ok (.return_, 1) := by decide +kernel
theorem dX12_goes_0 : decode cX12_goes 0 = .ok (.aload_n 0, 1) := by decide +kernel
theorem dX12_goes_1 : decode cX12_goes 1 = .ok (.aload_n 0, 1) := by decide +kernel
theorem dX12_goes_2 : decode cX12_goes 2 = .ok (.aload_n 0, 1) := by decide +kernel
theorem dX12_goes_3 : decode cX12_goes 3 = .ok (.getfield 7, 3) := by decide +kernel
theorem dX12_goes_6 : decode cX12_goes 6 = .ok (.iconst 2, 1) := by decide +kernel
theorem dX12_goes_7 : decode cX12_goes 7 = .ok (.iload_n 1, 1) := by decide +kernel
theorem dX12_goes_8 : decode cX12_goes 8 = .ok (.iadd, 1) := by decide +kernel
theorem dX12_goes_9 : decode cX12_goes 9 = .ok (.iaload, 1) := by decide +kernel
theorem dX12_goes_10 : decode cX12_goes 10 = .ok (.iload_n 2, 1) := by decide +kernel
theorem dX12_goes_11 : decode cX12_goes 11 = .ok (.invokevirtual 99, 3) := by decide +kernel
theorem dX12_goes_14 : decode cX12_goes 14 = .ok (.iload_n 2, 1) := by decide +kernel
theorem dX12_goes_15 : decode cX12_goes 15 = .ok (.aload_n 0, 1) := by decide +kernel
theorem dX12_goes_16 : decode cX12_goes 16 = .ok (.getfield 7, 3) := by decide +kernel
theorem dX12_goes_19 : decode cX12_goes 19 = .ok (.iconst 0, 1) := by decide +kernel
theorem dX12_goes_20 : decode cX12_goes 20 = .ok (.iaload, 1) := by decide +kernel
theorem dX12_goes_21 : decode cX12_goes 21 = .ok (.invokevirtual 211, 3) := by decide +kernel
theorem dX12_goes_24 : decode cX12_goes 24 = .ok (.istore_n 3, 1) := by decide +kernel
theorem dX12_goes_25 : decode cX12_goes 25 = .ok (.aload_n 0, 1) := by decide +kernel
theorem dX12_goes_26 : decode cX12_goes 26 = .ok (.getfield 7, 3) := by decide +kernel
theorem dX12_goes_29 : decode cX12_goes 29 = .ok (.iconst 2, 1) := by decide +kernel
theorem dX12_goes_30 : decode cX12_goes 30 = .ok (.iload_n 1, 1) := by decide +kernel
theorem dX12_goes_31 : decode cX12_goes 31 = .ok (.iadd, 1) := by decide +kernel
theorem dX12_goes_32 : decode cX12_goes 32 = .ok (.iload_n 2, 1) := by decide +kernel
theorem dX12_goes_33 : decode cX12_goes 33 = .ok (.iastore, 1) := by decide +kernel
theorem dX12_goes_34 : decode cX12_goes 34 = .ok (.aload_n 0, 1) := by decide +kernel
theorem dX12_goes_35 : decode cX12_goes 35 = .ok (.getfield 7, 3) := by decide +kernel
theorem dX12_goes_38 : decode cX12_goes 38 = .ok (.iconst 1, 1) := by decide +kernel
theorem dX12_goes_39 : decode cX12_goes 39 = .ok (.dup2, 1) := by decide +kernel
theorem dX12_goes_40 : decode cX12_goes 40 = .ok (.iaload, 1) := by decide +kernel
theorem dX12_goes_41 : decode cX12_goes 41 = .ok (.iload_n 3, 1) := by decide +kernel
theorem dX12_goes_42 : decode cX12_goes 42 = .ok (.ior, 1) := by decide +kernel
theorem dX12_goes_43 : decode cX12_goes 43 = .ok (.iastore, 1) := by decide +kernel
theorem dX12_goes_44 : decode cX12_goes 44 = .ok (.iload_n 3, 1) := by decide +kernel
theorem dX12_goes_45 : decode cX12_goes 45 = .ok (.ireturn, 1) := by decide +kernel
theorem dX12_step_0 : decode cX12_step 0 = .ok (.iload_n 1, 1) := by decide +kernel
theorem dX12_step_1 : decode cX12_step 1 = .ok (.i2l, 1) := by decide +kernel
theorem dX12_step_2 : decode cX12_step 2 = .ok (.lconst 0, 1) := by decide +kernel
theorem dX12_step_3 : decode cX12_step 3 = .ok (.ldc2_w 118, 3) := by decide +kernel
theorem dX12_step_6 : decode cX12_step 6 = .ok (.invokestatic 75, 3) := by decide +kernel
theorem dX12_step_9 : decode cX12_step 9 = .ok (.ifCond .eq 10, 3) := by decide +kernel
theorem dX12_step_12 : decode cX12_step 12 = .ok (.iload_n 2, 1) := by decide +kernel
theorem dX12_step_13 : decode cX12_step 13 = .ok (.invokestatic 89, 3) := by decide +kernel
theorem dX12_step_16 : decode cX12_step 16 = .ok (.ifCond .ne 8, 3) := by decide +kernel
theorem dX12_step_19 : decode cX12_step 19 = .ok (.aload_n 0, 1) := by decide +kernel
theorem dX12_step_20 : decode cX12_step 20 = .ok (.invokevirtual 95, 3) := by decide +kernel
theorem dX12_step_23 : decode cX12_step 23 = .ok (.ireturn, 1) := by decide +kernel
theorem dX12_step_24 : decode cX12_step 24 = .ok (.aload_n 0, 1) := by decide +kernel
theorem dX12_step_25 : decode cX12_step 25 = .ok (.aload_n 0, 1) := by decide +kernel
theorem dX12_step_26 : decode cX12_step 26 = .ok (.getfield 7, 3) := by decide +kernel
theorem dX12_step_29 : decode cX12_step 29 = .ok (.iconst 2, 1) := by decide +kernel
theorem dX12_step_30 : decode cX12_step 30 = .ok (.iload_n 1, 1) := by decide +kernel
theorem dX12_step_31 : decode cX12_step 31 = .ok (.iadd, 1) := by decide +kernel
theorem dX12_step_32 : decode cX12_step 32 = .ok (.iaload, 1) := by decide +kernel
theorem dX12_step_33 : decode cX12_step 33 = .ok (.iload_n 2, 1) := by decide +kernel
theorem dX12_step_34 : decode cX12_step 34 = .ok (.invokevirtual 99, 3) := by decide +kernel
theorem dX12_step_37 : decode cX12_step 37 = .ok (.ifCond .ge 8, 3) := by decide +kernel
theorem dX12_step_40 : decode cX12_step 40 = .ok (.aload_n 0, 1) := by decide +kernel
theorem dX12_step_41 : decode cX12_step 41 = .ok (.invokevirtual 214, 3) := by decide +kernel
theorem dX12_step_44 : decode cX12_step 44 = .ok (.ireturn, 1) := by decide +kernel
theorem dX12_step_45 : decode cX12_step 45 = .ok (.aload_n 0, 1) := by decide +kernel
theorem dX12_step_46 : decode cX12_step 46 = .ok (.invokevirtual 217, 3) := by decide +kernel
theorem dX12_step_49 : decode cX12_step 49 = .ok (.aload_n 0, 1) := by decide +kernel
theorem dX12_step_50 : decode cX12_step 50 = .ok (.iload_n 1, 1) := by decide +kernel
theorem dX12_step_51 : decode cX12_step 51 = .ok (.iload_n 2, 1) := by decide +kernel
theorem dX12_step_52 : decode cX12_step 52 = .ok (.invokevirtual 220, 3) := by decide +kernel
theorem dX12_step_55 : decode cX12_step 55 = .ok (.istore_n 3, 1) := by decide +kernel
theorem dX12_step_56 : decode cX12_step 56 = .ok (.aload_n 0, 1) := by decide +kernel
theorem dX12_step_57 : decode cX12_step 57 = .ok (.iconst 1, 1) := by decide +kernel
theorem dX12_step_58 : decode cX12_step 58 = .ok (.invokevirtual 223, 3) := by decide +kernel
theorem dX12_step_61 : decode cX12_step 61 = .ok (.iload_n 3, 1) := by decide +kernel
theorem dX12_step_62 : decode cX12_step 62 = .ok (.ireturn, 1) := by decide +kernel
theorem dX12_waits_0 : decode cX12_waits 0 = .ok (.iload_n 1, 1) := by decide +kernel
theorem dX12_waits_1 : decode cX12_waits 1 = .ok (.i2l, 1) := by decide +kernel
theorem dX12_waits_2 : decode cX12_waits 2 = .ok (.lconst 1, 1) := by decide +kernel
theorem dX12_waits_3 : decode cX12_waits 3 = .ok (.ldc2_w 79, 3) := by decide +kernel
theorem dX12_waits_6 : decode cX12_waits 6 = .ok (.invokestatic 75, 3) := by decide +kernel
theorem dX12_waits_9 : decode cX12_waits 9 = .ok (.ifCond .ne 8, 3) := by decide +kernel
theorem dX12_waits_12 : decode cX12_waits 12 = .ok (.aload_n 0, 1) := by decide +kernel
theorem dX12_waits_13 : decode cX12_waits 13 = .ok (.invokevirtual 95, 3) := by decide +kernel
theorem dX12_waits_16 : decode cX12_waits 16 = .ok (.ireturn, 1) := by decide +kernel
theorem dX12_waits_17 : decode cX12_waits 17 = .ok (.aload_n 0, 1) := by decide +kernel
theorem dX12_waits_18 : decode cX12_waits 18 = .ok (.invokevirtual 217, 3) := by decide +kernel
theorem dX12_waits_21 : decode cX12_waits 21 = .ok (.aload_n 0, 1) := by decide +kernel
theorem dX12_waits_22 : decode cX12_waits 22 = .ok (.iload_n 1, 1) := by decide +kernel
theorem dX12_waits_23 : decode cX12_waits 23 = .ok (.invokevirtual 223, 3) := by decide +kernel
theorem dX12_waits_26 : decode cX12_waits 26 = .ok (.aload_n 0, 1) := by decide +kernel
theorem dX12_waits_27 : decode cX12_waits 27 = .ok (.getfield 7, 3) := by decide +kernel
theorem dX12_waits_30 : decode cX12_waits 30 = .ok (.iconst 0, 1) := by decide +kernel
theorem dX12_waits_31 : decode cX12_waits 31 = .ok (.iaload, 1) := by decide +kernel
theorem dX12_waits_32 : decode cX12_waits 32 = .ok (.ireturn, 1) := by decide +kernel
theorem dX12_undo_0 : decode cX12_undo 0 = .ok (.aload_n 0, 1) := by decide +kernel
theorem dX12_undo_1 : decode cX12_undo 1 = .ok (.getfield 81, 3) := by decide +kernel
theorem dX12_undo_4 : decode cX12_undo 4 = .ok (.ifCond .ne 8, 3) := by decide +kernel
theorem dX12_undo_7 : decode cX12_undo 7 = .ok (.aload_n 0, 1) := by decide +kernel
theorem dX12_undo_8 : decode cX12_undo 8 = .ok (.invokevirtual 214, 3) := by decide +kernel
theorem dX12_undo_11 : decode cX12_undo 11 = .ok (.ireturn, 1) := by decide +kernel
theorem dX12_undo_12 : decode cX12_undo 12 = .ok (.aload_n 0, 1) := by decide +kernel
theorem dX12_undo_13 : decode cX12_undo 13 = .ok (.dup, 1) := by decide +kernel
theorem dX12_undo_14 : decode cX12_undo 14 = .ok (.getfield 81, 3) := by decide +kernel
theorem dX12_undo_17 : decode cX12_undo 17 = .ok (.iconst 1, 1) := by decide +kernel
theorem dX12_undo_18 : decode cX12_undo 18 = .ok (.isub, 1) := by decide +kernel
theorem dX12_undo_19 : decode cX12_undo 19 = .ok (.putfield 81, 3) := by decide +kernel
theorem dX12_undo_22 : decode cX12_undo 22 = .ok (.iconst 0, 1) := by decide +kernel
theorem dX12_undo_23 : decode cX12_undo 23 = .ok (.istore_n 1, 1) := by decide +kernel
theorem dX12_undo_24 : decode cX12_undo 24 = .ok (.iload_n 1, 1) := by decide +kernel
theorem dX12_undo_25 : decode cX12_undo 25 = .ok (.iconst 5, 1) := by decide +kernel
theorem dX12_undo_26 : decode cX12_undo 26 = .ok (.if_icmp .ge 28, 3) := by decide +kernel
theorem dX12_undo_29 : decode cX12_undo 29 = .ok (.aload_n 0, 1) := by decide +kernel
theorem dX12_undo_30 : decode cX12_undo 30 = .ok (.getfield 7, 3) := by decide +kernel
theorem dX12_undo_33 : decode cX12_undo 33 = .ok (.iload_n 1, 1) := by decide +kernel
theorem dX12_undo_34 : decode cX12_undo 34 = .ok (.aload_n 0, 1) := by decide +kernel
theorem dX12_undo_35 : decode cX12_undo 35 = .ok (.getfield 29, 3) := by decide +kernel
theorem dX12_undo_38 : decode cX12_undo 38 = .ok (.iconst 5, 1) := by decide +kernel
theorem dX12_undo_39 : decode cX12_undo 39 = .ok (.aload_n 0, 1) := by decide +kernel
theorem dX12_undo_40 : decode cX12_undo 40 = .ok (.getfield 81, 3) := by decide +kernel
theorem dX12_undo_43 : decode cX12_undo 43 = .ok (.imul, 1) := by decide +kernel
theorem dX12_undo_44 : decode cX12_undo 44 = .ok (.iload_n 1, 1) := by decide +kernel
theorem dX12_undo_45 : decode cX12_undo 45 = .ok (.iadd, 1) := by decide +kernel
theorem dX12_undo_46 : decode cX12_undo 46 = .ok (.iaload, 1) := by decide +kernel
theorem dX12_undo_47 : decode cX12_undo 47 = .ok (.iastore, 1) := by decide +kernel
theorem dX12_undo_48 : decode cX12_undo 48 = .ok (.iinc 1 1, 3) := by decide +kernel
theorem dX12_undo_51 : decode cX12_undo 51 = .ok (.goto (-27), 3) := by decide +kernel
theorem dX12_undo_54 : decode cX12_undo 54 = .ok (.aload_n 0, 1) := by decide +kernel
theorem dX12_undo_55 : decode cX12_undo 55 = .ok (.getfield 7, 3) := by decide +kernel
theorem dX12_undo_58 : decode cX12_undo 58 = .ok (.iconst 0, 1) := by decide +kernel
theorem dX12_undo_59 : decode cX12_undo 59 = .ok (.iaload, 1) := by decide +kernel
theorem dX12_undo_60 : decode cX12_undo 60 = .ok (.ireturn, 1) := by decide +kernel
theorem dX12_of_0 : decode cX12_of 0 = .ok (.aload_n 0, 1) := by decide +kernel
theorem dX12_of_1 : decode cX12_of 1 = .ok (.iload_n 1, 1) := by decide +kernel
theorem dX12_of_2 : decode cX12_of 2 = .ok (.invokevirtual 226, 3) := by decide +kernel
theorem dX12_of_5 : decode cX12_of 5 = .ok (.ifCond .eq 15, 3) := by decide +kernel
theorem dX12_of_8 : decode cX12_of 8 = .ok (.iload_n 2, 1) := by decide +kernel
theorem dX12_of_9 : decode cX12_of 9 = .ok (.i2l, 1) := by decide +kernel
theorem dX12_of_10 : decode cX12_of 10 = .ok (.lconst 0, 1) := by decide +kernel
theorem dX12_of_11 : decode cX12_of 11 = .ok (.ldc2_w 229, 3) := by decide +kernel
theorem dX12_of_14 : decode cX12_of 14 = .ok (.invokestatic 75, 3) := by decide +kernel
theorem dX12_of_17 : decode cX12_of 17 = .ok (.ifCond .ne 8, 3) := by decide +kernel
theorem dX12_of_20 : decode cX12_of 20 = .ok (.aload_n 0, 1) := by decide +kernel
theorem dX12_of_21 : decode cX12_of 21 = .ok (.invokevirtual 95, 3) := by decide +kernel
theorem dX12_of_24 : decode cX12_of 24 = .ok (.ireturn, 1) := by decide +kernel
theorem dX12_of_25 : decode cX12_of 25 = .ok (.iload_n 2, 1) := by decide +kernel
theorem dX12_of_26 : decode cX12_of 26 = .ok (.ifCond .ne 15, 3) := by decide +kernel
theorem dX12_of_29 : decode cX12_of 29 = .ok (.aload_n 0, 1) := by decide +kernel
theorem dX12_of_30 : decode cX12_of 30 = .ok (.getfield 7, 3) := by decide +kernel
theorem dX12_of_33 : decode cX12_of 33 = .ok (.bipush 6, 2) := by decide +kernel
theorem dX12_of_35 : decode cX12_of 35 = .ok (.iload_n 1, 1) := by decide +kernel
theorem dX12_of_36 : decode cX12_of 36 = .ok (.iadd, 1) := by decide +kernel
theorem dX12_of_37 : decode cX12_of 37 = .ok (.iaload, 1) := by decide +kernel
theorem dX12_of_38 : decode cX12_of 38 = .ok (.goto 47, 3) := by decide +kernel
theorem dX12_of_41 : decode cX12_of 41 = .ok (.iload_n 2, 1) := by decide +kernel
theorem dX12_of_42 : decode cX12_of 42 = .ok (.iconst 1, 1) := by decide +kernel
theorem dX12_of_43 : decode cX12_of 43 = .ok (.if_icmp .ne 15, 3) := by decide +kernel
theorem dX12_of_46 : decode cX12_of 46 = .ok (.aload_n 0, 1) := by decide +kernel
theorem dX12_of_47 : decode cX12_of 47 = .ok (.getfield 7, 3) := by decide +kernel
theorem dX12_of_50 : decode cX12_of 50 = .ok (.bipush 11, 2) := by decide +kernel
theorem dX12_of_52 : decode cX12_of 52 = .ok (.iload_n 1, 1) := by decide +kernel
theorem dX12_of_53 : decode cX12_of 53 = .ok (.iadd, 1) := by decide +kernel
theorem dX12_of_54 : decode cX12_of 54 = .ok (.iaload, 1) := by decide +kernel
theorem dX12_of_55 : decode cX12_of 55 = .ok (.goto 30, 3) := by decide +kernel
theorem dX12_of_58 : decode cX12_of 58 = .ok (.iload_n 2, 1) := by decide +kernel
theorem dX12_of_59 : decode cX12_of 59 = .ok (.iconst 2, 1) := by decide +kernel
theorem dX12_of_60 : decode cX12_of 60 = .ok (.if_icmp .ne 15, 3) := by decide +kernel
theorem dX12_of_63 : decode cX12_of 63 = .ok (.aload_n 0, 1) := by decide +kernel
theorem dX12_of_64 : decode cX12_of 64 = .ok (.getfield 7, 3) := by decide +kernel
theorem dX12_of_67 : decode cX12_of 67 = .ok (.bipush 16, 2) := by decide +kernel
theorem dX12_of_69 : decode cX12_of 69 = .ok (.iload_n 1, 1) := by decide +kernel
theorem dX12_of_70 : decode cX12_of 70 = .ok (.iadd, 1) := by decide +kernel
theorem dX12_of_71 : decode cX12_of 71 = .ok (.iaload, 1) := by decide +kernel
theorem dX12_of_72 : decode cX12_of 72 = .ok (.goto 13, 3) := by decide +kernel
theorem dX12_of_75 : decode cX12_of 75 = .ok (.aload_n 0, 1) := by decide +kernel
theorem dX12_of_76 : decode cX12_of 76 = .ok (.getfield 7, 3) := by decide +kernel
theorem dX12_of_79 : decode cX12_of 79 = .ok (.iconst 1, 1) := by decide +kernel
theorem dX12_of_80 : decode cX12_of 80 = .ok (.iaload, 1) := by decide +kernel
theorem dX12_of_81 : decode cX12_of 81 = .ok (.iload_n 1, 1) := by decide +kernel
theorem dX12_of_82 : decode cX12_of 82 = .ok (.ishr, 1) := by decide +kernel
theorem dX12_of_83 : decode cX12_of 83 = .ok (.iconst 1, 1) := by decide +kernel
theorem dX12_of_84 : decode cX12_of 84 = .ok (.iand, 1) := by decide +kernel
theorem dX12_of_85 : decode cX12_of 85 = .ok (.ireturn, 1) := by decide +kernel
theorem dX12_where_0 : decode cX12_where 0 = .ok (.iload_n 1, 1) := by decide +kernel
theorem dX12_where_1 : decode cX12_where 1 = .ok (.i2l, 1) := by decide +kernel
theorem dX12_where_2 : decode cX12_where 2 = .ok (.lconst 0, 1) := by decide +kernel
theorem dX12_where_3 : decode cX12_where 3 = .ok (.ldc2_w 118, 3) := by decide +kernel
theorem dX12_where_6 : decode cX12_where 6 = .ok (.invokestatic 75, 3) := by decide +kernel
theorem dX12_where_9 : decode cX12_where 9 = .ok (.ifCond .eq 14, 3) := by decide +kernel
theorem dX12_where_12 : decode cX12_where 12 = .ok (.aload_n 0, 1) := by decide +kernel
theorem dX12_where_13 : decode cX12_where 13 = .ok (.getfield 7, 3) := by decide +kernel
theorem dX12_where_16 : decode cX12_where 16 = .ok (.iconst 2, 1) := by decide +kernel
theorem dX12_where_17 : decode cX12_where 17 = .ok (.iload_n 1, 1) := by decide +kernel
theorem dX12_where_18 : decode cX12_where 18 = .ok (.iadd, 1) := by decide +kernel
theorem dX12_where_19 : decode cX12_where 19 = .ok (.iaload, 1) := by decide +kernel
theorem dX12_where_20 : decode cX12_where 20 = .ok (.goto 7, 3) := by decide +kernel
theorem dX12_where_23 : decode cX12_where 23 = .ok (.aload_n 0, 1) := by decide +kernel
theorem dX12_where_24 : decode cX12_where 24 = .ok (.invokevirtual 95, 3) := by decide +kernel
theorem dX12_where_27 : decode cX12_where 27 = .ok (.ireturn, 1) := by decide +kernel
theorem dX12_isQuiet_0 : decode cX12_isQuiet 0 = .ok (.iload_n 1, 1) := by decide +kernel
theorem dX12_isQuiet_1 : decode cX12_isQuiet 1 = .ok (.iload_n 2, 1) := by decide +kernel
theorem dX12_isQuiet_2 : decode cX12_isQuiet 2 = .ok (.if_icmp .eq 27, 3) := by decide +kernel
theorem dX12_isQuiet_5 : decode cX12_isQuiet 5 = .ok (.aload_n 0, 1) := by decide +kernel
theorem dX12_isQuiet_6 : decode cX12_isQuiet 6 = .ok (.iload_n 1, 1) := by decide +kernel
theorem dX12_isQuiet_7 : decode cX12_isQuiet 7 = .ok (.iload_n 2, 1) := by decide +kernel
theorem dX12_isQuiet_8 : decode cX12_isQuiet 8 = .ok (.invokevirtual 99, 3) := by decide +kernel
theorem dX12_isQuiet_11 : decode cX12_isQuiet 11 = .ok (.ifCond .lt 22, 3) := by decide +kernel
theorem dX12_isQuiet_14 : decode cX12_isQuiet 14 = .ok (.aload_n 0, 1) := by decide +kernel
theorem dX12_isQuiet_15 : decode cX12_isQuiet 15 = .ok (.aload_n 0, 1) := by decide +kernel
theorem dX12_isQuiet_16 : decode cX12_isQuiet 16 = .ok (.iload_n 1, 1) := by decide +kernel
theorem dX12_isQuiet_17 : decode cX12_isQuiet 17 = .ok (.iload_n 2, 1) := by decide +kernel
theorem dX12_isQuiet_18 : decode cX12_isQuiet 18 = .ok (.invokevirtual 99, 3) := by decide +kernel
theorem dX12_isQuiet_21 : decode cX12_isQuiet 21 = .ok (.iload_n 2, 1) := by decide +kernel
theorem dX12_isQuiet_22 : decode cX12_isQuiet 22 = .ok (.iload_n 3, 1) := by decide +kernel
theorem dX12_isQuiet_23 : decode cX12_isQuiet 23 = .ok (.invokevirtual 211, 3) := by decide +kernel
theorem dX12_isQuiet_26 : decode cX12_isQuiet 26 = .ok (.ifCond .ne 7, 3) := by decide +kernel
theorem dX12_isQuiet_29 : decode cX12_isQuiet 29 = .ok (.iconst 1, 1) := by decide +kernel
theorem dX12_isQuiet_30 : decode cX12_isQuiet 30 = .ok (.goto 4, 3) := by decide +kernel
theorem dX12_isQuiet_33 : decode cX12_isQuiet 33 = .ok (.iconst 0, 1) := by decide +kernel
theorem dX12_isQuiet_34 : decode cX12_isQuiet 34 = .ok (.ireturn, 1) := by decide +kernel
theorem dX12_findQuiet_0 : decode cX12_findQuiet 0 = .ok (.iconst 0, 1) := by decide +kernel
theorem dX12_findQuiet_1 : decode cX12_findQuiet 1 = .ok (.istore_n 2, 1) := by decide +kernel
theorem dX12_findQuiet_2 : decode cX12_findQuiet 2 = .ok (.iload_n 2, 1) := by decide +kernel
theorem dX12_findQuiet_3 : decode cX12_findQuiet 3 = .ok (.bipush 64, 2) := by decide +kernel
theorem dX12_findQuiet_5 : decode cX12_findQuiet 5 = .ok (.if_icmp .ge 28, 3) := by decide +kernel
theorem dX12_findQuiet_8 : decode cX12_findQuiet 8 = .ok (.aload_n 0, 1) := by decide +kernel
theorem dX12_findQuiet_9 : decode cX12_findQuiet 9 = .ok (.getfield 32, 3) := by decide +kernel
theorem dX12_findQuiet_12 : decode cX12_findQuiet 12 = .ok (.iload_n 2, 1) := by decide +kernel
theorem dX12_findQuiet_13 : decode cX12_findQuiet 13 = .ok (.aload_n 0, 1) := by decide +kernel
theorem dX12_findQuiet_14 : decode cX12_findQuiet 14 = .ok (.iload_n 2, 1) := by decide +kernel
theorem dX12_findQuiet_15 : decode cX12_findQuiet 15 = .ok (.bipush 8, 2) := by decide +kernel
theorem dX12_findQuiet_17 : decode cX12_findQuiet 17 = .ok (.idiv, 1) := by decide +kernel
theorem dX12_findQuiet_18 : decode cX12_findQuiet 18 = .ok (.iload_n 2, 1) := by decide +kernel
theorem dX12_findQuiet_19 : decode cX12_findQuiet 19 = .ok (.bipush 8, 2) := by decide +kernel
theorem dX12_findQuiet_21 : decode cX12_findQuiet 21 = .ok (.irem, 1) := by decide +kernel
theorem dX12_findQuiet_22 : decode cX12_findQuiet 22 = .ok (.iload_n 1, 1) := by decide +kernel
theorem dX12_findQuiet_23 : decode cX12_findQuiet 23 = .ok (.invokevirtual 231, 3) := by decide +kernel
theorem dX12_findQuiet_26 : decode cX12_findQuiet 26 = .ok (.bastore, 1) := by decide +kernel
theorem dX12_findQuiet_27 : decode cX12_findQuiet 27 = .ok (.iinc 2 1, 3) := by decide +kernel
theorem dX12_findQuiet_30 : decode cX12_findQuiet 30 = .ok (.goto (-28), 3) := by decide +kernel
theorem dX12_findQuiet_33 : decode cX12_findQuiet 33 = .ok (.return_, 1) := by decide +kernel
theorem dX12_findWays_0 : decode cX12_findWays 0 = .ok (.bipush 59, 2) := by decide +kernel
theorem dX12_findWays_2 : decode cX12_findWays 2 = .ok (.istore_n 3, 1) := by decide +kernel
theorem dX12_findWays_3 : decode cX12_findWays 3 = .ok (.iload_n 3, 1) := by decide +kernel
theorem dX12_findWays_4 : decode cX12_findWays 4 = .ok (.iload_n 2, 1) := by decide +kernel
theorem dX12_findWays_5 : decode cX12_findWays 5 = .ok (.if_icmp .lt 136, 3) := by decide +kernel
theorem dX12_findWays_8 : decode cX12_findWays 8 = .ok (.aload_n 0, 1) := by decide +kernel
theorem dX12_findWays_9 : decode cX12_findWays 9 = .ok (.iload_n 3, 1) := by decide +kernel
theorem dX12_findWays_10 : decode cX12_findWays 10 = .ok (.invokevirtual 235, 3) := by decide +kernel
theorem dX12_findWays_13 : decode cX12_findWays 13 = .ok (.iconst 0, 1) := by decide +kernel
theorem dX12_findWays_14 : decode cX12_findWays 14 = .ok (.istore 4, 2) := by decide +kernel
theorem dX12_findWays_16 : decode cX12_findWays 16 = .ok (.iload 4, 2) := by decide +kernel
theorem dX12_findWays_18 : decode cX12_findWays 18 = .ok (.bipush 8, 2) := by decide +kernel
theorem dX12_findWays_20 : decode cX12_findWays 20 = .ok (.if_icmp .ge 115, 3) := by decide +kernel
theorem dX12_findWays_23 : decode cX12_findWays 23 = .ok (.iload 4, 2) := by decide +kernel
theorem dX12_findWays_25 : decode cX12_findWays 25 = .ok (.iload_n 1, 1) := by decide +kernel
theorem dX12_findWays_26 : decode cX12_findWays 26 = .ok (.if_icmp .ne 7, 3) := by decide +kernel
theorem dX12_findWays_29 : decode cX12_findWays 29 = .ok (.iconst 0, 1) := by decide +kernel
theorem dX12_findWays_30 : decode cX12_findWays 30 = .ok (.goto 5, 3) := by decide +kernel
theorem dX12_findWays_33 : decode cX12_findWays 33 = .ok (.bipush 99, 2) := by decide +kernel
theorem dX12_findWays_35 : decode cX12_findWays 35 = .ok (.istore 5, 2) := by decide +kernel
theorem dX12_findWays_37 : decode cX12_findWays 37 = .ok (.iconst 0, 1) := by decide +kernel
theorem dX12_findWays_38 : decode cX12_findWays 38 = .ok (.istore 6, 2) := by decide +kernel
theorem dX12_findWays_40 : decode cX12_findWays 40 = .ok (.iload 6, 2) := by decide +kernel
theorem dX12_findWays_42 : decode cX12_findWays 42 = .ok (.bipush 8, 2) := by decide +kernel
theorem dX12_findWays_44 : decode cX12_findWays 44 = .ok (.if_icmp .ge 71, 3) := by decide +kernel
theorem dX12_findWays_47 : decode cX12_findWays 47 = .ok (.iload_n 3, 1) := by decide +kernel
theorem dX12_findWays_48 : decode cX12_findWays 48 = .ok (.bipush 59, 2) := by decide +kernel
theorem dX12_findWays_50 : decode cX12_findWays 50 = .ok (.if_icmp .ge 65, 3) := by decide +kernel
theorem dX12_findWays_53 : decode cX12_findWays 53 = .ok (.iload 4, 2) := by decide +kernel
theorem dX12_findWays_55 : decode cX12_findWays 55 = .ok (.iload_n 1, 1) := by decide +kernel
theorem dX12_findWays_56 : decode cX12_findWays 56 = .ok (.if_icmp .eq 59, 3) := by decide +kernel
theorem dX12_findWays_59 : decode cX12_findWays 59 = .ok (.aload_n 0, 1) := by decide +kernel
theorem dX12_findWays_60 : decode cX12_findWays 60 = .ok (.getfield 36, 3) := by decide +kernel
theorem dX12_findWays_63 : decode cX12_findWays 63 = .ok (.bipush 8, 2) := by decide +kernel
theorem dX12_findWays_65 : decode cX12_findWays 65 = .ok (.iload_n 3, 1) := by decide +kernel
theorem dX12_findWays_66 : decode cX12_findWays 66 = .ok (.iconst 1, 1) := by decide +kernel
theorem dX12_findWays_67 : decode cX12_findWays 67 = .ok (.iadd, 1) := by decide +kernel
theorem dX12_findWays_68 : decode cX12_findWays 68 = .ok (.imul, 1) := by decide +kernel
theorem dX12_findWays_69 : decode cX12_findWays 69 = .ok (.iload 6, 2) := by decide +kernel
theorem dX12_findWays_71 : decode cX12_findWays 71 = .ok (.iadd, 1) := by decide +kernel
theorem dX12_findWays_72 : decode cX12_findWays 72 = .ok (.iaload, 1) := by decide +kernel
theorem dX12_findWays_73 : decode cX12_findWays 73 = .ok (.iconst 1, 1) := by decide +kernel
theorem dX12_findWays_74 : decode cX12_findWays 74 = .ok (.iadd, 1) := by decide +kernel
theorem dX12_findWays_75 : decode cX12_findWays 75 = .ok (.istore 7, 2) := by decide +kernel
theorem dX12_findWays_77 : decode cX12_findWays 77 = .ok (.iload 7, 2) := by decide +kernel
theorem dX12_findWays_79 : decode cX12_findWays 79 = .ok (.iload 5, 2) := by decide +kernel
theorem dX12_findWays_81 : decode cX12_findWays 81 = .ok (.if_icmp .ge 24, 3) := by decide +kernel
theorem dX12_findWays_84 : decode cX12_findWays 84 = .ok (.aload_n 0, 1) := by decide +kernel
theorem dX12_findWays_85 : decode cX12_findWays 85 = .ok (.getfield 32, 3) := by decide +kernel
theorem dX12_findWays_88 : decode cX12_findWays 88 = .ok (.bipush 8, 2) := by decide +kernel
theorem dX12_findWays_90 : decode cX12_findWays 90 = .ok (.iload 4, 2) := by decide +kernel
theorem dX12_findWays_92 : decode cX12_findWays 92 = .ok (.imul, 1) := by decide +kernel
theorem dX12_findWays_93 : decode cX12_findWays 93 = .ok (.iload 6, 2) := by decide +kernel
theorem dX12_findWays_95 : decode cX12_findWays 95 = .ok (.iadd, 1) := by decide +kernel
theorem dX12_findWays_96 : decode cX12_findWays 96 = .ok (.baload, 1) := by decide +kernel
theorem dX12_findWays_97 : decode cX12_findWays 97 = .ok (.ifCond .eq 8, 3) := by decide +kernel
theorem dX12_findWays_100 : decode cX12_findWays 100 = .ok (.iload 7, 2) := by decide +kernel
theorem dX12_findWays_102 : decode cX12_findWays 102 = .ok (.goto 5, 3) := by decide +kernel
theorem dX12_findWays_105 : decode cX12_findWays 105 = .ok (.iload 5, 2) := by decide +kernel
theorem dX12_findWays_107 : decode cX12_findWays 107 = .ok (.istore 5, 2) := by decide +kernel
theorem dX12_findWays_109 : decode cX12_findWays 109 = .ok (.iinc 6 1, 3) := by decide +kernel
theorem dX12_findWays_112 : decode cX12_findWays 112 = .ok (.goto (-72), 3) := by decide +kernel
theorem dX12_findWays_115 : decode cX12_findWays 115 = .ok (.aload_n 0, 1) := by decide +kernel
theorem dX12_findWays_116 : decode cX12_findWays 116 = .ok (.getfield 36, 3) := by decide +kernel
theorem dX12_findWays_119 : decode cX12_findWays 119 = .ok (.bipush 8, 2) := by decide +kernel
theorem dX12_findWays_121 : decode cX12_findWays 121 = .ok (.iload_n 3, 1) := by decide +kernel
theorem dX12_findWays_122 : decode cX12_findWays 122 = .ok (.imul, 1) := by decide +kernel
theorem dX12_findWays_123 : decode cX12_findWays 123 = .ok (.iload 4, 2) := by decide +kernel
theorem dX12_findWays_125 : decode cX12_findWays 125 = .ok (.iadd, 1) := by decide +kernel
theorem dX12_findWays_126 : decode cX12_findWays 126 = .ok (.iload 5, 2) := by decide +kernel
theorem dX12_findWays_128 : decode cX12_findWays 128 = .ok (.iastore, 1) := by decide +kernel
theorem dX12_findWays_129 : decode cX12_findWays 129 = .ok (.iinc 4 1, 3) := by decide +kernel
theorem dX12_findWays_132 : decode cX12_findWays 132 = .ok (.goto (-116), 3) := by decide +kernel
theorem dX12_findWays_135 : decode cX12_findWays 135 = .ok (.iinc 3 (-1), 3) := by decide +kernel
theorem dX12_findWays_138 : decode cX12_findWays 138 = .ok (.goto (-135), 3) := by decide +kernel
theorem dX12_findWays_141 : decode cX12_findWays 141 = .ok (.return_, 1) := by decide +kernel
end
section
theorem dX12_way_0 : decode cX12_way 0 = .ok (.iload_n 1, 1) := by decide +kernel
theorem dX12_way_1 : decode cX12_way 1 = .ok (.invokestatic 89, 3) := by decide +kernel
theorem dX12_way_4 : decode cX12_way 4 = .ok (.ifCond .eq 25, 3) := by decide +kernel
theorem dX12_way_7 : decode cX12_way 7 = .ok (.iload_n 2, 1) := by decide +kernel
theorem dX12_way_8 : decode cX12_way 8 = .ok (.invokestatic 89, 3) := by decide +kernel
theorem dX12_way_11 : decode cX12_way 11 = .ok (.ifCond .eq 18, 3) := by decide +kernel
theorem dX12_way_14 : decode cX12_way 14 = .ok (.iload_n 3, 1) := by decide +kernel
theorem dX12_way_15 : decode cX12_way 15 = .ok (.invokestatic 208, 3) := by decide +kernel
theorem dX12_way_18 : decode cX12_way 18 = .ok (.ifCond .eq 11, 3) := by decide +kernel
theorem dX12_way_21 : decode cX12_way 21 = .ok (.iload 4, 2) := by decide +kernel
theorem dX12_way_23 : decode cX12_way 23 = .ok (.invokestatic 238, 3) := by decide +kernel
theorem dX12_way_26 : decode cX12_way 26 = .ok (.ifCond .ne 8, 3) := by decide +kernel
theorem dX12_way_29 : decode cX12_way 29 = .ok (.aload_n 0, 1) := by decide +kernel
theorem dX12_way_30 : decode cX12_way 30 = .ok (.invokevirtual 95, 3) := by decide +kernel
theorem dX12_way_33 : decode cX12_way 33 = .ok (.ireturn, 1) := by decide +kernel
theorem dX12_way_34 : decode cX12_way 34 = .ok (.aload_n 0, 1) := by decide +kernel
theorem dX12_way_35 : decode cX12_way 35 = .ok (.iload_n 2, 1) := by decide +kernel
theorem dX12_way_36 : decode cX12_way 36 = .ok (.iload_n 3, 1) := by decide +kernel
theorem dX12_way_37 : decode cX12_way 37 = .ok (.invokevirtual 241, 3) := by decide +kernel
theorem dX12_way_40 : decode cX12_way 40 = .ok (.aload_n 0, 1) := by decide +kernel
theorem dX12_way_41 : decode cX12_way 41 = .ok (.getfield 36, 3) := by decide +kernel
theorem dX12_way_44 : decode cX12_way 44 = .ok (.bipush 8, 2) := by decide +kernel
theorem dX12_way_46 : decode cX12_way 46 = .ok (.iload_n 3, 1) := by decide +kernel
theorem dX12_way_47 : decode cX12_way 47 = .ok (.imul, 1) := by decide +kernel
theorem dX12_way_48 : decode cX12_way 48 = .ok (.iload_n 1, 1) := by decide +kernel
theorem dX12_way_49 : decode cX12_way 49 = .ok (.iadd, 1) := by decide +kernel
theorem dX12_way_50 : decode cX12_way 50 = .ok (.iaload, 1) := by decide +kernel
theorem dX12_way_51 : decode cX12_way 51 = .ok (.istore 5, 2) := by decide +kernel
theorem dX12_way_53 : decode cX12_way 53 = .ok (.iload 5, 2) := by decide +kernel
theorem dX12_way_55 : decode cX12_way 55 = .ok (.bipush 99, 2) := by decide +kernel
theorem dX12_way_57 : decode cX12_way 57 = .ok (.if_icmp .lt 5, 3) := by decide +kernel
theorem dX12_way_60 : decode cX12_way 60 = .ok (.iconst (-1), 1) := by decide +kernel
theorem dX12_way_61 : decode cX12_way 61 = .ok (.ireturn, 1) := by decide +kernel
theorem dX12_way_62 : decode cX12_way 62 = .ok (.iload 4, 2) := by decide +kernel
theorem dX12_way_64 : decode cX12_way 64 = .ok (.ifCond .eq 8, 3) := by decide +kernel
theorem dX12_way_67 : decode cX12_way 67 = .ok (.iload 5, 2) := by decide +kernel
theorem dX12_way_69 : decode cX12_way 69 = .ok (.ifCond .ne 15, 3) := by decide +kernel
theorem dX12_way_72 : decode cX12_way 72 = .ok (.iload 4, 2) := by decide +kernel
theorem dX12_way_74 : decode cX12_way 74 = .ok (.ifCond .ne 8, 3) := by decide +kernel
theorem dX12_way_77 : decode cX12_way 77 = .ok (.iload 5, 2) := by decide +kernel
theorem dX12_way_79 : decode cX12_way 79 = .ok (.goto 4, 3) := by decide +kernel
theorem dX12_way_82 : decode cX12_way 82 = .ok (.iload_n 2, 1) := by decide +kernel
theorem dX12_way_83 : decode cX12_way 83 = .ok (.ireturn, 1) := by decide +kernel
theorem dX12_way_84 : decode cX12_way 84 = .ok (.iconst 0, 1) := by decide +kernel
theorem dX12_way_85 : decode cX12_way 85 = .ok (.istore 6, 2) := by decide +kernel
theorem dX12_way_87 : decode cX12_way 87 = .ok (.aload_n 0, 1) := by decide +kernel
theorem dX12_way_88 : decode cX12_way 88 = .ok (.getfield 36, 3) := by decide +kernel
theorem dX12_way_91 : decode cX12_way 91 = .ok (.bipush 8, 2) := by decide +kernel
theorem dX12_way_93 : decode cX12_way 93 = .ok (.iload_n 3, 1) := by decide +kernel
theorem dX12_way_94 : decode cX12_way 94 = .ok (.iconst 1, 1) := by decide +kernel
theorem dX12_way_95 : decode cX12_way 95 = .ok (.iadd, 1) := by decide +kernel
theorem dX12_way_96 : decode cX12_way 96 = .ok (.imul, 1) := by decide +kernel
theorem dX12_way_97 : decode cX12_way 97 = .ok (.iload 6, 2) := by decide +kernel
theorem dX12_way_99 : decode cX12_way 99 = .ok (.iadd, 1) := by decide +kernel
theorem dX12_way_100 : decode cX12_way 100 = .ok (.iaload, 1) := by decide +kernel
theorem dX12_way_101 : decode cX12_way 101 = .ok (.iload 5, 2) := by decide +kernel
theorem dX12_way_103 : decode cX12_way 103 = .ok (.iconst 1, 1) := by decide +kernel
theorem dX12_way_104 : decode cX12_way 104 = .ok (.isub, 1) := by decide +kernel
theorem dX12_way_105 : decode cX12_way 105 = .ok (.if_icmp .ne 14, 3) := by decide +kernel
theorem dX12_way_108 : decode cX12_way 108 = .ok (.aload_n 0, 1) := by decide +kernel
theorem dX12_way_109 : decode cX12_way 109 = .ok (.iload_n 1, 1) := by decide +kernel
theorem dX12_way_110 : decode cX12_way 110 = .ok (.iload 6, 2) := by decide +kernel
theorem dX12_way_112 : decode cX12_way 112 = .ok (.iload_n 3, 1) := by decide +kernel
theorem dX12_way_113 : decode cX12_way 113 = .ok (.invokevirtual 231, 3) := by decide +kernel
theorem dX12_way_116 : decode cX12_way 116 = .ok (.ifCond .ne 9, 3) := by decide +kernel
theorem dX12_way_119 : decode cX12_way 119 = .ok (.iinc 6 1, 3) := by decide +kernel
theorem dX12_way_122 : decode cX12_way 122 = .ok (.goto (-35), 3) := by decide +kernel
theorem dX12_way_125 : decode cX12_way 125 = .ok (.iload 6, 2) := by decide +kernel
theorem dX12_way_127 : decode cX12_way 127 = .ok (.ireturn, 1) := by decide +kernel
theorem dX12_softest_0 : decode cX12_softest 0 = .ok (.iload_n 1, 1) := by decide +kernel
theorem dX12_softest_1 : decode cX12_softest 1 = .ok (.invokestatic 89, 3) := by decide +kernel
theorem dX12_softest_4 : decode cX12_softest 4 = .ok (.ifCond .eq 10, 3) := by decide +kernel
theorem dX12_softest_7 : decode cX12_softest 7 = .ok (.iload_n 2, 1) := by decide +kernel
theorem dX12_softest_8 : decode cX12_softest 8 = .ok (.invokestatic 89, 3) := by decide +kernel
theorem dX12_softest_11 : decode cX12_softest 11 = .ok (.ifCond .ne 8, 3) := by decide +kernel
theorem dX12_softest_14 : decode cX12_softest 14 = .ok (.aload_n 0, 1) := by decide +kernel
theorem dX12_softest_15 : decode cX12_softest 15 = .ok (.invokevirtual 95, 3) := by decide +kernel
theorem dX12_softest_18 : decode cX12_softest 18 = .ok (.ireturn, 1) := by decide +kernel
theorem dX12_softest_19 : decode cX12_softest 19 = .ok (.iconst 0, 1) := by decide +kernel
theorem dX12_softest_20 : decode cX12_softest 20 = .ok (.istore_n 3, 1) := by decide +kernel
theorem dX12_softest_21 : decode cX12_softest 21 = .ok (.iload_n 3, 1) := by decide +kernel
theorem dX12_softest_22 : decode cX12_softest 22 = .ok (.bipush 8, 2) := by decide +kernel
theorem dX12_softest_24 : decode cX12_softest 24 = .ok (.if_icmp .ge 26, 3) := by decide +kernel
theorem dX12_softest_27 : decode cX12_softest 27 = .ok (.aload_n 0, 1) := by decide +kernel
theorem dX12_softest_28 : decode cX12_softest 28 = .ok (.getfield 26, 3) := by decide +kernel
theorem dX12_softest_31 : decode cX12_softest 31 = .ok (.iload_n 3, 1) := by decide +kernel
theorem dX12_softest_32 : decode cX12_softest 32 = .ok (.iload_n 3, 1) := by decide +kernel
theorem dX12_softest_33 : decode cX12_softest 33 = .ok (.iload_n 1, 1) := by decide +kernel
theorem dX12_softest_34 : decode cX12_softest 34 = .ok (.if_icmp .ne 7, 3) := by decide +kernel
theorem dX12_softest_37 : decode cX12_softest 37 = .ok (.iconst 0, 1) := by decide +kernel
theorem dX12_softest_38 : decode cX12_softest 38 = .ok (.goto 5, 3) := by decide +kernel
theorem dX12_softest_41 : decode cX12_softest 41 = .ok (.bipush 99, 2) := by decide +kernel
theorem dX12_softest_43 : decode cX12_softest 43 = .ok (.iastore, 1) := by decide +kernel
theorem dX12_softest_44 : decode cX12_softest 44 = .ok (.iinc 3 1, 3) := by decide +kernel
theorem dX12_softest_47 : decode cX12_softest 47 = .ok (.goto (-26), 3) := by decide +kernel
theorem dX12_softest_50 : decode cX12_softest 50 = .ok (.iconst 0, 1) := by decide +kernel
theorem dX12_softest_51 : decode cX12_softest 51 = .ok (.istore_n 3, 1) := by decide +kernel
theorem dX12_softest_52 : decode cX12_softest 52 = .ok (.iload_n 3, 1) := by decide +kernel
theorem dX12_softest_53 : decode cX12_softest 53 = .ok (.bipush 8, 2) := by decide +kernel
theorem dX12_softest_55 : decode cX12_softest 55 = .ok (.if_icmp .ge 113, 3) := by decide +kernel
theorem dX12_softest_58 : decode cX12_softest 58 = .ok (.iconst 0, 1) := by decide +kernel
theorem dX12_softest_59 : decode cX12_softest 59 = .ok (.istore 4, 2) := by decide +kernel
theorem dX12_softest_61 : decode cX12_softest 61 = .ok (.iload 4, 2) := by decide +kernel
theorem dX12_softest_63 : decode cX12_softest 63 = .ok (.bipush 8, 2) := by decide +kernel
theorem dX12_softest_65 : decode cX12_softest 65 = .ok (.if_icmp .ge 97, 3) := by decide +kernel
theorem dX12_softest_68 : decode cX12_softest 68 = .ok (.iconst 0, 1) := by decide +kernel
theorem dX12_softest_69 : decode cX12_softest 69 = .ok (.istore 5, 2) := by decide +kernel
theorem dX12_softest_71 : decode cX12_softest 71 = .ok (.iload 5, 2) := by decide +kernel
theorem dX12_softest_73 : decode cX12_softest 73 = .ok (.bipush 8, 2) := by decide +kernel
theorem dX12_softest_75 : decode cX12_softest 75 = .ok (.if_icmp .ge 81, 3) := by decide +kernel
theorem dX12_softest_78 : decode cX12_softest 78 = .ok (.aload_n 0, 1) := by decide +kernel
theorem dX12_softest_79 : decode cX12_softest 79 = .ok (.iload 4, 2) := by decide +kernel
theorem dX12_softest_81 : decode cX12_softest 81 = .ok (.iload 5, 2) := by decide +kernel
theorem dX12_softest_83 : decode cX12_softest 83 = .ok (.invokevirtual 99, 3) := by decide +kernel
theorem dX12_softest_86 : decode cX12_softest 86 = .ok (.istore 6, 2) := by decide +kernel
theorem dX12_softest_88 : decode cX12_softest 88 = .ok (.iload 6, 2) := by decide +kernel
theorem dX12_softest_90 : decode cX12_softest 90 = .ok (.aload_n 0, 1) := by decide +kernel
theorem dX12_softest_91 : decode cX12_softest 91 = .ok (.getfield 26, 3) := by decide +kernel
theorem dX12_softest_94 : decode cX12_softest 94 = .ok (.iload 4, 2) := by decide +kernel
theorem dX12_softest_96 : decode cX12_softest 96 = .ok (.iaload, 1) := by decide +kernel
theorem dX12_softest_97 : decode cX12_softest 97 = .ok (.if_icmp .le 8, 3) := by decide +kernel
theorem dX12_softest_100 : decode cX12_softest 100 = .ok (.iload 6, 2) := by decide +kernel
theorem dX12_softest_102 : decode cX12_softest 102 = .ok (.goto 10, 3) := by decide +kernel
theorem dX12_softest_105 : decode cX12_softest 105 = .ok (.aload_n 0, 1) := by decide +kernel
theorem dX12_softest_106 : decode cX12_softest 106 = .ok (.getfield 26, 3) := by decide +kernel
theorem dX12_softest_109 : decode cX12_softest 109 = .ok (.iload 4, 2) := by decide +kernel
theorem dX12_softest_111 : decode cX12_softest 111 = .ok (.iaload, 1) := by decide +kernel
theorem dX12_softest_112 : decode cX12_softest 112 = .ok (.istore 7, 2) := by decide +kernel
theorem dX12_softest_114 : decode cX12_softest 114 = .ok (.aload_n 0, 1) := by decide +kernel
theorem dX12_softest_115 : decode cX12_softest 115 = .ok (.getfield 26, 3) := by decide +kernel
theorem dX12_softest_118 : decode cX12_softest 118 = .ok (.iload 5, 2) := by decide +kernel
theorem dX12_softest_120 : decode cX12_softest 120 = .ok (.iload 6, 2) := by decide +kernel
theorem dX12_softest_122 : decode cX12_softest 122 = .ok (.ifCond .lt 20, 3) := by decide +kernel
theorem dX12_softest_125 : decode cX12_softest 125 = .ok (.iload 7, 2) := by decide +kernel
theorem dX12_softest_127 : decode cX12_softest 127 = .ok (.aload_n 0, 1) := by decide +kernel
theorem dX12_softest_128 : decode cX12_softest 128 = .ok (.getfield 26, 3) := by decide +kernel
theorem dX12_softest_131 : decode cX12_softest 131 = .ok (.iload 5, 2) := by decide +kernel
theorem dX12_softest_133 : decode cX12_softest 133 = .ok (.iaload, 1) := by decide +kernel
theorem dX12_softest_134 : decode cX12_softest 134 = .ok (.if_icmp .ge 8, 3) := by decide +kernel
theorem dX12_softest_137 : decode cX12_softest 137 = .ok (.iload 7, 2) := by decide +kernel
theorem dX12_softest_139 : decode cX12_softest 139 = .ok (.goto 10, 3) := by decide +kernel
theorem dX12_softest_142 : decode cX12_softest 142 = .ok (.aload_n 0, 1) := by decide +kernel
theorem dX12_softest_143 : decode cX12_softest 143 = .ok (.getfield 26, 3) := by decide +kernel
theorem dX12_softest_146 : decode cX12_softest 146 = .ok (.iload 5, 2) := by decide +kernel
theorem dX12_softest_148 : decode cX12_softest 148 = .ok (.iaload, 1) := by decide +kernel
theorem dX12_softest_149 : decode cX12_softest 149 = .ok (.iastore, 1) := by decide +kernel
theorem dX12_softest_150 : decode cX12_softest 150 = .ok (.iinc 5 1, 3) := by decide +kernel
theorem dX12_softest_153 : decode cX12_softest 153 = .ok (.goto (-82), 3) := by decide +kernel
theorem dX12_softest_156 : decode cX12_softest 156 = .ok (.iinc 4 1, 3) := by decide +kernel
theorem dX12_softest_159 : decode cX12_softest 159 = .ok (.goto (-98), 3) := by decide +kernel
theorem dX12_softest_162 : decode cX12_softest 162 = .ok (.iinc 3 1, 3) := by decide +kernel
theorem dX12_softest_165 : decode cX12_softest 165 = .ok (.goto (-113), 3) := by decide +kernel
theorem dX12_softest_168 : decode cX12_softest 168 = .ok (.aload_n 0, 1) := by decide +kernel
theorem dX12_softest_169 : decode cX12_softest 169 = .ok (.getfield 26, 3) := by decide +kernel
theorem dX12_softest_172 : decode cX12_softest 172 = .ok (.iload_n 2, 1) := by decide +kernel
theorem dX12_softest_173 : decode cX12_softest 173 = .ok (.iaload, 1) := by decide +kernel
theorem dX12_softest_174 : decode cX12_softest 174 = .ok (.bipush 99, 2) := by decide +kernel
theorem dX12_softest_176 : decode cX12_softest 176 = .ok (.if_icmp .ne 7, 3) := by decide +kernel
theorem dX12_softest_179 : decode cX12_softest 179 = .ok (.iconst (-1), 1) := by decide +kernel
theorem dX12_softest_180 : decode cX12_softest 180 = .ok (.goto 9, 3) := by decide +kernel
theorem dX12_softest_183 : decode cX12_softest 183 = .ok (.aload_n 0, 1) := by decide +kernel
theorem dX12_softest_184 : decode cX12_softest 184 = .ok (.getfield 26, 3) := by decide +kernel
theorem dX12_softest_187 : decode cX12_softest 187 = .ok (.iload_n 2, 1) := by decide +kernel
theorem dX12_softest_188 : decode cX12_softest 188 = .ok (.iaload, 1) := by decide +kernel
theorem dX12_softest_189 : decode cX12_softest 189 = .ok (.ireturn, 1) := by decide +kernel
theorem dX12_bothGo_0 : decode cX12_bothGo 0 = .ok (.iconst 0, 1) := by decide +kernel
theorem dX12_bothGo_1 : decode cX12_bothGo 1 = .ok (.istore_n 3, 1) := by decide +kernel
theorem dX12_bothGo_2 : decode cX12_bothGo 2 = .ok (.iload_n 3, 1) := by decide +kernel
theorem dX12_bothGo_3 : decode cX12_bothGo 3 = .ok (.bipush 8, 2) := by decide +kernel
theorem dX12_bothGo_5 : decode cX12_bothGo 5 = .ok (.if_icmp .ge 126, 3) := by decide +kernel
theorem dX12_bothGo_8 : decode cX12_bothGo 8 = .ok (.iconst 0, 1) := by decide +kernel
theorem dX12_bothGo_9 : decode cX12_bothGo 9 = .ok (.istore 4, 2) := by decide +kernel
theorem dX12_bothGo_11 : decode cX12_bothGo 11 = .ok (.iload 4, 2) := by decide +kernel
theorem dX12_bothGo_13 : decode cX12_bothGo 13 = .ok (.bipush 8, 2) := by decide +kernel
theorem dX12_bothGo_15 : decode cX12_bothGo 15 = .ok (.if_icmp .ge 110, 3) := by decide +kernel
theorem dX12_bothGo_18 : decode cX12_bothGo 18 = .ok (.iload_n 3, 1) := by decide +kernel
theorem dX12_bothGo_19 : decode cX12_bothGo 19 = .ok (.iload 4, 2) := by decide +kernel
theorem dX12_bothGo_21 : decode cX12_bothGo 21 = .ok (.if_icmp .ne 7, 3) := by decide +kernel
theorem dX12_bothGo_24 : decode cX12_bothGo 24 = .ok (.iload_n 3, 1) := by decide +kernel
theorem dX12_bothGo_25 : decode cX12_bothGo 25 = .ok (.ifCond .ne 7, 3) := by decide +kernel
theorem dX12_bothGo_28 : decode cX12_bothGo 28 = .ok (.iconst 1, 1) := by decide +kernel
theorem dX12_bothGo_29 : decode cX12_bothGo 29 = .ok (.goto 4, 3) := by decide +kernel
theorem dX12_bothGo_32 : decode cX12_bothGo 32 = .ok (.iconst 0, 1) := by decide +kernel
theorem dX12_bothGo_33 : decode cX12_bothGo 33 = .ok (.istore 5, 2) := by decide +kernel
theorem dX12_bothGo_35 : decode cX12_bothGo 35 = .ok (.iload_n 1, 1) := by decide +kernel
theorem dX12_bothGo_36 : decode cX12_bothGo 36 = .ok (.iload_n 3, 1) := by decide +kernel
theorem dX12_bothGo_37 : decode cX12_bothGo 37 = .ok (.if_icmp .eq 27, 3) := by decide +kernel
theorem dX12_bothGo_40 : decode cX12_bothGo 40 = .ok (.iload_n 2, 1) := by decide +kernel
theorem dX12_bothGo_41 : decode cX12_bothGo 41 = .ok (.iload 4, 2) := by decide +kernel
theorem dX12_bothGo_43 : decode cX12_bothGo 43 = .ok (.if_icmp .eq 21, 3) := by decide +kernel
theorem dX12_bothGo_46 : decode cX12_bothGo 46 = .ok (.iload_n 1, 1) := by decide +kernel
theorem dX12_bothGo_47 : decode cX12_bothGo 47 = .ok (.iload_n 3, 1) := by decide +kernel
theorem dX12_bothGo_48 : decode cX12_bothGo 48 = .ok (.invokestatic 85, 3) := by decide +kernel
theorem dX12_bothGo_51 : decode cX12_bothGo 51 = .ok (.iload_n 2, 1) := by decide +kernel
theorem dX12_bothGo_52 : decode cX12_bothGo 52 = .ok (.iload 4, 2) := by decide +kernel
theorem dX12_bothGo_54 : decode cX12_bothGo 54 = .ok (.invokestatic 85, 3) := by decide +kernel
theorem dX12_bothGo_57 : decode cX12_bothGo 57 = .ok (.if_icmp .ne 7, 3) := by decide +kernel
theorem dX12_bothGo_60 : decode cX12_bothGo 60 = .ok (.iconst 1, 1) := by decide +kernel
theorem dX12_bothGo_61 : decode cX12_bothGo 61 = .ok (.goto 4, 3) := by decide +kernel
theorem dX12_bothGo_64 : decode cX12_bothGo 64 = .ok (.iconst 0, 1) := by decide +kernel
theorem dX12_bothGo_65 : decode cX12_bothGo 65 = .ok (.istore 6, 2) := by decide +kernel
theorem dX12_bothGo_67 : decode cX12_bothGo 67 = .ok (.iload 5, 2) := by decide +kernel
theorem dX12_bothGo_69 : decode cX12_bothGo 69 = .ok (.ifCond .eq 50, 3) := by decide +kernel
theorem dX12_bothGo_72 : decode cX12_bothGo 72 = .ok (.iload 6, 2) := by decide +kernel
theorem dX12_bothGo_74 : decode cX12_bothGo 74 = .ok (.ifCond .ne 45, 3) := by decide +kernel
theorem dX12_bothGo_77 : decode cX12_bothGo 77 = .ok (.aload_n 0, 1) := by decide +kernel
theorem dX12_bothGo_78 : decode cX12_bothGo 78 = .ok (.getfield 32, 3) := by decide +kernel
theorem dX12_bothGo_81 : decode cX12_bothGo 81 = .ok (.bipush 8, 2) := by decide +kernel
theorem dX12_bothGo_83 : decode cX12_bothGo 83 = .ok (.iload_n 1, 1) := by decide +kernel
theorem dX12_bothGo_84 : decode cX12_bothGo 84 = .ok (.imul, 1) := by decide +kernel
theorem dX12_bothGo_85 : decode cX12_bothGo 85 = .ok (.iload_n 3, 1) := by decide +kernel
theorem dX12_bothGo_86 : decode cX12_bothGo 86 = .ok (.iadd, 1) := by decide +kernel
theorem dX12_bothGo_87 : decode cX12_bothGo 87 = .ok (.baload, 1) := by decide +kernel
theorem dX12_bothGo_88 : decode cX12_bothGo 88 = .ok (.ifCond .eq 31, 3) := by decide +kernel
theorem dX12_bothGo_91 : decode cX12_bothGo 91 = .ok (.aload_n 0, 1) := by decide +kernel
theorem dX12_bothGo_92 : decode cX12_bothGo 92 = .ok (.getfield 32, 3) := by decide +kernel
theorem dX12_bothGo_95 : decode cX12_bothGo 95 = .ok (.bipush 8, 2) := by decide +kernel
theorem dX12_bothGo_97 : decode cX12_bothGo 97 = .ok (.iload_n 2, 1) := by decide +kernel
theorem dX12_bothGo_98 : decode cX12_bothGo 98 = .ok (.imul, 1) := by decide +kernel
theorem dX12_bothGo_99 : decode cX12_bothGo 99 = .ok (.iload 4, 2) := by decide +kernel
theorem dX12_bothGo_101 : decode cX12_bothGo 101 = .ok (.iadd, 1) := by decide +kernel
theorem dX12_bothGo_102 : decode cX12_bothGo 102 = .ok (.baload, 1) := by decide +kernel
theorem dX12_bothGo_103 : decode cX12_bothGo 103 = .ok (.ifCond .eq 16, 3) := by decide +kernel
theorem dX12_bothGo_106 : decode cX12_bothGo 106 = .ok (.aload_n 0, 1) := by decide +kernel
theorem dX12_bothGo_107 : decode cX12_bothGo 107 = .ok (.getfield 42, 3) := by decide +kernel
theorem dX12_bothGo_110 : decode cX12_bothGo 110 = .ok (.bipush 8, 2) := by decide +kernel
theorem dX12_bothGo_112 : decode cX12_bothGo 112 = .ok (.iload_n 3, 1) := by decide +kernel
theorem dX12_bothGo_113 : decode cX12_bothGo 113 = .ok (.imul, 1) := by decide +kernel
theorem dX12_bothGo_114 : decode cX12_bothGo 114 = .ok (.iload 4, 2) := by decide +kernel
theorem dX12_bothGo_116 : decode cX12_bothGo 116 = .ok (.iadd, 1) := by decide +kernel
theorem dX12_bothGo_117 : decode cX12_bothGo 117 = .ok (.iconst 1, 1) := by decide +kernel
theorem dX12_bothGo_118 : decode cX12_bothGo 118 = .ok (.bastore, 1) := by decide +kernel
theorem dX12_bothGo_119 : decode cX12_bothGo 119 = .ok (.iinc 4 1, 3) := by decide +kernel
theorem dX12_bothGo_122 : decode cX12_bothGo 122 = .ok (.goto (-111), 3) := by decide +kernel
theorem dX12_bothGo_125 : decode cX12_bothGo 125 = .ok (.iinc 3 1, 3) := by decide +kernel
theorem dX12_bothGo_128 : decode cX12_bothGo 128 = .ok (.goto (-126), 3) := by decide +kernel
theorem dX12_bothGo_131 : decode cX12_bothGo 131 = .ok (.return_, 1) := by decide +kernel
theorem dX12_schedule_0 : decode cX12_schedule 0 = .ok (.iload_n 1, 1) := by decide +kernel
theorem dX12_schedule_1 : decode cX12_schedule 1 = .ok (.invokestatic 89, 3) := by decide +kernel
theorem dX12_schedule_4 : decode cX12_schedule 4 = .ok (.ifCond .eq 10, 3) := by decide +kernel
theorem dX12_schedule_7 : decode cX12_schedule 7 = .ok (.iload_n 2, 1) := by decide +kernel
theorem dX12_schedule_8 : decode cX12_schedule 8 = .ok (.invokestatic 89, 3) := by decide +kernel
theorem dX12_schedule_11 : decode cX12_schedule 11 = .ok (.ifCond .ne 8, 3) := by decide +kernel
theorem dX12_schedule_14 : decode cX12_schedule 14 = .ok (.aload_n 0, 1) := by decide +kernel
theorem dX12_schedule_15 : decode cX12_schedule 15 = .ok (.invokevirtual 95, 3) := by decide +kernel
theorem dX12_schedule_18 : decode cX12_schedule 18 = .ok (.ireturn, 1) := by decide +kernel
theorem dX12_schedule_19 : decode cX12_schedule 19 = .ok (.iconst 0, 1) := by decide +kernel
theorem dX12_schedule_20 : decode cX12_schedule 20 = .ok (.istore_n 3, 1) := by decide +kernel
theorem dX12_schedule_21 : decode cX12_schedule 21 = .ok (.iload_n 3, 1) := by decide +kernel
theorem dX12_schedule_22 : decode cX12_schedule 22 = .ok (.bipush 64, 2) := by decide +kernel
theorem dX12_schedule_24 : decode cX12_schedule 24 = .ok (.if_icmp .ge 24, 3) := by decide +kernel
theorem dX12_schedule_27 : decode cX12_schedule 27 = .ok (.aload_n 0, 1) := by decide +kernel
theorem dX12_schedule_28 : decode cX12_schedule 28 = .ok (.getfield 39, 3) := by decide +kernel
theorem dX12_schedule_31 : decode cX12_schedule 31 = .ok (.iload_n 3, 1) := by decide +kernel
theorem dX12_schedule_32 : decode cX12_schedule 32 = .ok (.iload_n 3, 1) := by decide +kernel
theorem dX12_schedule_33 : decode cX12_schedule 33 = .ok (.ifCond .ne 7, 3) := by decide +kernel
theorem dX12_schedule_36 : decode cX12_schedule 36 = .ok (.iconst 1, 1) := by decide +kernel
theorem dX12_schedule_37 : decode cX12_schedule 37 = .ok (.goto 4, 3) := by decide +kernel
theorem dX12_schedule_40 : decode cX12_schedule 40 = .ok (.iconst 0, 1) := by decide +kernel
theorem dX12_schedule_41 : decode cX12_schedule 41 = .ok (.bastore, 1) := by decide +kernel
theorem dX12_schedule_42 : decode cX12_schedule 42 = .ok (.iinc 3 1, 3) := by decide +kernel
theorem dX12_schedule_45 : decode cX12_schedule 45 = .ok (.goto (-24), 3) := by decide +kernel
theorem dX12_schedule_48 : decode cX12_schedule 48 = .ok (.iconst 0, 1) := by decide +kernel
theorem dX12_schedule_49 : decode cX12_schedule 49 = .ok (.istore_n 3, 1) := by decide +kernel
theorem dX12_schedule_50 : decode cX12_schedule 50 = .ok (.iload_n 3, 1) := by decide +kernel
theorem dX12_schedule_51 : decode cX12_schedule 51 = .ok (.bipush 20, 2) := by decide +kernel
theorem dX12_schedule_53 : decode cX12_schedule 53 = .ok (.if_icmp .ge 122, 3) := by decide +kernel
theorem dX12_schedule_56 : decode cX12_schedule 56 = .ok (.aload_n 0, 1) := by decide +kernel
theorem dX12_schedule_57 : decode cX12_schedule 57 = .ok (.getfield 39, 3) := by decide +kernel
theorem dX12_schedule_60 : decode cX12_schedule 60 = .ok (.bipush 8, 2) := by decide +kernel
theorem dX12_schedule_62 : decode cX12_schedule 62 = .ok (.iload_n 1, 1) := by decide +kernel
theorem dX12_schedule_63 : decode cX12_schedule 63 = .ok (.imul, 1) := by decide +kernel
theorem dX12_schedule_64 : decode cX12_schedule 64 = .ok (.iload_n 2, 1) := by decide +kernel
theorem dX12_schedule_65 : decode cX12_schedule 65 = .ok (.iadd, 1) := by decide +kernel
theorem dX12_schedule_66 : decode cX12_schedule 66 = .ok (.baload, 1) := by decide +kernel
theorem dX12_schedule_67 : decode cX12_schedule 67 = .ok (.ifCond .ne 108, 3) := by decide +kernel
theorem dX12_schedule_70 : decode cX12_schedule 70 = .ok (.aload_n 0, 1) := by decide +kernel
theorem dX12_schedule_71 : decode cX12_schedule 71 = .ok (.iload_n 3, 1) := by decide +kernel
theorem dX12_schedule_72 : decode cX12_schedule 72 = .ok (.invokevirtual 235, 3) := by decide +kernel
theorem dX12_schedule_75 : decode cX12_schedule 75 = .ok (.iconst 0, 1) := by decide +kernel
theorem dX12_schedule_76 : decode cX12_schedule 76 = .ok (.istore 4, 2) := by decide +kernel
theorem dX12_schedule_78 : decode cX12_schedule 78 = .ok (.iload 4, 2) := by decide +kernel
theorem dX12_schedule_80 : decode cX12_schedule 80 = .ok (.bipush 64, 2) := by decide +kernel
theorem dX12_schedule_82 : decode cX12_schedule 82 = .ok (.if_icmp .ge 17, 3) := by decide +kernel
theorem dX12_schedule_85 : decode cX12_schedule 85 = .ok (.aload_n 0, 1) := by decide +kernel
theorem dX12_schedule_86 : decode cX12_schedule 86 = .ok (.getfield 42, 3) := by decide +kernel
theorem dX12_schedule_89 : decode cX12_schedule 89 = .ok (.iload 4, 2) := by decide +kernel
theorem dX12_schedule_91 : decode cX12_schedule 91 = .ok (.iconst 0, 1) := by decide +kernel
theorem dX12_schedule_92 : decode cX12_schedule 92 = .ok (.bastore, 1) := by decide +kernel
theorem dX12_schedule_93 : decode cX12_schedule 93 = .ok (.iinc 4 1, 3) := by decide +kernel
theorem dX12_schedule_96 : decode cX12_schedule 96 = .ok (.goto (-18), 3) := by decide +kernel
theorem dX12_schedule_99 : decode cX12_schedule 99 = .ok (.iconst 0, 1) := by decide +kernel
theorem dX12_schedule_100 : decode cX12_schedule 100 = .ok (.istore 4, 2) := by decide +kernel
theorem dX12_schedule_102 : decode cX12_schedule 102 = .ok (.iload 4, 2) := by decide +kernel
theorem dX12_schedule_104 : decode cX12_schedule 104 = .ok (.bipush 64, 2) := by decide +kernel
theorem dX12_schedule_106 : decode cX12_schedule 106 = .ok (.if_icmp .ge 33, 3) := by decide +kernel
theorem dX12_schedule_109 : decode cX12_schedule 109 = .ok (.aload_n 0, 1) := by decide +kernel
theorem dX12_schedule_110 : decode cX12_schedule 110 = .ok (.getfield 39, 3) := by decide +kernel
theorem dX12_schedule_113 : decode cX12_schedule 113 = .ok (.iload 4, 2) := by decide +kernel
theorem dX12_schedule_115 : decode cX12_schedule 115 = .ok (.baload, 1) := by decide +kernel
theorem dX12_schedule_116 : decode cX12_schedule 116 = .ok (.ifCond .eq 17, 3) := by decide +kernel
theorem dX12_schedule_119 : decode cX12_schedule 119 = .ok (.aload_n 0, 1) := by decide +kernel
theorem dX12_schedule_120 : decode cX12_schedule 120 = .ok (.iload 4, 2) := by decide +kernel
theorem dX12_schedule_122 : decode cX12_schedule 122 = .ok (.bipush 8, 2) := by decide +kernel
theorem dX12_schedule_124 : decode cX12_schedule 124 = .ok (.idiv, 1) := by decide +kernel
theorem dX12_schedule_125 : decode cX12_schedule 125 = .ok (.iload 4, 2) := by decide +kernel
theorem dX12_schedule_127 : decode cX12_schedule 127 = .ok (.bipush 8, 2) := by decide +kernel
theorem dX12_schedule_129 : decode cX12_schedule 129 = .ok (.irem, 1) := by decide +kernel
theorem dX12_schedule_130 : decode cX12_schedule 130 = .ok (.invokevirtual 244, 3) := by decide +kernel
theorem dX12_schedule_133 : decode cX12_schedule 133 = .ok (.iinc 4 1, 3) := by decide +kernel
theorem dX12_schedule_136 : decode cX12_schedule 136 = .ok (.goto (-34), 3) := by decide +kernel
theorem dX12_schedule_139 : decode cX12_schedule 139 = .ok (.iconst 0, 1) := by decide +kernel
theorem dX12_schedule_140 : decode cX12_schedule 140 = .ok (.istore 4, 2) := by decide +kernel
theorem dX12_schedule_142 : decode cX12_schedule 142 = .ok (.iload 4, 2) := by decide +kernel
theorem dX12_schedule_144 : decode cX12_schedule 144 = .ok (.bipush 64, 2) := by decide +kernel
theorem dX12_schedule_146 : decode cX12_schedule 146 = .ok (.if_icmp .ge 23, 3) := by decide +kernel
theorem dX12_schedule_149 : decode cX12_schedule 149 = .ok (.aload_n 0, 1) := by decide +kernel
theorem dX12_schedule_150 : decode cX12_schedule 150 = .ok (.getfield 39, 3) := by decide +kernel
theorem dX12_schedule_153 : decode cX12_schedule 153 = .ok (.iload 4, 2) := by decide +kernel
theorem dX12_schedule_155 : decode cX12_schedule 155 = .ok (.aload_n 0, 1) := by decide +kernel
theorem dX12_schedule_156 : decode cX12_schedule 156 = .ok (.getfield 42, 3) := by decide +kernel
theorem dX12_schedule_159 : decode cX12_schedule 159 = .ok (.iload 4, 2) := by decide +kernel
theorem dX12_schedule_161 : decode cX12_schedule 161 = .ok (.baload, 1) := by decide +kernel
theorem dX12_schedule_162 : decode cX12_schedule 162 = .ok (.bastore, 1) := by decide +kernel
theorem dX12_schedule_163 : decode cX12_schedule 163 = .ok (.iinc 4 1, 3) := by decide +kernel
theorem dX12_schedule_166 : decode cX12_schedule 166 = .ok (.goto (-24), 3) := by decide +kernel
theorem dX12_schedule_169 : decode cX12_schedule 169 = .ok (.iinc 3 1, 3) := by decide +kernel
theorem dX12_schedule_172 : decode cX12_schedule 172 = .ok (.goto (-122), 3) := by decide +kernel
theorem dX12_schedule_175 : decode cX12_schedule 175 = .ok (.aload_n 0, 1) := by decide +kernel
theorem dX12_schedule_176 : decode cX12_schedule 176 = .ok (.getfield 39, 3) := by decide +kernel
theorem dX12_schedule_179 : decode cX12_schedule 179 = .ok (.bipush 8, 2) := by decide +kernel
theorem dX12_schedule_181 : decode cX12_schedule 181 = .ok (.iload_n 1, 1) := by decide +kernel
theorem dX12_schedule_182 : decode cX12_schedule 182 = .ok (.imul, 1) := by decide +kernel
theorem dX12_schedule_183 : decode cX12_schedule 183 = .ok (.iload_n 2, 1) := by decide +kernel
theorem dX12_schedule_184 : decode cX12_schedule 184 = .ok (.iadd, 1) := by decide +kernel
theorem dX12_schedule_185 : decode cX12_schedule 185 = .ok (.baload, 1) := by decide +kernel
theorem dX12_schedule_186 : decode cX12_schedule 186 = .ok (.ifCond .eq 7, 3) := by decide +kernel
theorem dX12_schedule_189 : decode cX12_schedule 189 = .ok (.iload_n 3, 1) := by decide +kernel
theorem dX12_schedule_190 : decode cX12_schedule 190 = .ok (.goto 4, 3) := by decide +kernel
theorem dX12_schedule_193 : decode cX12_schedule 193 = .ok (.iconst (-1), 1) := by decide +kernel
theorem dX12_schedule_194 : decode cX12_schedule 194 = .ok (.ireturn, 1) := by decide +kernel
theorem dX12_owed_0 : decode cX12_owed 0 = .ok (.iload_n 1, 1) := by decide +kernel
theorem dX12_owed_1 : decode cX12_owed 1 = .ok (.i2l, 1) := by decide +kernel
theorem dX12_owed_2 : decode cX12_owed 2 = .ok (.lconst 0, 1) := by decide +kernel
theorem dX12_owed_3 : decode cX12_owed 3 = .ok (.ldc2_w 118, 3) := by decide +kernel
theorem dX12_owed_6 : decode cX12_owed 6 = .ok (.invokestatic 75, 3) := by decide +kernel
theorem dX12_owed_9 : decode cX12_owed 9 = .ok (.ifCond .ne 8, 3) := by decide +kernel
theorem dX12_owed_12 : decode cX12_owed 12 = .ok (.aload_n 0, 1) := by decide +kernel
theorem dX12_owed_13 : decode cX12_owed 13 = .ok (.invokevirtual 95, 3) := by decide +kernel
theorem dX12_owed_16 : decode cX12_owed 16 = .ok (.ireturn, 1) := by decide +kernel
theorem dX12_owed_17 : decode cX12_owed 17 = .ok (.iconst 0, 1) := by decide +kernel
theorem dX12_owed_18 : decode cX12_owed 18 = .ok (.istore_n 2, 1) := by decide +kernel
theorem dX12_owed_19 : decode cX12_owed 19 = .ok (.iconst 0, 1) := by decide +kernel
theorem dX12_owed_20 : decode cX12_owed 20 = .ok (.istore_n 3, 1) := by decide +kernel
theorem dX12_owed_21 : decode cX12_owed 21 = .ok (.iload_n 3, 1) := by decide +kernel
theorem dX12_owed_22 : decode cX12_owed 22 = .ok (.aload_n 0, 1) := by decide +kernel
theorem dX12_owed_23 : decode cX12_owed 23 = .ok (.getfield 7, 3) := by decide +kernel
theorem dX12_owed_26 : decode cX12_owed 26 = .ok (.bipush 21, 2) := by decide +kernel
theorem dX12_owed_28 : decode cX12_owed 28 = .ok (.iaload, 1) := by decide +kernel
theorem dX12_owed_29 : decode cX12_owed 29 = .ok (.if_icmp .ge 62, 3) := by decide +kernel
theorem dX12_owed_32 : decode cX12_owed 32 = .ok (.iconst 0, 1) := by decide +kernel
theorem dX12_owed_33 : decode cX12_owed 33 = .ok (.istore 4, 2) := by decide +kernel
theorem dX12_owed_35 : decode cX12_owed 35 = .ok (.iload 4, 2) := by decide +kernel
theorem dX12_owed_37 : decode cX12_owed 37 = .ok (.iconst 1, 1) := by decide +kernel
theorem dX12_owed_38 : decode cX12_owed 38 = .ok (.iadd, 1) := by decide +kernel
theorem dX12_owed_39 : decode cX12_owed 39 = .ok (.aload_n 0, 1) := by decide +kernel
theorem dX12_owed_40 : decode cX12_owed 40 = .ok (.getfield 7, 3) := by decide +kernel
theorem dX12_owed_43 : decode cX12_owed 43 = .ok (.bipush 27, 2) := by decide +kernel
theorem dX12_owed_45 : decode cX12_owed 45 = .ok (.iload_n 3, 1) := by decide +kernel
theorem dX12_owed_46 : decode cX12_owed 46 = .ok (.iadd, 1) := by decide +kernel
theorem dX12_owed_47 : decode cX12_owed 47 = .ok (.iaload, 1) := by decide +kernel
theorem dX12_owed_48 : decode cX12_owed 48 = .ok (.if_icmp .ge 37, 3) := by decide +kernel
theorem dX12_owed_51 : decode cX12_owed 51 = .ok (.iload_n 2, 1) := by decide +kernel
theorem dX12_owed_52 : decode cX12_owed 52 = .ok (.aload_n 0, 1) := by decide +kernel
theorem dX12_owed_53 : decode cX12_owed 53 = .ok (.getfield 7, 3) := by decide +kernel
theorem dX12_owed_56 : decode cX12_owed 56 = .ok (.bipush 32, 2) := by decide +kernel
theorem dX12_owed_58 : decode cX12_owed 58 = .ok (.iconst 4, 1) := by decide +kernel
theorem dX12_owed_59 : decode cX12_owed 59 = .ok (.iload_n 3, 1) := by decide +kernel
theorem dX12_owed_60 : decode cX12_owed 60 = .ok (.imul, 1) := by decide +kernel
theorem dX12_owed_61 : decode cX12_owed 61 = .ok (.iadd, 1) := by decide +kernel
theorem dX12_owed_62 : decode cX12_owed 62 = .ok (.iload 4, 2) := by decide +kernel
theorem dX12_owed_64 : decode cX12_owed 64 = .ok (.iadd, 1) := by decide +kernel
theorem dX12_owed_65 : decode cX12_owed 65 = .ok (.iaload, 1) := by decide +kernel
theorem dX12_owed_66 : decode cX12_owed 66 = .ok (.iload_n 1, 1) := by decide +kernel
theorem dX12_owed_67 : decode cX12_owed 67 = .ok (.if_icmp .ne 9, 3) := by decide +kernel
theorem dX12_owed_70 : decode cX12_owed 70 = .ok (.iconst 1, 1) := by decide +kernel
theorem dX12_owed_71 : decode cX12_owed 71 = .ok (.iload_n 3, 1) := by decide +kernel
theorem dX12_owed_72 : decode cX12_owed 72 = .ok (.ishl, 1) := by decide +kernel
theorem dX12_owed_73 : decode cX12_owed 73 = .ok (.goto 4, 3) := by decide +kernel
theorem dX12_owed_76 : decode cX12_owed 76 = .ok (.iconst 0, 1) := by decide +kernel
theorem dX12_owed_77 : decode cX12_owed 77 = .ok (.ior, 1) := by decide +kernel
theorem dX12_owed_78 : decode cX12_owed 78 = .ok (.istore_n 2, 1) := by decide +kernel
theorem dX12_owed_79 : decode cX12_owed 79 = .ok (.iinc 4 1, 3) := by decide +kernel
theorem dX12_owed_82 : decode cX12_owed 82 = .ok (.goto (-47), 3) := by decide +kernel
theorem dX12_owed_85 : decode cX12_owed 85 = .ok (.iinc 3 1, 3) := by decide +kernel
theorem dX12_owed_88 : decode cX12_owed 88 = .ok (.goto (-67), 3) := by decide +kernel
theorem dX12_owed_91 : decode cX12_owed 91 = .ok (.iload_n 2, 1) := by decide +kernel
theorem dX12_owed_92 : decode cX12_owed 92 = .ok (.ireturn, 1) := by decide +kernel
theorem dX12_took_0 : decode cX12_took 0 = .ok (.aload_n 0, 1) := by decide +kernel
theorem dX12_took_1 : decode cX12_took 1 = .ok (.iload_n 1, 1) := by decide +kernel
theorem dX12_took_2 : decode cX12_took 2 = .ok (.invokevirtual 115, 3) := by decide +kernel
theorem dX12_took_5 : decode cX12_took 5 = .ok (.ifCond .eq 11, 3) := by decide +kernel
theorem dX12_took_8 : decode cX12_took 8 = .ok (.aload_n 0, 1) := by decide +kernel
theorem dX12_took_9 : decode cX12_took 9 = .ok (.iload_n 1, 1) := by decide +kernel
theorem dX12_took_10 : decode cX12_took 10 = .ok (.invokevirtual 120, 3) := by decide +kernel
theorem dX12_took_13 : decode cX12_took 13 = .ok (.goto 7, 3) := by decide +kernel
theorem dX12_took_16 : decode cX12_took 16 = .ok (.aload_n 0, 1) := by decide +kernel
theorem dX12_took_17 : decode cX12_took 17 = .ok (.invokevirtual 95, 3) := by decide +kernel
theorem dX12_took_20 : decode cX12_took 20 = .ok (.ireturn, 1) := by decide +kernel
theorem dX12_canNot_0 : decode cX12_canNot 0 = .ok (.iconst 0, 1) := by decide +kernel
theorem dX12_canNot_1 : decode cX12_canNot 1 = .ok (.istore_n 1, 1) := by decide +kernel
theorem dX12_canNot_2 : decode cX12_canNot 2 = .ok (.iconst 0, 1) := by decide +kernel
theorem dX12_canNot_3 : decode cX12_canNot 3 = .ok (.istore_n 2, 1) := by decide +kernel
theorem dX12_canNot_4 : decode cX12_canNot 4 = .ok (.iload_n 2, 1) := by decide +kernel
theorem dX12_canNot_5 : decode cX12_canNot 5 = .ok (.aload_n 0, 1) := by decide +kernel
theorem dX12_canNot_6 : decode cX12_canNot 6 = .ok (.getfield 7, 3) := by decide +kernel
theorem dX12_canNot_9 : decode cX12_canNot 9 = .ok (.bipush 21, 2) := by decide +kernel
theorem dX12_canNot_11 : decode cX12_canNot 11 = .ok (.iaload, 1) := by decide +kernel
theorem dX12_canNot_12 : decode cX12_canNot 12 = .ok (.if_icmp .ge 44, 3) := by decide +kernel
theorem dX12_canNot_15 : decode cX12_canNot 15 = .ok (.aload_n 0, 1) := by decide +kernel
theorem dX12_canNot_16 : decode cX12_canNot 16 = .ok (.aload_n 0, 1) := by decide +kernel
theorem dX12_canNot_17 : decode cX12_canNot 17 = .ok (.getfield 7, 3) := by decide +kernel
theorem dX12_canNot_20 : decode cX12_canNot 20 = .ok (.bipush 22, 2) := by decide +kernel
theorem dX12_canNot_22 : decode cX12_canNot 22 = .ok (.iload_n 2, 1) := by decide +kernel
theorem dX12_canNot_23 : decode cX12_canNot 23 = .ok (.iadd, 1) := by decide +kernel
theorem dX12_canNot_24 : decode cX12_canNot 24 = .ok (.iaload, 1) := by decide +kernel
theorem dX12_canNot_25 : decode cX12_canNot 25 = .ok (.iconst 0, 1) := by decide +kernel
theorem dX12_canNot_26 : decode cX12_canNot 26 = .ok (.invokevirtual 241, 3) := by decide +kernel
theorem dX12_canNot_29 : decode cX12_canNot 29 = .ok (.iload_n 1, 1) := by decide +kernel
theorem dX12_canNot_30 : decode cX12_canNot 30 = .ok (.aload_n 0, 1) := by decide +kernel
theorem dX12_canNot_31 : decode cX12_canNot 31 = .ok (.getfield 36, 3) := by decide +kernel
theorem dX12_canNot_34 : decode cX12_canNot 34 = .ok (.iconst 0, 1) := by decide +kernel
theorem dX12_canNot_35 : decode cX12_canNot 35 = .ok (.iaload, 1) := by decide +kernel
theorem dX12_canNot_36 : decode cX12_canNot 36 = .ok (.bipush 99, 2) := by decide +kernel
theorem dX12_canNot_38 : decode cX12_canNot 38 = .ok (.if_icmp .lt 9, 3) := by decide +kernel
theorem dX12_canNot_41 : decode cX12_canNot 41 = .ok (.iconst 1, 1) := by decide +kernel
theorem dX12_canNot_42 : decode cX12_canNot 42 = .ok (.iload_n 2, 1) := by decide +kernel
theorem dX12_canNot_43 : decode cX12_canNot 43 = .ok (.ishl, 1) := by decide +kernel
theorem dX12_canNot_44 : decode cX12_canNot 44 = .ok (.goto 4, 3) := by decide +kernel
theorem dX12_canNot_47 : decode cX12_canNot 47 = .ok (.iconst 0, 1) := by decide +kernel
theorem dX12_canNot_48 : decode cX12_canNot 48 = .ok (.ior, 1) := by decide +kernel
theorem dX12_canNot_49 : decode cX12_canNot 49 = .ok (.istore_n 1, 1) := by decide +kernel
theorem dX12_canNot_50 : decode cX12_canNot 50 = .ok (.iinc 2 1, 3) := by decide +kernel
theorem dX12_canNot_53 : decode cX12_canNot 53 = .ok (.goto (-49), 3) := by decide +kernel
theorem dX12_canNot_56 : decode cX12_canNot 56 = .ok (.iload_n 1, 1) := by decide +kernel
theorem dX12_canNot_57 : decode cX12_canNot 57 = .ok (.ireturn, 1) := by decide +kernel
theorem dX12_heard_0 : decode cX12_heard 0 = .ok (.aload_n 0, 1) := by decide +kernel
theorem dX12_heard_1 : decode cX12_heard 1 = .ok (.iload_n 1, 1) := by decide +kernel
theorem dX12_heard_2 : decode cX12_heard 2 = .ok (.invokevirtual 226, 3) := by decide +kernel
theorem dX12_heard_5 : decode cX12_heard 5 = .ok (.ifCond .eq 22, 3) := by decide +kernel
theorem dX12_heard_8 : decode cX12_heard 8 = .ok (.iload_n 2, 1) := by decide +kernel
theorem dX12_heard_9 : decode cX12_heard 9 = .ok (.i2l, 1) := by decide +kernel
theorem dX12_heard_10 : decode cX12_heard 10 = .ok (.lconst 0, 1) := by decide +kernel
theorem dX12_heard_11 : decode cX12_heard 11 = .ok (.ldc2_w 247, 3) := by decide +kernel
theorem dX12_heard_14 : decode cX12_heard 14 = .ok (.invokestatic 75, 3) := by decide +kernel
theorem dX12_heard_17 : decode cX12_heard 17 = .ok (.ifCond .eq 10, 3) := by decide +kernel
theorem dX12_heard_20 : decode cX12_heard 20 = .ok (.iload_n 3, 1) := by decide +kernel
theorem dX12_heard_21 : decode cX12_heard 21 = .ok (.invokestatic 238, 3) := by decide +kernel
theorem dX12_heard_24 : decode cX12_heard 24 = .ok (.ifCond .ne 8, 3) := by decide +kernel
theorem dX12_heard_27 : decode cX12_heard 27 = .ok (.aload_n 0, 1) := by decide +kernel
theorem dX12_heard_28 : decode cX12_heard 28 = .ok (.invokevirtual 95, 3) := by decide +kernel
theorem dX12_heard_31 : decode cX12_heard 31 = .ok (.ireturn, 1) := by decide +kernel
theorem dX12_heard_32 : decode cX12_heard 32 = .ok (.aload_n 0, 1) := by decide +kernel
theorem dX12_heard_33 : decode cX12_heard 33 = .ok (.getfield 7, 3) := by decide +kernel
theorem dX12_heard_36 : decode cX12_heard 36 = .ok (.bipush 52, 2) := by decide +kernel
theorem dX12_heard_38 : decode cX12_heard 38 = .ok (.iaload, 1) := by decide +kernel
theorem dX12_heard_39 : decode cX12_heard 39 = .ok (.bipush 6, 2) := by decide +kernel
theorem dX12_heard_41 : decode cX12_heard 41 = .ok (.if_icmp .ne 8, 3) := by decide +kernel
theorem dX12_heard_44 : decode cX12_heard 44 = .ok (.aload_n 0, 1) := by decide +kernel
theorem dX12_heard_45 : decode cX12_heard 45 = .ok (.invokevirtual 104, 3) := by decide +kernel
theorem dX12_heard_48 : decode cX12_heard 48 = .ok (.ireturn, 1) := by decide +kernel
theorem dX12_heard_49 : decode cX12_heard 49 = .ok (.bipush 53, 2) := by decide +kernel
theorem dX12_heard_51 : decode cX12_heard 51 = .ok (.iconst 3, 1) := by decide +kernel
theorem dX12_heard_52 : decode cX12_heard 52 = .ok (.aload_n 0, 1) := by decide +kernel
theorem dX12_heard_53 : decode cX12_heard 53 = .ok (.getfield 7, 3) := by decide +kernel
theorem dX12_heard_56 : decode cX12_heard 56 = .ok (.bipush 52, 2) := by decide +kernel
theorem dX12_heard_58 : decode cX12_heard 58 = .ok (.iaload, 1) := by decide +kernel
theorem dX12_heard_59 : decode cX12_heard 59 = .ok (.imul, 1) := by decide +kernel
theorem dX12_heard_60 : decode cX12_heard 60 = .ok (.iadd, 1) := by decide +kernel
theorem dX12_heard_61 : decode cX12_heard 61 = .ok (.istore 4, 2) := by decide +kernel
theorem dX12_heard_63 : decode cX12_heard 63 = .ok (.aload_n 0, 1) := by decide +kernel
theorem dX12_heard_64 : decode cX12_heard 64 = .ok (.getfield 7, 3) := by decide +kernel
theorem dX12_heard_67 : decode cX12_heard 67 = .ok (.iload 4, 2) := by decide +kernel
theorem dX12_heard_69 : decode cX12_heard 69 = .ok (.iload_n 1, 1) := by decide +kernel
theorem dX12_heard_70 : decode cX12_heard 70 = .ok (.iastore, 1) := by decide +kernel
theorem dX12_heard_71 : decode cX12_heard 71 = .ok (.aload_n 0, 1) := by decide +kernel
theorem dX12_heard_72 : decode cX12_heard 72 = .ok (.getfield 7, 3) := by decide +kernel
theorem dX12_heard_75 : decode cX12_heard 75 = .ok (.iload 4, 2) := by decide +kernel
theorem dX12_heard_77 : decode cX12_heard 77 = .ok (.iconst 1, 1) := by decide +kernel
theorem dX12_heard_78 : decode cX12_heard 78 = .ok (.iadd, 1) := by decide +kernel
theorem dX12_heard_79 : decode cX12_heard 79 = .ok (.iload_n 2, 1) := by decide +kernel
theorem dX12_heard_80 : decode cX12_heard 80 = .ok (.iastore, 1) := by decide +kernel
theorem dX12_heard_81 : decode cX12_heard 81 = .ok (.aload_n 0, 1) := by decide +kernel
theorem dX12_heard_82 : decode cX12_heard 82 = .ok (.getfield 7, 3) := by decide +kernel
theorem dX12_heard_85 : decode cX12_heard 85 = .ok (.iload 4, 2) := by decide +kernel
theorem dX12_heard_87 : decode cX12_heard 87 = .ok (.iconst 2, 1) := by decide +kernel
theorem dX12_heard_88 : decode cX12_heard 88 = .ok (.iadd, 1) := by decide +kernel
theorem dX12_heard_89 : decode cX12_heard 89 = .ok (.iload_n 3, 1) := by decide +kernel
theorem dX12_heard_90 : decode cX12_heard 90 = .ok (.iastore, 1) := by decide +kernel
theorem dX12_heard_91 : decode cX12_heard 91 = .ok (.aload_n 0, 1) := by decide +kernel
theorem dX12_heard_92 : decode cX12_heard 92 = .ok (.getfield 7, 3) := by decide +kernel
theorem dX12_heard_95 : decode cX12_heard 95 = .ok (.bipush 52, 2) := by decide +kernel
theorem dX12_heard_97 : decode cX12_heard 97 = .ok (.dup2, 1) := by decide +kernel
theorem dX12_heard_98 : decode cX12_heard 98 = .ok (.iaload, 1) := by decide +kernel
theorem dX12_heard_99 : decode cX12_heard 99 = .ok (.iconst 1, 1) := by decide +kernel
theorem dX12_heard_100 : decode cX12_heard 100 = .ok (.iadd, 1) := by decide +kernel
theorem dX12_heard_101 : decode cX12_heard 101 = .ok (.iastore, 1) := by decide +kernel
theorem dX12_heard_102 : decode cX12_heard 102 = .ok (.aload_n 0, 1) := by decide +kernel
theorem dX12_heard_103 : decode cX12_heard 103 = .ok (.getfield 7, 3) := by decide +kernel
theorem dX12_heard_106 : decode cX12_heard 106 = .ok (.bipush 52, 2) := by decide +kernel
theorem dX12_heard_108 : decode cX12_heard 108 = .ok (.iaload, 1) := by decide +kernel
theorem dX12_heard_109 : decode cX12_heard 109 = .ok (.ireturn, 1) := by decide +kernel
theorem dX12_forget_0 : decode cX12_forget 0 = .ok (.aload_n 0, 1) := by decide +kernel
theorem dX12_forget_1 : decode cX12_forget 1 = .ok (.getfield 7, 3) := by decide +kernel
theorem dX12_forget_4 : decode cX12_forget 4 = .ok (.bipush 52, 2) := by decide +kernel
theorem dX12_forget_6 : decode cX12_forget 6 = .ok (.iaload, 1) := by decide +kernel
theorem dX12_forget_7 : decode cX12_forget 7 = .ok (.istore_n 1, 1) := by decide +kernel
theorem dX12_forget_8 : decode cX12_forget 8 = .ok (.aload_n 0, 1) := by decide +kernel
theorem dX12_forget_9 : decode cX12_forget 9 = .ok (.getfield 7, 3) := by decide +kernel
theorem dX12_forget_12 : decode cX12_forget 12 = .ok (.bipush 52, 2) := by decide +kernel
theorem dX12_forget_14 : decode cX12_forget 14 = .ok (.iconst 0, 1) := by decide +kernel
theorem dX12_forget_15 : decode cX12_forget 15 = .ok (.iastore, 1) := by decide +kernel
theorem dX12_forget_16 : decode cX12_forget 16 = .ok (.iload_n 1, 1) := by decide +kernel
theorem dX12_forget_17 : decode cX12_forget 17 = .ok (.ireturn, 1) := by decide +kernel
theorem dX12_heardBy_0 : decode cX12_heardBy 0 = .ok (.iload_n 1, 1) := by decide +kernel
theorem dX12_heardBy_1 : decode cX12_heardBy 1 = .ok (.iload_n 2, 1) := by decide +kernel
theorem dX12_heardBy_2 : decode cX12_heardBy 2 = .ok (.if_icmp .ne 7, 3) := by decide +kernel
theorem dX12_heardBy_5 : decode cX12_heardBy 5 = .ok (.iconst 0, 1) := by decide +kernel
theorem dX12_heardBy_6 : decode cX12_heardBy 6 = .ok (.goto 15, 3) := by decide +kernel
theorem dX12_heardBy_9 : decode cX12_heardBy 9 = .ok (.aload_n 0, 1) := by decide +kernel
theorem dX12_heardBy_10 : decode cX12_heardBy 10 = .ok (.aload_n 0, 1) := by decide +kernel
theorem dX12_heardBy_11 : decode cX12_heardBy 11 = .ok (.iload_n 1, 1) := by decide +kernel
theorem dX12_heardBy_12 : decode cX12_heardBy 12 = .ok (.iload_n 2, 1) := by decide +kernel
theorem dX12_heardBy_13 : decode cX12_heardBy 13 = .ok (.invokevirtual 99, 3) := by decide +kernel
theorem dX12_heardBy_16 : decode cX12_heardBy 16 = .ok (.iload_n 2, 1) := by decide +kernel
theorem dX12_heardBy_17 : decode cX12_heardBy 17 = .ok (.iload_n 3, 1) := by decide +kernel
theorem dX12_heardBy_18 : decode cX12_heardBy 18 = .ok (.invokevirtual 211, 3) := by decide +kernel
theorem dX12_heardBy_21 : decode cX12_heardBy 21 = .ok (.ireturn, 1) := by decide +kernel
theorem dX12_canBe_0 : decode cX12_canBe 0 = .ok (.iload_n 1, 1) := by decide +kernel
theorem dX12_canBe_1 : decode cX12_canBe 1 = .ok (.iload_n 2, 1) := by decide +kernel
theorem dX12_canBe_2 : decode cX12_canBe 2 = .ok (.if_icmp .eq 14, 3) := by decide +kernel
theorem dX12_canBe_5 : decode cX12_canBe 5 = .ok (.aload_n 0, 1) := by decide +kernel
theorem dX12_canBe_6 : decode cX12_canBe 6 = .ok (.iload_n 1, 1) := by decide +kernel
theorem dX12_canBe_7 : decode cX12_canBe 7 = .ok (.iload_n 2, 1) := by decide +kernel
theorem dX12_canBe_8 : decode cX12_canBe 8 = .ok (.invokevirtual 99, 3) := by decide +kernel
theorem dX12_canBe_11 : decode cX12_canBe 11 = .ok (.ifCond .ge 5, 3) := by decide +kernel
theorem dX12_canBe_14 : decode cX12_canBe 14 = .ok (.iconst 0, 1) := by decide +kernel
theorem dX12_canBe_15 : decode cX12_canBe 15 = .ok (.ireturn, 1) := by decide +kernel
theorem dX12_canBe_16 : decode cX12_canBe 16 = .ok (.aload_n 0, 1) := by decide +kernel
theorem dX12_canBe_17 : decode cX12_canBe 17 = .ok (.iload_n 1, 1) := by decide +kernel
theorem dX12_canBe_18 : decode cX12_canBe 18 = .ok (.iload_n 2, 1) := by decide +kernel
theorem dX12_canBe_19 : decode cX12_canBe 19 = .ok (.iload_n 3, 1) := by decide +kernel
theorem dX12_canBe_20 : decode cX12_canBe 20 = .ok (.invokevirtual 249, 3) := by decide +kernel
theorem dX12_canBe_23 : decode cX12_canBe 23 = .ok (.istore 4, 2) := by decide +kernel
theorem dX12_canBe_25 : decode cX12_canBe 25 = .ok (.iconst 1, 1) := by decide +kernel
theorem dX12_canBe_26 : decode cX12_canBe 26 = .ok (.istore 5, 2) := by decide +kernel
theorem dX12_canBe_28 : decode cX12_canBe 28 = .ok (.iconst 0, 1) := by decide +kernel
theorem dX12_canBe_29 : decode cX12_canBe 29 = .ok (.istore 6, 2) := by decide +kernel
theorem dX12_canBe_31 : decode cX12_canBe 31 = .ok (.iload 6, 2) := by decide +kernel
theorem dX12_canBe_33 : decode cX12_canBe 33 = .ok (.aload_n 0, 1) := by decide +kernel
theorem dX12_canBe_34 : decode cX12_canBe 34 = .ok (.getfield 7, 3) := by decide +kernel
theorem dX12_canBe_37 : decode cX12_canBe 37 = .ok (.bipush 52, 2) := by decide +kernel
theorem dX12_canBe_39 : decode cX12_canBe 39 = .ok (.iaload, 1) := by decide +kernel
theorem dX12_canBe_40 : decode cX12_canBe 40 = .ok (.if_icmp .ge 67, 3) := by decide +kernel
theorem dX12_canBe_43 : decode cX12_canBe 43 = .ok (.bipush 53, 2) := by decide +kernel
theorem dX12_canBe_45 : decode cX12_canBe 45 = .ok (.iconst 3, 1) := by decide +kernel
theorem dX12_canBe_46 : decode cX12_canBe 46 = .ok (.iload 6, 2) := by decide +kernel
theorem dX12_canBe_48 : decode cX12_canBe 48 = .ok (.imul, 1) := by decide +kernel
theorem dX12_canBe_49 : decode cX12_canBe 49 = .ok (.iadd, 1) := by decide +kernel
theorem dX12_canBe_50 : decode cX12_canBe 50 = .ok (.istore 7, 2) := by decide +kernel
theorem dX12_canBe_52 : decode cX12_canBe 52 = .ok (.iload 5, 2) := by decide +kernel
theorem dX12_canBe_54 : decode cX12_canBe 54 = .ok (.ifCond .eq 44, 3) := by decide +kernel
theorem dX12_canBe_57 : decode cX12_canBe 57 = .ok (.aload_n 0, 1) := by decide +kernel
theorem dX12_canBe_58 : decode cX12_canBe 58 = .ok (.getfield 7, 3) := by decide +kernel
theorem dX12_canBe_61 : decode cX12_canBe 61 = .ok (.iload 7, 2) := by decide +kernel
theorem dX12_canBe_63 : decode cX12_canBe 63 = .ok (.iconst 1, 1) := by decide +kernel
theorem dX12_canBe_64 : decode cX12_canBe 64 = .ok (.iadd, 1) := by decide +kernel
theorem dX12_canBe_65 : decode cX12_canBe 65 = .ok (.iaload, 1) := by decide +kernel
theorem dX12_canBe_66 : decode cX12_canBe 66 = .ok (.iload_n 3, 1) := by decide +kernel
theorem dX12_canBe_67 : decode cX12_canBe 67 = .ok (.if_icmp .ne 27, 3) := by decide +kernel
theorem dX12_canBe_70 : decode cX12_canBe 70 = .ok (.iload 4, 2) := by decide +kernel
theorem dX12_canBe_72 : decode cX12_canBe 72 = .ok (.aload_n 0, 1) := by decide +kernel
theorem dX12_canBe_73 : decode cX12_canBe 73 = .ok (.getfield 7, 3) := by decide +kernel
theorem dX12_canBe_76 : decode cX12_canBe 76 = .ok (.iload 7, 2) := by decide +kernel
theorem dX12_canBe_78 : decode cX12_canBe 78 = .ok (.iaload, 1) := by decide +kernel
theorem dX12_canBe_79 : decode cX12_canBe 79 = .ok (.ishr, 1) := by decide +kernel
theorem dX12_canBe_80 : decode cX12_canBe 80 = .ok (.iconst 1, 1) := by decide +kernel
theorem dX12_canBe_81 : decode cX12_canBe 81 = .ok (.iand, 1) := by decide +kernel
theorem dX12_canBe_82 : decode cX12_canBe 82 = .ok (.aload_n 0, 1) := by decide +kernel
theorem dX12_canBe_83 : decode cX12_canBe 83 = .ok (.getfield 7, 3) := by decide +kernel
theorem dX12_canBe_86 : decode cX12_canBe 86 = .ok (.iload 7, 2) := by decide +kernel
theorem dX12_canBe_88 : decode cX12_canBe 88 = .ok (.iconst 2, 1) := by decide +kernel
theorem dX12_canBe_89 : decode cX12_canBe 89 = .ok (.iadd, 1) := by decide +kernel
theorem dX12_canBe_90 : decode cX12_canBe 90 = .ok (.iaload, 1) := by decide +kernel
theorem dX12_canBe_91 : decode cX12_canBe 91 = .ok (.if_icmp .ne 7, 3) := by decide +kernel
theorem dX12_canBe_94 : decode cX12_canBe 94 = .ok (.iconst 1, 1) := by decide +kernel
theorem dX12_canBe_95 : decode cX12_canBe 95 = .ok (.goto 4, 3) := by decide +kernel
theorem dX12_canBe_98 : decode cX12_canBe 98 = .ok (.iconst 0, 1) := by decide +kernel
theorem dX12_canBe_99 : decode cX12_canBe 99 = .ok (.istore 5, 2) := by decide +kernel
theorem dX12_canBe_101 : decode cX12_canBe 101 = .ok (.iinc 6 1, 3) := by decide +kernel
theorem dX12_canBe_104 : decode cX12_canBe 104 = .ok (.goto (-73), 3) := by decide +kernel
theorem dX12_canBe_107 : decode cX12_canBe 107 = .ok (.iload 5, 2) := by decide +kernel
theorem dX12_canBe_109 : decode cX12_canBe 109 = .ok (.ireturn, 1) := by decide +kernel
theorem dX12_findHeard_0 : decode cX12_findHeard 0 = .ok (.iconst 0, 1) := by decide +kernel
theorem dX12_findHeard_1 : decode cX12_findHeard 1 = .ok (.istore_n 1, 1) := by decide +kernel
theorem dX12_findHeard_2 : decode cX12_findHeard 2 = .ok (.iload_n 1, 1) := by decide +kernel
theorem dX12_findHeard_3 : decode cX12_findHeard 3 = .ok (.bipush 12, 2) := by decide +kernel
theorem dX12_findHeard_5 : decode cX12_findHeard 5 = .ok (.if_icmp .ge 47, 3) := by decide +kernel
theorem dX12_findHeard_8 : decode cX12_findHeard 8 = .ok (.iconst 0, 1) := by decide +kernel
theorem dX12_findHeard_9 : decode cX12_findHeard 9 = .ok (.istore_n 2, 1) := by decide +kernel
theorem dX12_findHeard_10 : decode cX12_findHeard 10 = .ok (.iload_n 2, 1) := by decide +kernel
theorem dX12_findHeard_11 : decode cX12_findHeard 11 = .ok (.bipush 64, 2) := by decide +kernel
theorem dX12_findHeard_13 : decode cX12_findHeard 13 = .ok (.if_icmp .ge 33, 3) := by decide +kernel
theorem dX12_findHeard_16 : decode cX12_findHeard 16 = .ok (.aload_n 0, 1) := by decide +kernel
theorem dX12_findHeard_17 : decode cX12_findHeard 17 = .ok (.getfield 52, 3) := by decide +kernel
theorem dX12_findHeard_20 : decode cX12_findHeard 20 = .ok (.bipush 64, 2) := by decide +kernel
theorem dX12_findHeard_22 : decode cX12_findHeard 22 = .ok (.iload_n 1, 1) := by decide +kernel
theorem dX12_findHeard_23 : decode cX12_findHeard 23 = .ok (.imul, 1) := by decide +kernel
theorem dX12_findHeard_24 : decode cX12_findHeard 24 = .ok (.iload_n 2, 1) := by decide +kernel
theorem dX12_findHeard_25 : decode cX12_findHeard 25 = .ok (.iadd, 1) := by decide +kernel
theorem dX12_findHeard_26 : decode cX12_findHeard 26 = .ok (.aload_n 0, 1) := by decide +kernel
theorem dX12_findHeard_27 : decode cX12_findHeard 27 = .ok (.iload_n 2, 1) := by decide +kernel
theorem dX12_findHeard_28 : decode cX12_findHeard 28 = .ok (.bipush 8, 2) := by decide +kernel
theorem dX12_findHeard_30 : decode cX12_findHeard 30 = .ok (.idiv, 1) := by decide +kernel
theorem dX12_findHeard_31 : decode cX12_findHeard 31 = .ok (.iload_n 2, 1) := by decide +kernel
theorem dX12_findHeard_32 : decode cX12_findHeard 32 = .ok (.bipush 8, 2) := by decide +kernel
theorem dX12_findHeard_34 : decode cX12_findHeard 34 = .ok (.irem, 1) := by decide +kernel
theorem dX12_findHeard_35 : decode cX12_findHeard 35 = .ok (.iload_n 1, 1) := by decide +kernel
theorem dX12_findHeard_36 : decode cX12_findHeard 36 = .ok (.invokevirtual 252, 3) := by decide +kernel
theorem dX12_findHeard_39 : decode cX12_findHeard 39 = .ok (.bastore, 1) := by decide +kernel
theorem dX12_findHeard_40 : decode cX12_findHeard 40 = .ok (.iinc 2 1, 3) := by decide +kernel
theorem dX12_findHeard_43 : decode cX12_findHeard 43 = .ok (.goto (-33), 3) := by decide +kernel
theorem dX12_findHeard_46 : decode cX12_findHeard 46 = .ok (.iinc 1 1, 3) := by decide +kernel
theorem dX12_findHeard_49 : decode cX12_findHeard 49 = .ok (.goto (-47), 3) := by decide +kernel
theorem dX12_findHeard_52 : decode cX12_findHeard 52 = .ok (.iconst 0, 1) := by decide +kernel
theorem dX12_findHeard_53 : decode cX12_findHeard 53 = .ok (.istore_n 1, 1) := by decide +kernel
theorem dX12_findHeard_54 : decode cX12_findHeard 54 = .ok (.iload_n 1, 1) := by decide +kernel
theorem dX12_findHeard_55 : decode cX12_findHeard 55 = .ok (.bipush 104, 2) := by decide +kernel
theorem dX12_findHeard_57 : decode cX12_findHeard 57 = .ok (.if_icmp .ge 41, 3) := by decide +kernel
theorem dX12_findHeard_60 : decode cX12_findHeard 60 = .ok (.aload_n 0, 1) := by decide +kernel
theorem dX12_findHeard_61 : decode cX12_findHeard 61 = .ok (.getfield 45, 3) := by decide +kernel
theorem dX12_findHeard_64 : decode cX12_findHeard 64 = .ok (.iload_n 1, 1) := by decide +kernel
theorem dX12_findHeard_65 : decode cX12_findHeard 65 = .ok (.iload_n 1, 1) := by decide +kernel
theorem dX12_findHeard_66 : decode cX12_findHeard 66 = .ok (.ifCond .ne 7, 3) := by decide +kernel
theorem dX12_findHeard_69 : decode cX12_findHeard 69 = .ok (.lconst 1, 1) := by decide +kernel
theorem dX12_findHeard_70 : decode cX12_findHeard 70 = .ok (.goto 4, 3) := by decide +kernel
theorem dX12_findHeard_73 : decode cX12_findHeard 73 = .ok (.lconst 0, 1) := by decide +kernel
theorem dX12_findHeard_74 : decode cX12_findHeard 74 = .ok (.lastore, 1) := by decide +kernel
theorem dX12_findHeard_75 : decode cX12_findHeard 75 = .ok (.aload_n 0, 1) := by decide +kernel
theorem dX12_findHeard_76 : decode cX12_findHeard 76 = .ok (.getfield 49, 3) := by decide +kernel
theorem dX12_findHeard_79 : decode cX12_findHeard 79 = .ok (.iload_n 1, 1) := by decide +kernel
theorem dX12_findHeard_80 : decode cX12_findHeard 80 = .ok (.iload_n 1, 1) := by decide +kernel
theorem dX12_findHeard_81 : decode cX12_findHeard 81 = .ok (.bipush 96, 2) := by decide +kernel
theorem dX12_findHeard_83 : decode cX12_findHeard 83 = .ok (.if_icmp .ge 7, 3) := by decide +kernel
theorem dX12_findHeard_86 : decode cX12_findHeard 86 = .ok (.lconst 0, 1) := by decide +kernel
theorem dX12_findHeard_87 : decode cX12_findHeard 87 = .ok (.goto 4, 3) := by decide +kernel
theorem dX12_findHeard_90 : decode cX12_findHeard 90 = .ok (.lconst 1, 1) := by decide +kernel
theorem dX12_findHeard_91 : decode cX12_findHeard 91 = .ok (.lastore, 1) := by decide +kernel
theorem dX12_findHeard_92 : decode cX12_findHeard 92 = .ok (.iinc 1 1, 3) := by decide +kernel
theorem dX12_findHeard_95 : decode cX12_findHeard 95 = .ok (.goto (-41), 3) := by decide +kernel
theorem dX12_findHeard_98 : decode cX12_findHeard 98 = .ok (.iconst 0, 1) := by decide +kernel
theorem dX12_findHeard_99 : decode cX12_findHeard 99 = .ok (.istore_n 1, 1) := by decide +kernel
theorem dX12_findHeard_100 : decode cX12_findHeard 100 = .ok (.iload_n 1, 1) := by decide +kernel
theorem dX12_findHeard_101 : decode cX12_findHeard 101 = .ok (.bipush 12, 2) := by decide +kernel
theorem dX12_findHeard_103 : decode cX12_findHeard 103 = .ok (.if_icmp .ge 74, 3) := by decide +kernel
theorem dX12_findHeard_106 : decode cX12_findHeard 106 = .ok (.iconst 0, 1) := by decide +kernel
theorem dX12_findHeard_107 : decode cX12_findHeard 107 = .ok (.istore_n 2, 1) := by decide +kernel
theorem dX12_findHeard_108 : decode cX12_findHeard 108 = .ok (.iload_n 2, 1) := by decide +kernel
theorem dX12_findHeard_109 : decode cX12_findHeard 109 = .ok (.bipush 64, 2) := by decide +kernel
theorem dX12_findHeard_111 : decode cX12_findHeard 111 = .ok (.if_icmp .ge 60, 3) := by decide +kernel
theorem dX12_findHeard_114 : decode cX12_findHeard 114 = .ok (.aload_n 0, 1) := by decide +kernel
theorem dX12_findHeard_115 : decode cX12_findHeard 115 = .ok (.getfield 45, 3) := by decide +kernel
theorem dX12_findHeard_118 : decode cX12_findHeard 118 = .ok (.bipush 8, 2) := by decide +kernel
theorem dX12_findHeard_120 : decode cX12_findHeard 120 = .ok (.iload_n 1, 1) := by decide +kernel
theorem dX12_findHeard_121 : decode cX12_findHeard 121 = .ok (.iconst 1, 1) := by decide +kernel
theorem dX12_findHeard_122 : decode cX12_findHeard 122 = .ok (.iadd, 1) := by decide +kernel
theorem dX12_findHeard_123 : decode cX12_findHeard 123 = .ok (.imul, 1) := by decide +kernel
theorem dX12_findHeard_124 : decode cX12_findHeard 124 = .ok (.iload_n 2, 1) := by decide +kernel
theorem dX12_findHeard_125 : decode cX12_findHeard 125 = .ok (.bipush 8, 2) := by decide +kernel
theorem dX12_findHeard_127 : decode cX12_findHeard 127 = .ok (.irem, 1) := by decide +kernel
theorem dX12_findHeard_128 : decode cX12_findHeard 128 = .ok (.iadd, 1) := by decide +kernel
theorem dX12_findHeard_129 : decode cX12_findHeard 129 = .ok (.dup2, 1) := by decide +kernel
theorem dX12_findHeard_130 : decode cX12_findHeard 130 = .ok (.laload, 1) := by decide +kernel
theorem dX12_findHeard_131 : decode cX12_findHeard 131 = .ok (.aload_n 0, 1) := by decide +kernel
theorem dX12_findHeard_132 : decode cX12_findHeard 132 = .ok (.getfield 52, 3) := by decide +kernel
theorem dX12_findHeard_135 : decode cX12_findHeard 135 = .ok (.bipush 64, 2) := by decide +kernel
theorem dX12_findHeard_137 : decode cX12_findHeard 137 = .ok (.iload_n 1, 1) := by decide +kernel
theorem dX12_findHeard_138 : decode cX12_findHeard 138 = .ok (.imul, 1) := by decide +kernel
theorem dX12_findHeard_139 : decode cX12_findHeard 139 = .ok (.iload_n 2, 1) := by decide +kernel
theorem dX12_findHeard_140 : decode cX12_findHeard 140 = .ok (.iadd, 1) := by decide +kernel
theorem dX12_findHeard_141 : decode cX12_findHeard 141 = .ok (.baload, 1) := by decide +kernel
theorem dX12_findHeard_142 : decode cX12_findHeard 142 = .ok (.ifCond .eq 20, 3) := by decide +kernel
theorem dX12_findHeard_145 : decode cX12_findHeard 145 = .ok (.aload_n 0, 1) := by decide +kernel
theorem dX12_findHeard_146 : decode cX12_findHeard 146 = .ok (.getfield 45, 3) := by decide +kernel
theorem dX12_findHeard_149 : decode cX12_findHeard 149 = .ok (.bipush 8, 2) := by decide +kernel
theorem dX12_findHeard_151 : decode cX12_findHeard 151 = .ok (.iload_n 1, 1) := by decide +kernel
theorem dX12_findHeard_152 : decode cX12_findHeard 152 = .ok (.imul, 1) := by decide +kernel
theorem dX12_findHeard_153 : decode cX12_findHeard 153 = .ok (.iload_n 2, 1) := by decide +kernel
theorem dX12_findHeard_154 : decode cX12_findHeard 154 = .ok (.bipush 8, 2) := by decide +kernel
theorem dX12_findHeard_156 : decode cX12_findHeard 156 = .ok (.idiv, 1) := by decide +kernel
theorem dX12_findHeard_157 : decode cX12_findHeard 157 = .ok (.iadd, 1) := by decide +kernel
theorem dX12_findHeard_158 : decode cX12_findHeard 158 = .ok (.laload, 1) := by decide +kernel
theorem dX12_findHeard_159 : decode cX12_findHeard 159 = .ok (.goto 4, 3) := by decide +kernel
theorem dX12_findHeard_162 : decode cX12_findHeard 162 = .ok (.lconst 0, 1) := by decide +kernel
theorem dX12_findHeard_163 : decode cX12_findHeard 163 = .ok (.ladd, 1) := by decide +kernel
theorem dX12_findHeard_164 : decode cX12_findHeard 164 = .ok (.lastore, 1) := by decide +kernel
theorem dX12_findHeard_165 : decode cX12_findHeard 165 = .ok (.iinc 2 1, 3) := by decide +kernel
theorem dX12_findHeard_168 : decode cX12_findHeard 168 = .ok (.goto (-60), 3) := by decide +kernel
theorem dX12_findHeard_171 : decode cX12_findHeard 171 = .ok (.iinc 1 1, 3) := by decide +kernel
theorem dX12_findHeard_174 : decode cX12_findHeard 174 = .ok (.goto (-74), 3) := by decide +kernel
theorem dX12_findHeard_177 : decode cX12_findHeard 177 = .ok (.bipush 11, 2) := by decide +kernel
theorem dX12_findHeard_179 : decode cX12_findHeard 179 = .ok (.istore_n 1, 1) := by decide +kernel
theorem dX12_findHeard_180 : decode cX12_findHeard 180 = .ok (.iload_n 1, 1) := by decide +kernel
theorem dX12_findHeard_181 : decode cX12_findHeard 181 = .ok (.ifCond .lt 74, 3) := by decide +kernel
theorem dX12_findHeard_184 : decode cX12_findHeard 184 = .ok (.iconst 0, 1) := by decide +kernel
theorem dX12_findHeard_185 : decode cX12_findHeard 185 = .ok (.istore_n 2, 1) := by decide +kernel
theorem dX12_findHeard_186 : decode cX12_findHeard 186 = .ok (.iload_n 2, 1) := by decide +kernel
theorem dX12_findHeard_187 : decode cX12_findHeard 187 = .ok (.bipush 64, 2) := by decide +kernel
theorem dX12_findHeard_189 : decode cX12_findHeard 189 = .ok (.if_icmp .ge 60, 3) := by decide +kernel
theorem dX12_findHeard_192 : decode cX12_findHeard 192 = .ok (.aload_n 0, 1) := by decide +kernel
theorem dX12_findHeard_193 : decode cX12_findHeard 193 = .ok (.getfield 49, 3) := by decide +kernel
theorem dX12_findHeard_196 : decode cX12_findHeard 196 = .ok (.bipush 8, 2) := by decide +kernel
theorem dX12_findHeard_198 : decode cX12_findHeard 198 = .ok (.iload_n 1, 1) := by decide +kernel
theorem dX12_findHeard_199 : decode cX12_findHeard 199 = .ok (.imul, 1) := by decide +kernel
theorem dX12_findHeard_200 : decode cX12_findHeard 200 = .ok (.iload_n 2, 1) := by decide +kernel
theorem dX12_findHeard_201 : decode cX12_findHeard 201 = .ok (.bipush 8, 2) := by decide +kernel
theorem dX12_findHeard_203 : decode cX12_findHeard 203 = .ok (.idiv, 1) := by decide +kernel
theorem dX12_findHeard_204 : decode cX12_findHeard 204 = .ok (.iadd, 1) := by decide +kernel
theorem dX12_findHeard_205 : decode cX12_findHeard 205 = .ok (.dup2, 1) := by decide +kernel
theorem dX12_findHeard_206 : decode cX12_findHeard 206 = .ok (.laload, 1) := by decide +kernel
theorem dX12_findHeard_207 : decode cX12_findHeard 207 = .ok (.aload_n 0, 1) := by decide +kernel
theorem dX12_findHeard_208 : decode cX12_findHeard 208 = .ok (.getfield 52, 3) := by decide +kernel
theorem dX12_findHeard_211 : decode cX12_findHeard 211 = .ok (.bipush 64, 2) := by decide +kernel
theorem dX12_findHeard_213 : decode cX12_findHeard 213 = .ok (.iload_n 1, 1) := by decide +kernel
theorem dX12_findHeard_214 : decode cX12_findHeard 214 = .ok (.imul, 1) := by decide +kernel
theorem dX12_findHeard_215 : decode cX12_findHeard 215 = .ok (.iload_n 2, 1) := by decide +kernel
theorem dX12_findHeard_216 : decode cX12_findHeard 216 = .ok (.iadd, 1) := by decide +kernel
theorem dX12_findHeard_217 : decode cX12_findHeard 217 = .ok (.baload, 1) := by decide +kernel
theorem dX12_findHeard_218 : decode cX12_findHeard 218 = .ok (.ifCond .eq 22, 3) := by decide +kernel
theorem dX12_findHeard_221 : decode cX12_findHeard 221 = .ok (.aload_n 0, 1) := by decide +kernel
theorem dX12_findHeard_222 : decode cX12_findHeard 222 = .ok (.getfield 49, 3) := by decide +kernel
theorem dX12_findHeard_225 : decode cX12_findHeard 225 = .ok (.bipush 8, 2) := by decide +kernel
theorem dX12_findHeard_227 : decode cX12_findHeard 227 = .ok (.iload_n 1, 1) := by decide +kernel
theorem dX12_findHeard_228 : decode cX12_findHeard 228 = .ok (.iconst 1, 1) := by decide +kernel
theorem dX12_findHeard_229 : decode cX12_findHeard 229 = .ok (.iadd, 1) := by decide +kernel
theorem dX12_findHeard_230 : decode cX12_findHeard 230 = .ok (.imul, 1) := by decide +kernel
theorem dX12_findHeard_231 : decode cX12_findHeard 231 = .ok (.iload_n 2, 1) := by decide +kernel
theorem dX12_findHeard_232 : decode cX12_findHeard 232 = .ok (.bipush 8, 2) := by decide +kernel
theorem dX12_findHeard_234 : decode cX12_findHeard 234 = .ok (.irem, 1) := by decide +kernel
theorem dX12_findHeard_235 : decode cX12_findHeard 235 = .ok (.iadd, 1) := by decide +kernel
theorem dX12_findHeard_236 : decode cX12_findHeard 236 = .ok (.laload, 1) := by decide +kernel
theorem dX12_findHeard_237 : decode cX12_findHeard 237 = .ok (.goto 4, 3) := by decide +kernel
theorem dX12_findHeard_240 : decode cX12_findHeard 240 = .ok (.lconst 0, 1) := by decide +kernel
theorem dX12_findHeard_241 : decode cX12_findHeard 241 = .ok (.ladd, 1) := by decide +kernel
theorem dX12_findHeard_242 : decode cX12_findHeard 242 = .ok (.lastore, 1) := by decide +kernel
theorem dX12_findHeard_243 : decode cX12_findHeard 243 = .ok (.iinc 2 1, 3) := by decide +kernel
theorem dX12_findHeard_246 : decode cX12_findHeard 246 = .ok (.goto (-60), 3) := by decide +kernel
theorem dX12_findHeard_249 : decode cX12_findHeard 249 = .ok (.iinc 1 (-1), 3) := by decide +kernel
theorem dX12_findHeard_252 : decode cX12_findHeard 252 = .ok (.goto (-72), 3) := by decide +kernel
theorem dX12_findHeard_255 : decode cX12_findHeard 255 = .ok (.return_, 1) := by decide +kernel
theorem dX12_may_0 : decode cX12_may 0 = .ok (.iload_n 1, 1) := by decide +kernel
theorem dX12_may_1 : decode cX12_may 1 = .ok (.i2l, 1) := by decide +kernel
theorem dX12_may_2 : decode cX12_may 2 = .ok (.lconst 0, 1) := by decide +kernel
theorem dX12_may_3 : decode cX12_may 3 = .ok (.ldc2_w 247, 3) := by decide +kernel
theorem dX12_may_6 : decode cX12_may 6 = .ok (.invokestatic 75, 3) := by decide +kernel
theorem dX12_may_9 : decode cX12_may 9 = .ok (.ifCond .ne 8, 3) := by decide +kernel
theorem dX12_may_12 : decode cX12_may 12 = .ok (.aload_n 0, 1) := by decide +kernel
theorem dX12_may_13 : decode cX12_may 13 = .ok (.invokevirtual 95, 3) := by decide +kernel
theorem dX12_may_16 : decode cX12_may 16 = .ok (.ireturn, 1) := by decide +kernel
theorem dX12_may_17 : decode cX12_may 17 = .ok (.aload_n 0, 1) := by decide +kernel
theorem dX12_may_18 : decode cX12_may 18 = .ok (.invokevirtual 255, 3) := by decide +kernel
theorem dX12_may_21 : decode cX12_may 21 = .ok (.iconst 0, 1) := by decide +kernel
theorem dX12_may_22 : decode cX12_may 22 = .ok (.istore_n 2, 1) := by decide +kernel
theorem dX12_may_23 : decode cX12_may 23 = .ok (.iconst 0, 1) := by decide +kernel
theorem dX12_may_24 : decode cX12_may 24 = .ok (.istore_n 3, 1) := by decide +kernel
theorem dX12_may_25 : decode cX12_may 25 = .ok (.iload_n 3, 1) := by decide +kernel
theorem dX12_may_26 : decode cX12_may 26 = .ok (.bipush 8, 2) := by decide +kernel
theorem dX12_may_28 : decode cX12_may 28 = .ok (.if_icmp .ge 51, 3) := by decide +kernel
theorem dX12_may_31 : decode cX12_may 31 = .ok (.iload_n 2, 1) := by decide +kernel
theorem dX12_may_32 : decode cX12_may 32 = .ok (.aload_n 0, 1) := by decide +kernel
theorem dX12_may_33 : decode cX12_may 33 = .ok (.getfield 45, 3) := by decide +kernel
theorem dX12_may_36 : decode cX12_may 36 = .ok (.bipush 8, 2) := by decide +kernel
theorem dX12_may_38 : decode cX12_may 38 = .ok (.iload_n 1, 1) := by decide +kernel
theorem dX12_may_39 : decode cX12_may 39 = .ok (.imul, 1) := by decide +kernel
theorem dX12_may_40 : decode cX12_may 40 = .ok (.iload_n 3, 1) := by decide +kernel
theorem dX12_may_41 : decode cX12_may 41 = .ok (.iadd, 1) := by decide +kernel
theorem dX12_may_42 : decode cX12_may 42 = .ok (.laload, 1) := by decide +kernel
theorem dX12_may_43 : decode cX12_may 43 = .ok (.lconst 0, 1) := by decide +kernel
theorem dX12_may_44 : decode cX12_may 44 = .ok (.lcmp, 1) := by decide +kernel
theorem dX12_may_45 : decode cX12_may 45 = .ok (.ifCond .le 25, 3) := by decide +kernel
theorem dX12_may_48 : decode cX12_may 48 = .ok (.aload_n 0, 1) := by decide +kernel
theorem dX12_may_49 : decode cX12_may 49 = .ok (.getfield 49, 3) := by decide +kernel
theorem dX12_may_52 : decode cX12_may 52 = .ok (.bipush 8, 2) := by decide +kernel
theorem dX12_may_54 : decode cX12_may 54 = .ok (.iload_n 1, 1) := by decide +kernel
theorem dX12_may_55 : decode cX12_may 55 = .ok (.imul, 1) := by decide +kernel
theorem dX12_may_56 : decode cX12_may 56 = .ok (.iload_n 3, 1) := by decide +kernel
theorem dX12_may_57 : decode cX12_may 57 = .ok (.iadd, 1) := by decide +kernel
theorem dX12_may_58 : decode cX12_may 58 = .ok (.laload, 1) := by decide +kernel
theorem dX12_may_59 : decode cX12_may 59 = .ok (.lconst 0, 1) := by decide +kernel
theorem dX12_may_60 : decode cX12_may 60 = .ok (.lcmp, 1) := by decide +kernel
theorem dX12_may_61 : decode cX12_may 61 = .ok (.ifCond .le 9, 3) := by decide +kernel
theorem dX12_may_64 : decode cX12_may 64 = .ok (.iconst 1, 1) := by decide +kernel
theorem dX12_may_65 : decode cX12_may 65 = .ok (.iload_n 3, 1) := by decide +kernel
theorem dX12_may_66 : decode cX12_may 66 = .ok (.ishl, 1) := by decide +kernel
theorem dX12_may_67 : decode cX12_may 67 = .ok (.goto 4, 3) := by decide +kernel
theorem dX12_may_70 : decode cX12_may 70 = .ok (.iconst 0, 1) := by decide +kernel
theorem dX12_may_71 : decode cX12_may 71 = .ok (.ior, 1) := by decide +kernel
theorem dX12_may_72 : decode cX12_may 72 = .ok (.istore_n 2, 1) := by decide +kernel
theorem dX12_may_73 : decode cX12_may 73 = .ok (.iinc 3 1, 3) := by decide +kernel
theorem dX12_may_76 : decode cX12_may 76 = .ok (.goto (-51), 3) := by decide +kernel
theorem dX12_may_79 : decode cX12_may 79 = .ok (.iload_n 2, 1) := by decide +kernel
theorem dX12_may_80 : decode cX12_may 80 = .ok (.ireturn, 1) := by decide +kernel
theorem dX12_ways_0 : decode cX12_ways 0 = .ok (.aload_n 0, 1) := by decide +kernel
theorem dX12_ways_1 : decode cX12_ways 1 = .ok (.invokevirtual 255, 3) := by decide +kernel
theorem dX12_ways_4 : decode cX12_ways 4 = .ok (.aload_n 0, 1) := by decide +kernel
theorem dX12_ways_5 : decode cX12_ways 5 = .ok (.getfield 49, 3) := by decide +kernel
theorem dX12_ways_8 : decode cX12_ways 8 = .ok (.iconst 0, 1) := by decide +kernel
theorem dX12_ways_9 : decode cX12_ways 9 = .ok (.laload, 1) := by decide +kernel
theorem dX12_ways_10 : decode cX12_ways 10 = .ok (.lreturn, 1) := by decide +kernel
theorem dX12_listen_0 : decode cX12_listen 0 = .ok (.iload_n 1, 1) := by decide +kernel
theorem dX12_listen_1 : decode cX12_listen 1 = .ok (.i2l, 1) := by decide +kernel
theorem dX12_listen_2 : decode cX12_listen 2 = .ok (.lconst 0, 1) := by decide +kernel
theorem dX12_listen_3 : decode cX12_listen 3 = .ok (.ldc2_w 258, 3) := by decide +kernel
theorem dX12_listen_6 : decode cX12_listen 6 = .ok (.invokestatic 75, 3) := by decide +kernel
theorem dX12_listen_9 : decode cX12_listen 9 = .ok (.ifCond .ne 8, 3) := by decide +kernel
theorem dX12_listen_12 : decode cX12_listen 12 = .ok (.aload_n 0, 1) := by decide +kernel
theorem dX12_listen_13 : decode cX12_listen 13 = .ok (.invokevirtual 95, 3) := by decide +kernel
theorem dX12_listen_16 : decode cX12_listen 16 = .ok (.ireturn, 1) := by decide +kernel
theorem dX12_listen_17 : decode cX12_listen 17 = .ok (.aload_n 0, 1) := by decide +kernel
theorem dX12_listen_18 : decode cX12_listen 18 = .ok (.invokevirtual 255, 3) := by decide +kernel
theorem dX12_listen_21 : decode cX12_listen 21 = .ok (.iconst (-1), 1) := by decide +kernel
theorem dX12_listen_22 : decode cX12_listen 22 = .ok (.istore_n 2, 1) := by decide +kernel
theorem dX12_listen_23 : decode cX12_listen 23 = .ok (.aload_n 0, 1) := by decide +kernel
theorem dX12_listen_24 : decode cX12_listen 24 = .ok (.getfield 49, 3) := by decide +kernel
theorem dX12_listen_27 : decode cX12_listen 27 = .ok (.iconst 0, 1) := by decide +kernel
theorem dX12_listen_28 : decode cX12_listen 28 = .ok (.laload, 1) := by decide +kernel
theorem dX12_listen_29 : decode cX12_listen 29 = .ok (.lstore_n 3, 1) := by decide +kernel
theorem dX12_listen_30 : decode cX12_listen 30 = .ok (.aload_n 0, 1) := by decide +kernel
theorem dX12_listen_31 : decode cX12_listen 31 = .ok (.getfield 7, 3) := by decide +kernel
theorem dX12_listen_34 : decode cX12_listen 34 = .ok (.iconst 5, 1) := by decide +kernel
theorem dX12_listen_35 : decode cX12_listen 35 = .ok (.iaload, 1) := by decide +kernel
theorem dX12_listen_36 : decode cX12_listen 36 = .ok (.iconst 1, 1) := by decide +kernel
theorem dX12_listen_37 : decode cX12_listen 37 = .ok (.isub, 1) := by decide +kernel
theorem dX12_listen_38 : decode cX12_listen 38 = .ok (.istore 5, 2) := by decide +kernel
theorem dX12_listen_40 : decode cX12_listen 40 = .ok (.iload 5, 2) := by decide +kernel
theorem dX12_listen_42 : decode cX12_listen 42 = .ok (.ifCond .lt 177, 3) := by decide +kernel
theorem dX12_listen_45 : decode cX12_listen 45 = .ok (.aload_n 0, 1) := by decide +kernel
theorem dX12_listen_46 : decode cX12_listen 46 = .ok (.getfield 49, 3) := by decide +kernel
theorem dX12_listen_49 : decode cX12_listen 49 = .ok (.iconst 0, 1) := by decide +kernel
theorem dX12_listen_50 : decode cX12_listen 50 = .ok (.laload, 1) := by decide +kernel
theorem dX12_listen_51 : decode cX12_listen 51 = .ok (.lconst 0, 1) := by decide +kernel
theorem dX12_listen_52 : decode cX12_listen 52 = .ok (.lcmp, 1) := by decide +kernel
theorem dX12_listen_53 : decode cX12_listen 53 = .ok (.ifCond .le 166, 3) := by decide +kernel
theorem dX12_listen_56 : decode cX12_listen 56 = .ok (.lconst 0, 1) := by decide +kernel
theorem dX12_listen_57 : decode cX12_listen 57 = .ok (.lstore 6, 2) := by decide +kernel
theorem dX12_listen_59 : decode cX12_listen 59 = .ok (.iconst 0, 1) := by decide +kernel
theorem dX12_listen_60 : decode cX12_listen 60 = .ok (.istore 8, 2) := by decide +kernel
theorem dX12_listen_62 : decode cX12_listen 62 = .ok (.iload 8, 2) := by decide +kernel
theorem dX12_listen_64 : decode cX12_listen 64 = .ok (.bipush 64, 2) := by decide +kernel
theorem dX12_listen_66 : decode cX12_listen 66 = .ok (.if_icmp .ge 103, 3) := by decide +kernel
theorem dX12_listen_69 : decode cX12_listen 69 = .ok (.iload 8, 2) := by decide +kernel
theorem dX12_listen_71 : decode cX12_listen 71 = .ok (.bipush 8, 2) := by decide +kernel
theorem dX12_listen_73 : decode cX12_listen 73 = .ok (.idiv, 1) := by decide +kernel
theorem dX12_listen_74 : decode cX12_listen 74 = .ok (.istore 9, 2) := by decide +kernel
theorem dX12_listen_76 : decode cX12_listen 76 = .ok (.iload 8, 2) := by decide +kernel
theorem dX12_listen_78 : decode cX12_listen 78 = .ok (.bipush 8, 2) := by decide +kernel
theorem dX12_listen_80 : decode cX12_listen 80 = .ok (.irem, 1) := by decide +kernel
theorem dX12_listen_81 : decode cX12_listen 81 = .ok (.istore 10, 2) := by decide +kernel
theorem dX12_listen_83 : decode cX12_listen 83 = .ok (.aload_n 0, 1) := by decide +kernel
theorem dX12_listen_84 : decode cX12_listen 84 = .ok (.getfield 52, 3) := by decide +kernel
theorem dX12_listen_87 : decode cX12_listen 87 = .ok (.bipush 64, 2) := by decide +kernel
theorem dX12_listen_89 : decode cX12_listen 89 = .ok (.iload_n 1, 1) := by decide +kernel
theorem dX12_listen_90 : decode cX12_listen 90 = .ok (.imul, 1) := by decide +kernel
theorem dX12_listen_91 : decode cX12_listen 91 = .ok (.iload 8, 2) := by decide +kernel
theorem dX12_listen_93 : decode cX12_listen 93 = .ok (.iadd, 1) := by decide +kernel
theorem dX12_listen_94 : decode cX12_listen 94 = .ok (.baload, 1) := by decide +kernel
theorem dX12_listen_95 : decode cX12_listen 95 = .ok (.ifCond .eq 24, 3) := by decide +kernel
theorem dX12_listen_98 : decode cX12_listen 98 = .ok (.aload_n 0, 1) := by decide +kernel
theorem dX12_listen_99 : decode cX12_listen 99 = .ok (.iload 9, 2) := by decide +kernel
theorem dX12_listen_101 : decode cX12_listen 101 = .ok (.iload 10, 2) := by decide +kernel
theorem dX12_listen_103 : decode cX12_listen 103 = .ok (.iload_n 1, 1) := by decide +kernel
theorem dX12_listen_104 : decode cX12_listen 104 = .ok (.invokevirtual 249, 3) := by decide +kernel
theorem dX12_listen_107 : decode cX12_listen 107 = .ok (.iload 5, 2) := by decide +kernel
theorem dX12_listen_109 : decode cX12_listen 109 = .ok (.invokestatic 260, 3) := by decide +kernel
theorem dX12_listen_112 : decode cX12_listen 112 = .ok (.ifCond .eq 7, 3) := by decide +kernel
theorem dX12_listen_115 : decode cX12_listen 115 = .ok (.iconst 1, 1) := by decide +kernel
theorem dX12_listen_116 : decode cX12_listen 116 = .ok (.goto 4, 3) := by decide +kernel
theorem dX12_listen_119 : decode cX12_listen 119 = .ok (.iconst 0, 1) := by decide +kernel
theorem dX12_listen_120 : decode cX12_listen 120 = .ok (.istore 11, 2) := by decide +kernel
theorem dX12_listen_122 : decode cX12_listen 122 = .ok (.lload 6, 2) := by decide +kernel
theorem dX12_listen_124 : decode cX12_listen 124 = .ok (.iload 11, 2) := by decide +kernel
theorem dX12_listen_126 : decode cX12_listen 126 = .ok (.ifCond .eq 33, 3) := by decide +kernel
theorem dX12_listen_129 : decode cX12_listen 129 = .ok (.aload_n 0, 1) := by decide +kernel
theorem dX12_listen_130 : decode cX12_listen 130 = .ok (.getfield 45, 3) := by decide +kernel
theorem dX12_listen_133 : decode cX12_listen 133 = .ok (.bipush 8, 2) := by decide +kernel
theorem dX12_listen_135 : decode cX12_listen 135 = .ok (.iload_n 1, 1) := by decide +kernel
theorem dX12_listen_136 : decode cX12_listen 136 = .ok (.imul, 1) := by decide +kernel
theorem dX12_listen_137 : decode cX12_listen 137 = .ok (.iload 9, 2) := by decide +kernel
theorem dX12_listen_139 : decode cX12_listen 139 = .ok (.iadd, 1) := by decide +kernel
theorem dX12_listen_140 : decode cX12_listen 140 = .ok (.laload, 1) := by decide +kernel
theorem dX12_listen_141 : decode cX12_listen 141 = .ok (.aload_n 0, 1) := by decide +kernel
theorem dX12_listen_142 : decode cX12_listen 142 = .ok (.getfield 49, 3) := by decide +kernel
theorem dX12_listen_145 : decode cX12_listen 145 = .ok (.bipush 8, 2) := by decide +kernel
theorem dX12_listen_147 : decode cX12_listen 147 = .ok (.iload_n 1, 1) := by decide +kernel
theorem dX12_listen_148 : decode cX12_listen 148 = .ok (.iconst 1, 1) := by decide +kernel
theorem dX12_listen_149 : decode cX12_listen 149 = .ok (.iadd, 1) := by decide +kernel
theorem dX12_listen_150 : decode cX12_listen 150 = .ok (.imul, 1) := by decide +kernel
theorem dX12_listen_151 : decode cX12_listen 151 = .ok (.iload 10, 2) := by decide +kernel
theorem dX12_listen_153 : decode cX12_listen 153 = .ok (.iadd, 1) := by decide +kernel
theorem dX12_listen_154 : decode cX12_listen 154 = .ok (.laload, 1) := by decide +kernel
theorem dX12_listen_155 : decode cX12_listen 155 = .ok (.lmul, 1) := by decide +kernel
theorem dX12_listen_156 : decode cX12_listen 156 = .ok (.goto 4, 3) := by decide +kernel
theorem dX12_listen_159 : decode cX12_listen 159 = .ok (.lconst 0, 1) := by decide +kernel
theorem dX12_listen_160 : decode cX12_listen 160 = .ok (.ladd, 1) := by decide +kernel
theorem dX12_listen_161 : decode cX12_listen 161 = .ok (.lstore 6, 2) := by decide +kernel
theorem dX12_listen_163 : decode cX12_listen 163 = .ok (.iinc 8 1, 3) := by decide +kernel
theorem dX12_listen_166 : decode cX12_listen 166 = .ok (.goto (-104), 3) := by decide +kernel
theorem dX12_listen_169 : decode cX12_listen 169 = .ok (.lload 6, 2) := by decide +kernel
theorem dX12_listen_171 : decode cX12_listen 171 = .ok (.aload_n 0, 1) := by decide +kernel
theorem dX12_listen_172 : decode cX12_listen 172 = .ok (.getfield 49, 3) := by decide +kernel
theorem dX12_listen_175 : decode cX12_listen 175 = .ok (.iconst 0, 1) := by decide +kernel
theorem dX12_listen_176 : decode cX12_listen 176 = .ok (.laload, 1) := by decide +kernel
theorem dX12_listen_177 : decode cX12_listen 177 = .ok (.lload 6, 2) := by decide +kernel
theorem dX12_listen_179 : decode cX12_listen 179 = .ok (.lsub, 1) := by decide +kernel
theorem dX12_listen_180 : decode cX12_listen 180 = .ok (.lcmp, 1) := by decide +kernel
theorem dX12_listen_181 : decode cX12_listen 181 = .ok (.ifCond .le 8, 3) := by decide +kernel
theorem dX12_listen_184 : decode cX12_listen 184 = .ok (.lload 6, 2) := by decide +kernel
theorem dX12_listen_186 : decode cX12_listen 186 = .ok (.goto 12, 3) := by decide +kernel
theorem dX12_listen_189 : decode cX12_listen 189 = .ok (.aload_n 0, 1) := by decide +kernel
theorem dX12_listen_190 : decode cX12_listen 190 = .ok (.getfield 49, 3) := by decide +kernel
theorem dX12_listen_193 : decode cX12_listen 193 = .ok (.iconst 0, 1) := by decide +kernel
theorem dX12_listen_194 : decode cX12_listen 194 = .ok (.laload, 1) := by decide +kernel
theorem dX12_listen_195 : decode cX12_listen 195 = .ok (.lload 6, 2) := by decide +kernel
theorem dX12_listen_197 : decode cX12_listen 197 = .ok (.lsub, 1) := by decide +kernel
theorem dX12_listen_198 : decode cX12_listen 198 = .ok (.lstore 8, 2) := by decide +kernel
theorem dX12_listen_200 : decode cX12_listen 200 = .ok (.lload 8, 2) := by decide +kernel
theorem dX12_listen_202 : decode cX12_listen 202 = .ok (.lload_n 3, 1) := by decide +kernel
theorem dX12_listen_203 : decode cX12_listen 203 = .ok (.lcmp, 1) := by decide +kernel
theorem dX12_listen_204 : decode cX12_listen 204 = .ok (.ifCond .gt 9, 3) := by decide +kernel
theorem dX12_listen_207 : decode cX12_listen 207 = .ok (.iload 5, 2) := by decide +kernel
theorem dX12_listen_209 : decode cX12_listen 209 = .ok (.istore_n 2, 1) := by decide +kernel
theorem dX12_listen_210 : decode cX12_listen 210 = .ok (.lload 8, 2) := by decide +kernel
theorem dX12_listen_212 : decode cX12_listen 212 = .ok (.lstore_n 3, 1) := by decide +kernel
theorem dX12_listen_213 : decode cX12_listen 213 = .ok (.iinc 5 (-1), 3) := by decide +kernel
theorem dX12_listen_216 : decode cX12_listen 216 = .ok (.goto (-176), 3) := by decide +kernel
theorem dX12_listen_219 : decode cX12_listen 219 = .ok (.iload_n 2, 1) := by decide +kernel
theorem dX12_listen_220 : decode cX12_listen 220 = .ok (.ireturn, 1) := by decide +kernel
theorem dX12_setFraction_0 : decode cX12_setFraction 0 = .ok (.lload_n 1, 1) := by decide +kernel
theorem dX12_setFraction_1 : decode cX12_setFraction 1 = .ok (.lstore 5, 2) := by decide +kernel
theorem dX12_setFraction_3 : decode cX12_setFraction 3 = .ok (.lload_n 3, 1) := by decide +kernel
theorem dX12_setFraction_4 : decode cX12_setFraction 4 = .ok (.lstore 7, 2) := by decide +kernel
theorem dX12_setFraction_6 : decode cX12_setFraction 6 = .ok (.lload 7, 2) := by decide +kernel
theorem dX12_setFraction_8 : decode cX12_setFraction 8 = .ok (.lconst 0, 1) := by decide +kernel
theorem dX12_setFraction_9 : decode cX12_setFraction 9 = .ok (.lcmp, 1) := by decide +kernel
theorem dX12_setFraction_10 : decode cX12_setFraction 10 = .ok (.ifCond .eq 21, 3) := by decide +kernel
theorem dX12_setFraction_13 : decode cX12_setFraction 13 = .ok (.lload 5, 2) := by decide +kernel
theorem dX12_setFraction_15 : decode cX12_setFraction 15 = .ok (.lload 7, 2) := by decide +kernel
theorem dX12_setFraction_17 : decode cX12_setFraction 17 = .ok (.lrem, 1) := by decide +kernel
theorem dX12_setFraction_18 : decode cX12_setFraction 18 = .ok (.lstore 9, 2) := by decide +kernel
theorem dX12_setFraction_20 : decode cX12_setFraction 20 = .ok (.lload 7, 2) := by decide +kernel
theorem dX12_setFraction_22 : decode cX12_setFraction 22 = .ok (.lstore 5, 2) := by decide +kernel
theorem dX12_setFraction_24 : decode cX12_setFraction 24 = .ok (.lload 9, 2) := by decide +kernel
theorem dX12_setFraction_26 : decode cX12_setFraction 26 = .ok (.lstore 7, 2) := by decide +kernel
theorem dX12_setFraction_28 : decode cX12_setFraction 28 = .ok (.goto (-22), 3) := by decide +kernel
theorem dX12_setFraction_31 : decode cX12_setFraction 31 = .ok (.aload_n 0, 1) := by decide +kernel
theorem dX12_setFraction_32 : decode cX12_setFraction 32 = .ok (.lload_n 1, 1) := by decide +kernel
theorem dX12_setFraction_33 : decode cX12_setFraction 33 = .ok (.lload 5, 2) := by decide +kernel
theorem dX12_setFraction_35 : decode cX12_setFraction 35 = .ok (.ldiv, 1) := by decide +kernel
theorem dX12_setFraction_36 : decode cX12_setFraction 36 = .ok (.putfield 263, 3) := by decide +kernel
theorem dX12_setFraction_39 : decode cX12_setFraction 39 = .ok (.aload_n 0, 1) := by decide +kernel
theorem dX12_setFraction_40 : decode cX12_setFraction 40 = .ok (.lload_n 3, 1) := by decide +kernel
theorem dX12_setFraction_41 : decode cX12_setFraction 41 = .ok (.lload 5, 2) := by decide +kernel
theorem dX12_setFraction_43 : decode cX12_setFraction 43 = .ok (.ldiv, 1) := by decide +kernel
theorem dX12_setFraction_44 : decode cX12_setFraction 44 = .ok (.putfield 13, 3) := by decide +kernel
theorem dX12_setFraction_47 : decode cX12_setFraction 47 = .ok (.return_, 1) := by decide +kernel
theorem dX12_clocks_0 : decode cX12_clocks 0 = .ok (.iload_n 1, 1) := by decide +kernel
theorem dX12_clocks_1 : decode cX12_clocks 1 = .ok (.invokestatic 89, 3) := by decide +kernel
theorem dX12_clocks_4 : decode cX12_clocks 4 = .ok (.ifCond .eq 27, 3) := by decide +kernel
theorem dX12_clocks_7 : decode cX12_clocks 7 = .ok (.iload_n 2, 1) := by decide +kernel
theorem dX12_clocks_8 : decode cX12_clocks 8 = .ok (.i2l, 1) := by decide +kernel
theorem dX12_clocks_9 : decode cX12_clocks 9 = .ok (.lconst 0, 1) := by decide +kernel
theorem dX12_clocks_10 : decode cX12_clocks 10 = .ok (.ldc2_w 266, 3) := by decide +kernel
theorem dX12_clocks_13 : decode cX12_clocks 13 = .ok (.invokestatic 75, 3) := by decide +kernel
theorem dX12_clocks_16 : decode cX12_clocks 16 = .ok (.ifCond .eq 15, 3) := by decide +kernel
theorem dX12_clocks_19 : decode cX12_clocks 19 = .ok (.iload_n 3, 1) := by decide +kernel
theorem dX12_clocks_20 : decode cX12_clocks 20 = .ok (.i2l, 1) := by decide +kernel
theorem dX12_clocks_21 : decode cX12_clocks 21 = .ok (.lconst 0, 1) := by decide +kernel
theorem dX12_clocks_22 : decode cX12_clocks 22 = .ok (.ldc2_w 102, 3) := by decide +kernel
theorem dX12_clocks_25 : decode cX12_clocks 25 = .ok (.invokestatic 75, 3) := by decide +kernel
theorem dX12_clocks_28 : decode cX12_clocks 28 = .ok (.ifCond .ne 8, 3) := by decide +kernel
theorem dX12_clocks_31 : decode cX12_clocks 31 = .ok (.aload_n 0, 1) := by decide +kernel
theorem dX12_clocks_32 : decode cX12_clocks 32 = .ok (.invokevirtual 95, 3) := by decide +kernel
theorem dX12_clocks_35 : decode cX12_clocks 35 = .ok (.ireturn, 1) := by decide +kernel
theorem dX12_clocks_36 : decode cX12_clocks 36 = .ok (.aload_n 0, 1) := by decide +kernel
theorem dX12_clocks_37 : decode cX12_clocks 37 = .ok (.getfield 7, 3) := by decide +kernel
theorem dX12_clocks_40 : decode cX12_clocks 40 = .ok (.iconst 1, 1) := by decide +kernel
theorem dX12_clocks_41 : decode cX12_clocks 41 = .ok (.iaload, 1) := by decide +kernel
theorem dX12_clocks_42 : decode cX12_clocks 42 = .ok (.aload_n 0, 1) := by decide +kernel
theorem dX12_clocks_43 : decode cX12_clocks 43 = .ok (.bipush 9, 2) := by decide +kernel
theorem dX12_clocks_45 : decode cX12_clocks 45 = .ok (.iload_n 1, 1) := by decide +kernel
theorem dX12_clocks_46 : decode cX12_clocks 46 = .ok (.aload_n 0, 1) := by decide +kernel
theorem dX12_clocks_47 : decode cX12_clocks 47 = .ok (.getfield 7, 3) := by decide +kernel
theorem dX12_clocks_50 : decode cX12_clocks 50 = .ok (.iconst 0, 1) := by decide +kernel
theorem dX12_clocks_51 : decode cX12_clocks 51 = .ok (.iaload, 1) := by decide +kernel
theorem dX12_clocks_52 : decode cX12_clocks 52 = .ok (.invokevirtual 211, 3) := by decide +kernel
theorem dX12_clocks_55 : decode cX12_clocks 55 = .ok (.ior, 1) := by decide +kernel
theorem dX12_clocks_56 : decode cX12_clocks 56 = .ok (.istore 4, 2) := by decide +kernel
theorem dX12_clocks_58 : decode cX12_clocks 58 = .ok (.lconst 0, 1) := by decide +kernel
theorem dX12_clocks_59 : decode cX12_clocks 59 = .ok (.lstore 5, 2) := by decide +kernel
theorem dX12_clocks_61 : decode cX12_clocks 61 = .ok (.lconst 1, 1) := by decide +kernel
theorem dX12_clocks_62 : decode cX12_clocks 62 = .ok (.lstore 7, 2) := by decide +kernel
theorem dX12_clocks_64 : decode cX12_clocks 64 = .ok (.iconst 0, 1) := by decide +kernel
theorem dX12_clocks_65 : decode cX12_clocks 65 = .ok (.istore 9, 2) := by decide +kernel
theorem dX12_clocks_67 : decode cX12_clocks 67 = .ok (.iload 9, 2) := by decide +kernel
theorem dX12_clocks_69 : decode cX12_clocks 69 = .ok (.aload_n 0, 1) := by decide +kernel
theorem dX12_clocks_70 : decode cX12_clocks 70 = .ok (.getfield 7, 3) := by decide +kernel
theorem dX12_clocks_73 : decode cX12_clocks 73 = .ok (.iconst 5, 1) := by decide +kernel
theorem dX12_clocks_74 : decode cX12_clocks 74 = .ok (.iaload, 1) := by decide +kernel
theorem dX12_clocks_75 : decode cX12_clocks 75 = .ok (.if_icmp .ge 17, 3) := by decide +kernel
theorem dX12_clocks_78 : decode cX12_clocks 78 = .ok (.lload 7, 2) := by decide +kernel
theorem dX12_clocks_80 : decode cX12_clocks 80 = .ok (.ldc2_w 266, 3) := by decide +kernel
theorem dX12_clocks_83 : decode cX12_clocks 83 = .ok (.lmul, 1) := by decide +kernel
theorem dX12_clocks_84 : decode cX12_clocks 84 = .ok (.lstore 7, 2) := by decide +kernel
theorem dX12_clocks_86 : decode cX12_clocks 86 = .ok (.iinc 9 1, 3) := by decide +kernel
theorem dX12_clocks_89 : decode cX12_clocks 89 = .ok (.goto (-22), 3) := by decide +kernel
theorem dX12_clocks_92 : decode cX12_clocks 92 = .ok (.iconst 0, 1) := by decide +kernel
theorem dX12_clocks_93 : decode cX12_clocks 93 = .ok (.istore 9, 2) := by decide +kernel
theorem dX12_clocks_95 : decode cX12_clocks 95 = .ok (.iload 9, 2) := by decide +kernel
theorem dX12_clocks_97 : decode cX12_clocks 97 = .ok (.iconst 1, 1) := by decide +kernel
theorem dX12_clocks_98 : decode cX12_clocks 98 = .ok (.aload_n 0, 1) := by decide +kernel
theorem dX12_clocks_99 : decode cX12_clocks 99 = .ok (.getfield 7, 3) := by decide +kernel
theorem dX12_clocks_102 : decode cX12_clocks 102 = .ok (.iconst 5, 1) := by decide +kernel
theorem dX12_clocks_103 : decode cX12_clocks 103 = .ok (.iaload, 1) := by decide +kernel
theorem dX12_clocks_104 : decode cX12_clocks 104 = .ok (.ishl, 1) := by decide +kernel
theorem dX12_clocks_105 : decode cX12_clocks 105 = .ok (.if_icmp .ge 80, 3) := by decide +kernel
theorem dX12_clocks_108 : decode cX12_clocks 108 = .ok (.lconst 1, 1) := by decide +kernel
theorem dX12_clocks_109 : decode cX12_clocks 109 = .ok (.lstore 10, 2) := by decide +kernel
theorem dX12_clocks_111 : decode cX12_clocks 111 = .ok (.iconst 0, 1) := by decide +kernel
theorem dX12_clocks_112 : decode cX12_clocks 112 = .ok (.istore 12, 2) := by decide +kernel
theorem dX12_clocks_114 : decode cX12_clocks 114 = .ok (.iload 12, 2) := by decide +kernel
theorem dX12_clocks_116 : decode cX12_clocks 116 = .ok (.aload_n 0, 1) := by decide +kernel
theorem dX12_clocks_117 : decode cX12_clocks 117 = .ok (.getfield 7, 3) := by decide +kernel
theorem dX12_clocks_120 : decode cX12_clocks 120 = .ok (.iconst 5, 1) := by decide +kernel
theorem dX12_clocks_121 : decode cX12_clocks 121 = .ok (.iaload, 1) := by decide +kernel
theorem dX12_clocks_122 : decode cX12_clocks 122 = .ok (.if_icmp .ge 34, 3) := by decide +kernel
theorem dX12_clocks_125 : decode cX12_clocks 125 = .ok (.lload 10, 2) := by decide +kernel
theorem dX12_clocks_127 : decode cX12_clocks 127 = .ok (.iload 9, 2) := by decide +kernel
theorem dX12_clocks_129 : decode cX12_clocks 129 = .ok (.iload 12, 2) := by decide +kernel
theorem dX12_clocks_131 : decode cX12_clocks 131 = .ok (.invokestatic 260, 3) := by decide +kernel
theorem dX12_clocks_134 : decode cX12_clocks 134 = .ok (.ifCond .eq 8, 3) := by decide +kernel
theorem dX12_clocks_137 : decode cX12_clocks 137 = .ok (.iload_n 2, 1) := by decide +kernel
theorem dX12_clocks_138 : decode cX12_clocks 138 = .ok (.i2l, 1) := by decide +kernel
theorem dX12_clocks_139 : decode cX12_clocks 139 = .ok (.goto 8, 3) := by decide +kernel
theorem dX12_clocks_142 : decode cX12_clocks 142 = .ok (.bipush 10, 2) := by decide +kernel
theorem dX12_clocks_144 : decode cX12_clocks 144 = .ok (.iload_n 2, 1) := by decide +kernel
theorem dX12_clocks_145 : decode cX12_clocks 145 = .ok (.isub, 1) := by decide +kernel
theorem dX12_clocks_146 : decode cX12_clocks 146 = .ok (.i2l, 1) := by decide +kernel
theorem dX12_clocks_147 : decode cX12_clocks 147 = .ok (.lmul, 1) := by decide +kernel
theorem dX12_clocks_148 : decode cX12_clocks 148 = .ok (.lstore 10, 2) := by decide +kernel
theorem dX12_clocks_150 : decode cX12_clocks 150 = .ok (.iinc 12 1, 3) := by decide +kernel
theorem dX12_clocks_153 : decode cX12_clocks 153 = .ok (.goto (-39), 3) := by decide +kernel
theorem dX12_clocks_156 : decode cX12_clocks 156 = .ok (.lload 5, 2) := by decide +kernel
theorem dX12_clocks_158 : decode cX12_clocks 158 = .ok (.iload 9, 2) := by decide +kernel
theorem dX12_clocks_160 : decode cX12_clocks 160 = .ok (.iload 4, 2) := by decide +kernel
theorem dX12_clocks_162 : decode cX12_clocks 162 = .ok (.ior, 1) := by decide +kernel
theorem dX12_clocks_163 : decode cX12_clocks 163 = .ok (.invokestatic 268, 3) := by decide +kernel
theorem dX12_clocks_166 : decode cX12_clocks 166 = .ok (.iload_n 3, 1) := by decide +kernel
theorem dX12_clocks_167 : decode cX12_clocks 167 = .ok (.if_icmp .gt 8, 3) := by decide +kernel
theorem dX12_clocks_170 : decode cX12_clocks 170 = .ok (.lload 10, 2) := by decide +kernel
theorem dX12_clocks_172 : decode cX12_clocks 172 = .ok (.goto 4, 3) := by decide +kernel
theorem dX12_clocks_175 : decode cX12_clocks 175 = .ok (.lconst 0, 1) := by decide +kernel
theorem dX12_clocks_176 : decode cX12_clocks 176 = .ok (.ladd, 1) := by decide +kernel
theorem dX12_clocks_177 : decode cX12_clocks 177 = .ok (.lstore 5, 2) := by decide +kernel
theorem dX12_clocks_179 : decode cX12_clocks 179 = .ok (.iinc 9 1, 3) := by decide +kernel
theorem dX12_clocks_182 : decode cX12_clocks 182 = .ok (.goto (-87), 3) := by decide +kernel
theorem dX12_clocks_185 : decode cX12_clocks 185 = .ok (.aload_n 0, 1) := by decide +kernel
theorem dX12_clocks_186 : decode cX12_clocks 186 = .ok (.lload 5, 2) := by decide +kernel
theorem dX12_clocks_188 : decode cX12_clocks 188 = .ok (.lload 7, 2) := by decide +kernel
theorem dX12_clocks_190 : decode cX12_clocks 190 = .ok (.invokevirtual 271, 3) := by decide +kernel
theorem dX12_clocks_193 : decode cX12_clocks 193 = .ok (.iconst 1, 1) := by decide +kernel
theorem dX12_clocks_194 : decode cX12_clocks 194 = .ok (.ireturn, 1) := by decide +kernel
theorem dX12_nights_0 : decode cX12_nights 0 = .ok (.iload_n 1, 1) := by decide +kernel
theorem dX12_nights_1 : decode cX12_nights 1 = .ok (.i2l, 1) := by decide +kernel
theorem dX12_nights_2 : decode cX12_nights 2 = .ok (.lconst 0, 1) := by decide +kernel
theorem dX12_nights_3 : decode cX12_nights 3 = .ok (.ldc2_w 275, 3) := by decide +kernel
theorem dX12_nights_6 : decode cX12_nights 6 = .ok (.invokestatic 75, 3) := by decide +kernel
theorem dX12_nights_9 : decode cX12_nights 9 = .ok (.ifCond .eq 10, 3) := by decide +kernel
theorem dX12_nights_12 : decode cX12_nights 12 = .ok (.iload_n 2, 1) := by decide +kernel
theorem dX12_nights_13 : decode cX12_nights 13 = .ok (.invokestatic 208, 3) := by decide +kernel
theorem dX12_nights_16 : decode cX12_nights 16 = .ok (.ifCond .ne 8, 3) := by decide +kernel
theorem dX12_nights_19 : decode cX12_nights 19 = .ok (.aload_n 0, 1) := by decide +kernel
theorem dX12_nights_20 : decode cX12_nights 20 = .ok (.invokevirtual 95, 3) := by decide +kernel
theorem dX12_nights_23 : decode cX12_nights 23 = .ok (.ireturn, 1) := by decide +kernel
theorem dX12_nights_24 : decode cX12_nights 24 = .ok (.iconst 0, 1) := by decide +kernel
theorem dX12_nights_25 : decode cX12_nights 25 = .ok (.istore_n 3, 1) := by decide +kernel
theorem dX12_nights_26 : decode cX12_nights 26 = .ok (.iload_n 3, 1) := by decide +kernel
theorem dX12_nights_27 : decode cX12_nights 27 = .ok (.iconst 5, 1) := by decide +kernel
theorem dX12_nights_28 : decode cX12_nights 28 = .ok (.if_icmp .ge 21, 3) := by decide +kernel
theorem dX12_nights_31 : decode cX12_nights 31 = .ok (.aload_n 0, 1) := by decide +kernel
theorem dX12_nights_32 : decode cX12_nights 32 = .ok (.getfield 55, 3) := by decide +kernel
theorem dX12_nights_35 : decode cX12_nights 35 = .ok (.iload_n 3, 1) := by decide +kernel
theorem dX12_nights_36 : decode cX12_nights 36 = .ok (.aload_n 0, 1) := by decide +kernel
theorem dX12_nights_37 : decode cX12_nights 37 = .ok (.getfield 7, 3) := by decide +kernel
theorem dX12_nights_40 : decode cX12_nights 40 = .ok (.iload_n 3, 1) := by decide +kernel
theorem dX12_nights_41 : decode cX12_nights 41 = .ok (.iaload, 1) := by decide +kernel
theorem dX12_nights_42 : decode cX12_nights 42 = .ok (.iastore, 1) := by decide +kernel
theorem dX12_nights_43 : decode cX12_nights 43 = .ok (.iinc 3 1, 3) := by decide +kernel
theorem dX12_nights_46 : decode cX12_nights 46 = .ok (.goto (-20), 3) := by decide +kernel
theorem dX12_nights_49 : decode cX12_nights 49 = .ok (.iload_n 1, 1) := by decide +kernel
theorem dX12_nights_50 : decode cX12_nights 50 = .ok (.i2l, 1) := by decide +kernel
theorem dX12_nights_51 : decode cX12_nights 51 = .ok (.lstore_n 3, 1) := by decide +kernel
theorem dX12_nights_52 : decode cX12_nights 52 = .ok (.iconst 0, 1) := by decide +kernel
theorem dX12_nights_53 : decode cX12_nights 53 = .ok (.istore 5, 2) := by decide +kernel
theorem dX12_nights_55 : decode cX12_nights 55 = .ok (.iload 5, 2) := by decide +kernel
theorem dX12_nights_57 : decode cX12_nights 57 = .ok (.iload_n 2, 1) := by decide +kernel
theorem dX12_nights_58 : decode cX12_nights 58 = .ok (.if_icmp .ge 82, 3) := by decide +kernel
theorem dX12_nights_61 : decode cX12_nights 61 = .ok (.iconst 0, 1) := by decide +kernel
theorem dX12_nights_62 : decode cX12_nights 62 = .ok (.istore 6, 2) := by decide +kernel
theorem dX12_nights_64 : decode cX12_nights 64 = .ok (.iload 6, 2) := by decide +kernel
theorem dX12_nights_66 : decode cX12_nights 66 = .ok (.iconst 3, 1) := by decide +kernel
theorem dX12_nights_67 : decode cX12_nights 67 = .ok (.if_icmp .ge 62, 3) := by decide +kernel
theorem dX12_nights_70 : decode cX12_nights 70 = .ok (.lload_n 3, 1) := by decide +kernel
theorem dX12_nights_71 : decode cX12_nights 71 = .ok (.ldc2_w 277, 3) := by decide +kernel
theorem dX12_nights_74 : decode cX12_nights 74 = .ok (.lmul, 1) := by decide +kernel
theorem dX12_nights_75 : decode cX12_nights 75 = .ok (.ldc2_w 279, 3) := by decide +kernel
theorem dX12_nights_78 : decode cX12_nights 78 = .ok (.ladd, 1) := by decide +kernel
theorem dX12_nights_79 : decode cX12_nights 79 = .ok (.ldc2_w 281, 3) := by decide +kernel
theorem dX12_nights_82 : decode cX12_nights 82 = .ok (.lrem, 1) := by decide +kernel
theorem dX12_nights_83 : decode cX12_nights 83 = .ok (.lstore_n 3, 1) := by decide +kernel
theorem dX12_nights_84 : decode cX12_nights 84 = .ok (.lload_n 3, 1) := by decide +kernel
theorem dX12_nights_85 : decode cX12_nights 85 = .ok (.ldc2_w 283, 3) := by decide +kernel
theorem dX12_nights_88 : decode cX12_nights 88 = .ok (.ldiv, 1) := by decide +kernel
theorem dX12_nights_89 : decode cX12_nights 89 = .ok (.ldc2_w 285, 3) := by decide +kernel
theorem dX12_nights_92 : decode cX12_nights 92 = .ok (.lrem, 1) := by decide +kernel
theorem dX12_nights_93 : decode cX12_nights 93 = .ok (.l2i, 1) := by decide +kernel
theorem dX12_nights_94 : decode cX12_nights 94 = .ok (.istore 7, 2) := by decide +kernel
theorem dX12_nights_96 : decode cX12_nights 96 = .ok (.aload_n 0, 1) := by decide +kernel
theorem dX12_nights_97 : decode cX12_nights 97 = .ok (.aload_n 0, 1) := by decide +kernel
theorem dX12_nights_98 : decode cX12_nights 98 = .ok (.getfield 7, 3) := by decide +kernel
theorem dX12_nights_101 : decode cX12_nights 101 = .ok (.iconst 2, 1) := by decide +kernel
theorem dX12_nights_102 : decode cX12_nights 102 = .ok (.iload 6, 2) := by decide +kernel
theorem dX12_nights_104 : decode cX12_nights 104 = .ok (.iadd, 1) := by decide +kernel
theorem dX12_nights_105 : decode cX12_nights 105 = .ok (.iaload, 1) := by decide +kernel
theorem dX12_nights_106 : decode cX12_nights 106 = .ok (.iload 7, 2) := by decide +kernel
theorem dX12_nights_108 : decode cX12_nights 108 = .ok (.invokevirtual 99, 3) := by decide +kernel
theorem dX12_nights_111 : decode cX12_nights 111 = .ok (.ifCond .lt 12, 3) := by decide +kernel
theorem dX12_nights_114 : decode cX12_nights 114 = .ok (.aload_n 0, 1) := by decide +kernel
theorem dX12_nights_115 : decode cX12_nights 115 = .ok (.iload 6, 2) := by decide +kernel
theorem dX12_nights_117 : decode cX12_nights 117 = .ok (.iload 7, 2) := by decide +kernel
theorem dX12_nights_119 : decode cX12_nights 119 = .ok (.invokevirtual 220, 3) := by decide +kernel
theorem dX12_nights_122 : decode cX12_nights 122 = .ok (.pop, 1) := by decide +kernel
theorem dX12_nights_123 : decode cX12_nights 123 = .ok (.iinc 6 1, 3) := by decide +kernel
theorem dX12_nights_126 : decode cX12_nights 126 = .ok (.goto (-62), 3) := by decide +kernel
theorem dX12_nights_129 : decode cX12_nights 129 = .ok (.aload_n 0, 1) := by decide +kernel
theorem dX12_nights_130 : decode cX12_nights 130 = .ok (.iconst 1, 1) := by decide +kernel
theorem dX12_nights_131 : decode cX12_nights 131 = .ok (.invokevirtual 223, 3) := by decide +kernel
theorem dX12_nights_134 : decode cX12_nights 134 = .ok (.iinc 5 1, 3) := by decide +kernel
theorem dX12_nights_137 : decode cX12_nights 137 = .ok (.goto (-82), 3) := by decide +kernel
theorem dX12_nights_140 : decode cX12_nights 140 = .ok (.aload_n 0, 1) := by decide +kernel
theorem dX12_nights_141 : decode cX12_nights 141 = .ok (.getfield 7, 3) := by decide +kernel
theorem dX12_nights_144 : decode cX12_nights 144 = .ok (.iconst 1, 1) := by decide +kernel
theorem dX12_nights_145 : decode cX12_nights 145 = .ok (.iaload, 1) := by decide +kernel
theorem dX12_nights_146 : decode cX12_nights 146 = .ok (.invokestatic 268, 3) := by decide +kernel
theorem dX12_nights_149 : decode cX12_nights 149 = .ok (.istore 5, 2) := by decide +kernel
theorem dX12_nights_151 : decode cX12_nights 151 = .ok (.iconst 0, 1) := by decide +kernel
theorem dX12_nights_152 : decode cX12_nights 152 = .ok (.istore 6, 2) := by decide +kernel
theorem dX12_nights_154 : decode cX12_nights 154 = .ok (.iload 6, 2) := by decide +kernel
theorem dX12_nights_156 : decode cX12_nights 156 = .ok (.iconst 5, 1) := by decide +kernel
theorem dX12_nights_157 : decode cX12_nights 157 = .ok (.if_icmp .ge 23, 3) := by decide +kernel
theorem dX12_nights_160 : decode cX12_nights 160 = .ok (.aload_n 0, 1) := by decide +kernel
theorem dX12_nights_161 : decode cX12_nights 161 = .ok (.getfield 7, 3) := by decide +kernel
theorem dX12_nights_164 : decode cX12_nights 164 = .ok (.iload 6, 2) := by decide +kernel
theorem dX12_nights_166 : decode cX12_nights 166 = .ok (.aload_n 0, 1) := by decide +kernel
theorem dX12_nights_167 : decode cX12_nights 167 = .ok (.getfield 55, 3) := by decide +kernel
theorem dX12_nights_170 : decode cX12_nights 170 = .ok (.iload 6, 2) := by decide +kernel
theorem dX12_nights_172 : decode cX12_nights 172 = .ok (.iaload, 1) := by decide +kernel
theorem dX12_nights_173 : decode cX12_nights 173 = .ok (.iastore, 1) := by decide +kernel
theorem dX12_nights_174 : decode cX12_nights 174 = .ok (.iinc 6 1, 3) := by decide +kernel
theorem dX12_nights_177 : decode cX12_nights 177 = .ok (.goto (-23), 3) := by decide +kernel
theorem dX12_nights_180 : decode cX12_nights 180 = .ok (.iload 5, 2) := by decide +kernel
theorem dX12_nights_182 : decode cX12_nights 182 = .ok (.ireturn, 1) := by decide +kernel
theorem dX12_part_0 : decode cX12_part 0 = .ok (.iload_n 1, 1) := by decide +kernel
theorem dX12_part_1 : decode cX12_part 1 = .ok (.ifCond .ne 10, 3) := by decide +kernel
theorem dX12_part_4 : decode cX12_part 4 = .ok (.aload_n 0, 1) := by decide +kernel
theorem dX12_part_5 : decode cX12_part 5 = .ok (.getfield 263, 3) := by decide +kernel
theorem dX12_part_8 : decode cX12_part 8 = .ok (.goto 20, 3) := by decide +kernel
theorem dX12_part_11 : decode cX12_part 11 = .ok (.iload_n 1, 1) := by decide +kernel
theorem dX12_part_12 : decode cX12_part 12 = .ok (.iconst 1, 1) := by decide +kernel
theorem dX12_part_13 : decode cX12_part 13 = .ok (.if_icmp .ne 10, 3) := by decide +kernel
theorem dX12_part_16 : decode cX12_part 16 = .ok (.aload_n 0, 1) := by decide +kernel
theorem dX12_part_17 : decode cX12_part 17 = .ok (.getfield 13, 3) := by decide +kernel
theorem dX12_part_20 : decode cX12_part 20 = .ok (.goto 8, 3) := by decide +kernel
theorem dX12_part_23 : decode cX12_part 23 = .ok (.aload_n 0, 1) := by decide +kernel
theorem dX12_part_24 : decode cX12_part 24 = .ok (.invokevirtual 95, 3) := by decide +kernel
theorem dX12_part_27 : decode cX12_part 27 = .ok (.i2l, 1) := by decide +kernel
theorem dX12_part_28 : decode cX12_part 28 = .ok (.lreturn, 1) := by decide +kernel
theorem dX12_image_0 : decode cX12_image 0 = .ok (.iload_n 1, 1) := by decide +kernel
theorem dX12_image_1 : decode cX12_image 1 = .ok (.invokestatic 238, 3) := by decide +kernel
theorem dX12_image_4 : decode cX12_image 4 = .ok (.ifCond .ne 8, 3) := by decide +kernel
theorem dX12_image_7 : decode cX12_image 7 = .ok (.aload_n 0, 1) := by decide +kernel
theorem dX12_image_8 : decode cX12_image 8 = .ok (.invokevirtual 95, 3) := by decide +kernel
theorem dX12_image_11 : decode cX12_image 11 = .ok (.ireturn, 1) := by decide +kernel
theorem dX12_image_12 : decode cX12_image 12 = .ok (.iconst 0, 1) := by decide +kernel
theorem dX12_image_13 : decode cX12_image 13 = .ok (.istore_n 2, 1) := by decide +kernel
theorem dX12_image_14 : decode cX12_image 14 = .ok (.iload_n 2, 1) := by decide +kernel
theorem dX12_image_15 : decode cX12_image 15 = .ok (.bipush 99, 2) := by decide +kernel
theorem dX12_image_17 : decode cX12_image 17 = .ok (.if_icmp .ge 26, 3) := by decide +kernel
theorem dX12_image_20 : decode cX12_image 20 = .ok (.aload_n 0, 1) := by decide +kernel
theorem dX12_image_21 : decode cX12_image 21 = .ok (.getfield 61, 3) := by decide +kernel
theorem dX12_image_24 : decode cX12_image 24 = .ok (.bipush 99, 2) := by decide +kernel
theorem dX12_image_26 : decode cX12_image 26 = .ok (.iload_n 1, 1) := by decide +kernel
theorem dX12_image_27 : decode cX12_image 27 = .ok (.imul, 1) := by decide +kernel
theorem dX12_image_28 : decode cX12_image 28 = .ok (.iload_n 2, 1) := by decide +kernel
theorem dX12_image_29 : decode cX12_image 29 = .ok (.iadd, 1) := by decide +kernel
theorem dX12_image_30 : decode cX12_image 30 = .ok (.aload_n 0, 1) := by decide +kernel
theorem dX12_image_31 : decode cX12_image 31 = .ok (.getfield 7, 3) := by decide +kernel
theorem dX12_image_34 : decode cX12_image 34 = .ok (.iload_n 2, 1) := by decide +kernel
theorem dX12_image_35 : decode cX12_image 35 = .ok (.iaload, 1) := by decide +kernel
theorem dX12_image_36 : decode cX12_image 36 = .ok (.iastore, 1) := by decide +kernel
theorem dX12_image_37 : decode cX12_image 37 = .ok (.iinc 2 1, 3) := by decide +kernel
theorem dX12_image_40 : decode cX12_image 40 = .ok (.goto (-26), 3) := by decide +kernel
theorem dX12_image_43 : decode cX12_image 43 = .ok (.iconst 0, 1) := by decide +kernel
theorem dX12_image_44 : decode cX12_image 44 = .ok (.istore_n 2, 1) := by decide +kernel
theorem dX12_image_45 : decode cX12_image 45 = .ok (.iload_n 2, 1) := by decide +kernel
theorem dX12_image_46 : decode cX12_image 46 = .ok (.bipush 40, 2) := by decide +kernel
theorem dX12_image_48 : decode cX12_image 48 = .ok (.if_icmp .ge 26, 3) := by decide +kernel
theorem dX12_image_51 : decode cX12_image 51 = .ok (.aload_n 0, 1) := by decide +kernel
theorem dX12_image_52 : decode cX12_image 52 = .ok (.getfield 64, 3) := by decide +kernel
theorem dX12_image_55 : decode cX12_image 55 = .ok (.bipush 40, 2) := by decide +kernel
theorem dX12_image_57 : decode cX12_image 57 = .ok (.iload_n 1, 1) := by decide +kernel
theorem dX12_image_58 : decode cX12_image 58 = .ok (.imul, 1) := by decide +kernel
theorem dX12_image_59 : decode cX12_image 59 = .ok (.iload_n 2, 1) := by decide +kernel
theorem dX12_image_60 : decode cX12_image 60 = .ok (.iadd, 1) := by decide +kernel
theorem dX12_image_61 : decode cX12_image 61 = .ok (.aload_n 0, 1) := by decide +kernel
theorem dX12_image_62 : decode cX12_image 62 = .ok (.getfield 29, 3) := by decide +kernel
theorem dX12_image_65 : decode cX12_image 65 = .ok (.iload_n 2, 1) := by decide +kernel
theorem dX12_image_66 : decode cX12_image 66 = .ok (.iaload, 1) := by decide +kernel
theorem dX12_image_67 : decode cX12_image 67 = .ok (.iastore, 1) := by decide +kernel
theorem dX12_image_68 : decode cX12_image 68 = .ok (.iinc 2 1, 3) := by decide +kernel
theorem dX12_image_71 : decode cX12_image 71 = .ok (.goto (-26), 3) := by decide +kernel
theorem dX12_image_74 : decode cX12_image 74 = .ok (.aload_n 0, 1) := by decide +kernel
theorem dX12_image_75 : decode cX12_image 75 = .ok (.getfield 67, 3) := by decide +kernel
theorem dX12_image_78 : decode cX12_image 78 = .ok (.iload_n 1, 1) := by decide +kernel
theorem dX12_image_79 : decode cX12_image 79 = .ok (.aload_n 0, 1) := by decide +kernel
theorem dX12_image_80 : decode cX12_image 80 = .ok (.getfield 81, 3) := by decide +kernel
theorem dX12_image_83 : decode cX12_image 83 = .ok (.iastore, 1) := by decide +kernel
theorem dX12_image_84 : decode cX12_image 84 = .ok (.aload_n 0, 1) := by decide +kernel
theorem dX12_image_85 : decode cX12_image 85 = .ok (.getfield 58, 3) := by decide +kernel
theorem dX12_image_88 : decode cX12_image 88 = .ok (.iload_n 1, 1) := by decide +kernel
theorem dX12_image_89 : decode cX12_image 89 = .ok (.iconst 1, 1) := by decide +kernel
theorem dX12_image_90 : decode cX12_image 90 = .ok (.bastore, 1) := by decide +kernel
theorem dX12_image_91 : decode cX12_image 91 = .ok (.iconst 1, 1) := by decide +kernel
theorem dX12_image_92 : decode cX12_image 92 = .ok (.ireturn, 1) := by decide +kernel
theorem dX12_from_0 : decode cX12_from 0 = .ok (.iload_n 1, 1) := by decide +kernel
theorem dX12_from_1 : decode cX12_from 1 = .ok (.invokestatic 238, 3) := by decide +kernel
theorem dX12_from_4 : decode cX12_from 4 = .ok (.ifCond .ne 8, 3) := by decide +kernel
theorem dX12_from_7 : decode cX12_from 7 = .ok (.aload_n 0, 1) := by decide +kernel
theorem dX12_from_8 : decode cX12_from 8 = .ok (.invokevirtual 95, 3) := by decide +kernel
theorem dX12_from_11 : decode cX12_from 11 = .ok (.ireturn, 1) := by decide +kernel
theorem dX12_from_12 : decode cX12_from 12 = .ok (.aload_n 0, 1) := by decide +kernel
theorem dX12_from_13 : decode cX12_from 13 = .ok (.getfield 58, 3) := by decide +kernel
theorem dX12_from_16 : decode cX12_from 16 = .ok (.iload_n 1, 1) := by decide +kernel
theorem dX12_from_17 : decode cX12_from 17 = .ok (.baload, 1) := by decide +kernel
theorem dX12_from_18 : decode cX12_from 18 = .ok (.ifCond .ne 8, 3) := by decide +kernel
theorem dX12_from_21 : decode cX12_from 21 = .ok (.aload_n 0, 1) := by decide +kernel
theorem dX12_from_22 : decode cX12_from 22 = .ok (.invokevirtual 214, 3) := by decide +kernel
theorem dX12_from_25 : decode cX12_from 25 = .ok (.ireturn, 1) := by decide +kernel
theorem dX12_from_26 : decode cX12_from 26 = .ok (.iconst 0, 1) := by decide +kernel
theorem dX12_from_27 : decode cX12_from 27 = .ok (.istore_n 2, 1) := by decide +kernel
theorem dX12_from_28 : decode cX12_from 28 = .ok (.iload_n 2, 1) := by decide +kernel
theorem dX12_from_29 : decode cX12_from 29 = .ok (.bipush 99, 2) := by decide +kernel
theorem dX12_from_31 : decode cX12_from 31 = .ok (.if_icmp .ge 26, 3) := by decide +kernel
theorem dX12_from_34 : decode cX12_from 34 = .ok (.aload_n 0, 1) := by decide +kernel
theorem dX12_from_35 : decode cX12_from 35 = .ok (.getfield 7, 3) := by decide +kernel
theorem dX12_from_38 : decode cX12_from 38 = .ok (.iload_n 2, 1) := by decide +kernel
theorem dX12_from_39 : decode cX12_from 39 = .ok (.aload_n 0, 1) := by decide +kernel
theorem dX12_from_40 : decode cX12_from 40 = .ok (.getfield 61, 3) := by decide +kernel
theorem dX12_from_43 : decode cX12_from 43 = .ok (.bipush 99, 2) := by decide +kernel
theorem dX12_from_45 : decode cX12_from 45 = .ok (.iload_n 1, 1) := by decide +kernel
theorem dX12_from_46 : decode cX12_from 46 = .ok (.imul, 1) := by decide +kernel
theorem dX12_from_47 : decode cX12_from 47 = .ok (.iload_n 2, 1) := by decide +kernel
theorem dX12_from_48 : decode cX12_from 48 = .ok (.iadd, 1) := by decide +kernel
theorem dX12_from_49 : decode cX12_from 49 = .ok (.iaload, 1) := by decide +kernel
theorem dX12_from_50 : decode cX12_from 50 = .ok (.iastore, 1) := by decide +kernel
theorem dX12_from_51 : decode cX12_from 51 = .ok (.iinc 2 1, 3) := by decide +kernel
theorem dX12_from_54 : decode cX12_from 54 = .ok (.goto (-26), 3) := by decide +kernel
theorem dX12_from_57 : decode cX12_from 57 = .ok (.iconst 0, 1) := by decide +kernel
theorem dX12_from_58 : decode cX12_from 58 = .ok (.istore_n 2, 1) := by decide +kernel
theorem dX12_from_59 : decode cX12_from 59 = .ok (.iload_n 2, 1) := by decide +kernel
theorem dX12_from_60 : decode cX12_from 60 = .ok (.bipush 40, 2) := by decide +kernel
theorem dX12_from_62 : decode cX12_from 62 = .ok (.if_icmp .ge 26, 3) := by decide +kernel
theorem dX12_from_65 : decode cX12_from 65 = .ok (.aload_n 0, 1) := by decide +kernel
theorem dX12_from_66 : decode cX12_from 66 = .ok (.getfield 29, 3) := by decide +kernel
theorem dX12_from_69 : decode cX12_from 69 = .ok (.iload_n 2, 1) := by decide +kernel
theorem dX12_from_70 : decode cX12_from 70 = .ok (.aload_n 0, 1) := by decide +kernel
theorem dX12_from_71 : decode cX12_from 71 = .ok (.getfield 64, 3) := by decide +kernel
theorem dX12_from_74 : decode cX12_from 74 = .ok (.bipush 40, 2) := by decide +kernel
theorem dX12_from_76 : decode cX12_from 76 = .ok (.iload_n 1, 1) := by decide +kernel
theorem dX12_from_77 : decode cX12_from 77 = .ok (.imul, 1) := by decide +kernel
theorem dX12_from_78 : decode cX12_from 78 = .ok (.iload_n 2, 1) := by decide +kernel
theorem dX12_from_79 : decode cX12_from 79 = .ok (.iadd, 1) := by decide +kernel
theorem dX12_from_80 : decode cX12_from 80 = .ok (.iaload, 1) := by decide +kernel
theorem dX12_from_81 : decode cX12_from 81 = .ok (.iastore, 1) := by decide +kernel
theorem dX12_from_82 : decode cX12_from 82 = .ok (.iinc 2 1, 3) := by decide +kernel
theorem dX12_from_85 : decode cX12_from 85 = .ok (.goto (-26), 3) := by decide +kernel
theorem dX12_from_88 : decode cX12_from 88 = .ok (.aload_n 0, 1) := by decide +kernel
theorem dX12_from_89 : decode cX12_from 89 = .ok (.aload_n 0, 1) := by decide +kernel
theorem dX12_from_90 : decode cX12_from 90 = .ok (.getfield 67, 3) := by decide +kernel
theorem dX12_from_93 : decode cX12_from 93 = .ok (.iload_n 1, 1) := by decide +kernel
theorem dX12_from_94 : decode cX12_from 94 = .ok (.iaload, 1) := by decide +kernel
theorem dX12_from_95 : decode cX12_from 95 = .ok (.putfield 81, 3) := by decide +kernel
theorem dX12_from_98 : decode cX12_from 98 = .ok (.iconst 1, 1) := by decide +kernel
theorem dX12_from_99 : decode cX12_from 99 = .ok (.ireturn, 1) := by decide +kernel
theorem dX12_status_0 : decode cX12_status 0 = .ok (.iload_n 1, 1) := by decide +kernel
theorem dX12_status_1 : decode cX12_status 1 = .ok (.i2l, 1) := by decide +kernel
theorem dX12_status_2 : decode cX12_status 2 = .ok (.lconst 0, 1) := by decide +kernel
theorem dX12_status_3 : decode cX12_status 3 = .ok (.ldc2_w 118, 3) := by decide +kernel
theorem dX12_status_6 : decode cX12_status 6 = .ok (.invokestatic 75, 3) := by decide +kernel
theorem dX12_status_9 : decode cX12_status 9 = .ok (.ifCond .ne 10, 3) := by decide +kernel
theorem dX12_status_12 : decode cX12_status 12 = .ok (.aload_n 0, 1) := by decide +kernel
theorem dX12_status_13 : decode cX12_status 13 = .ok (.invokevirtual 95, 3) := by decide +kernel
theorem dX12_status_16 : decode cX12_status 16 = .ok (.pop, 1) := by decide +kernel
theorem dX12_status_17 : decode cX12_status 17 = .ok (.iconst (-1), 1) := by decide +kernel
theorem dX12_status_18 : decode cX12_status 18 = .ok (.ireturn, 1) := by decide +kernel
theorem dX12_status_19 : decode cX12_status 19 = .ok (.aload_n 0, 1) := by decide +kernel
theorem dX12_status_20 : decode cX12_status 20 = .ok (.getfield 17, 3) := by decide +kernel
theorem dX12_status_23 : decode cX12_status 23 = .ok (.iload_n 1, 1) := by decide +kernel
theorem dX12_status_24 : decode cX12_status 24 = .ok (.iaload, 1) := by decide +kernel
theorem dX12_status_25 : decode cX12_status 25 = .ok (.ireturn, 1) := by decide +kernel
theorem dX12_countOf_0 : decode cX12_countOf 0 = .ok (.iload_n 1, 1) := by decide +kernel
theorem dX12_countOf_1 : decode cX12_countOf 1 = .ok (.tableswitch 84 0 5 #[39, 46, 54, 61, 71, 79], 39) := by decide +kernel
theorem dX12_countOf_40 : decode cX12_countOf 40 = .ok (.aload_n 0, 1) := by decide +kernel
theorem dX12_countOf_41 : decode cX12_countOf 41 = .ok (.getfield 7, 3) := by decide +kernel
theorem dX12_countOf_44 : decode cX12_countOf 44 = .ok (.iconst 5, 1) := by decide +kernel
theorem dX12_countOf_45 : decode cX12_countOf 45 = .ok (.iaload, 1) := by decide +kernel
theorem dX12_countOf_46 : decode cX12_countOf 46 = .ok (.ireturn, 1) := by decide +kernel
theorem dX12_countOf_47 : decode cX12_countOf 47 = .ok (.aload_n 0, 1) := by decide +kernel
theorem dX12_countOf_48 : decode cX12_countOf 48 = .ok (.getfield 7, 3) := by decide +kernel
theorem dX12_countOf_51 : decode cX12_countOf 51 = .ok (.bipush 21, 2) := by decide +kernel
theorem dX12_countOf_53 : decode cX12_countOf 53 = .ok (.iaload, 1) := by decide +kernel
theorem dX12_countOf_54 : decode cX12_countOf 54 = .ok (.ireturn, 1) := by decide +kernel
theorem dX12_countOf_55 : decode cX12_countOf 55 = .ok (.aload_n 0, 1) := by decide +kernel
theorem dX12_countOf_56 : decode cX12_countOf 56 = .ok (.getfield 7, 3) := by decide +kernel
theorem dX12_countOf_59 : decode cX12_countOf 59 = .ok (.iconst 0, 1) := by decide +kernel
theorem dX12_countOf_60 : decode cX12_countOf 60 = .ok (.iaload, 1) := by decide +kernel
theorem dX12_countOf_61 : decode cX12_countOf 61 = .ok (.ireturn, 1) := by decide +kernel
theorem dX12_countOf_62 : decode cX12_countOf 62 = .ok (.aload_n 0, 1) := by decide +kernel
theorem dX12_countOf_63 : decode cX12_countOf 63 = .ok (.getfield 7, 3) := by decide +kernel
theorem dX12_countOf_66 : decode cX12_countOf 66 = .ok (.iconst 1, 1) := by decide +kernel
theorem dX12_countOf_67 : decode cX12_countOf 67 = .ok (.iaload, 1) := by decide +kernel
theorem dX12_countOf_68 : decode cX12_countOf 68 = .ok (.invokestatic 268, 3) := by decide +kernel
theorem dX12_countOf_71 : decode cX12_countOf 71 = .ok (.ireturn, 1) := by decide +kernel
theorem dX12_countOf_72 : decode cX12_countOf 72 = .ok (.aload_n 0, 1) := by decide +kernel
theorem dX12_countOf_73 : decode cX12_countOf 73 = .ok (.getfield 7, 3) := by decide +kernel
theorem dX12_countOf_76 : decode cX12_countOf 76 = .ok (.bipush 52, 2) := by decide +kernel
theorem dX12_countOf_78 : decode cX12_countOf 78 = .ok (.iaload, 1) := by decide +kernel
theorem dX12_countOf_79 : decode cX12_countOf 79 = .ok (.ireturn, 1) := by decide +kernel
theorem dX12_countOf_80 : decode cX12_countOf 80 = .ok (.aload_n 0, 1) := by decide +kernel
theorem dX12_countOf_81 : decode cX12_countOf 81 = .ok (.getfield 81, 3) := by decide +kernel
theorem dX12_countOf_84 : decode cX12_countOf 84 = .ok (.ireturn, 1) := by decide +kernel
theorem dX12_countOf_85 : decode cX12_countOf 85 = .ok (.aload_n 0, 1) := by decide +kernel
theorem dX12_countOf_86 : decode cX12_countOf 86 = .ok (.getfield 130, 3) := by decide +kernel
theorem dX12_countOf_89 : decode cX12_countOf 89 = .ok (.ireturn, 1) := by decide +kernel
theorem dX12_count_0 : decode cX12_count 0 = .ok (.iload_n 1, 1) := by decide +kernel
theorem dX12_count_1 : decode cX12_count 1 = .ok (.i2l, 1) := by decide +kernel
theorem dX12_count_2 : decode cX12_count 2 = .ok (.lconst 0, 1) := by decide +kernel
theorem dX12_count_3 : decode cX12_count 3 = .ok (.ldc2_w 287, 3) := by decide +kernel
theorem dX12_count_6 : decode cX12_count 6 = .ok (.invokestatic 75, 3) := by decide +kernel
theorem dX12_count_9 : decode cX12_count 9 = .ok (.ifCond .eq 11, 3) := by decide +kernel
theorem dX12_count_12 : decode cX12_count 12 = .ok (.aload_n 0, 1) := by decide +kernel
theorem dX12_count_13 : decode cX12_count 13 = .ok (.iload_n 1, 1) := by decide +kernel
theorem dX12_count_14 : decode cX12_count 14 = .ok (.invokevirtual 289, 3) := by decide +kernel
theorem dX12_count_17 : decode cX12_count 17 = .ok (.goto 7, 3) := by decide +kernel
theorem dX12_count_20 : decode cX12_count 20 = .ok (.aload_n 0, 1) := by decide +kernel
theorem dX12_count_21 : decode cX12_count 21 = .ok (.invokevirtual 95, 3) := by decide +kernel
theorem dX12_count_24 : decode cX12_count 24 = .ok (.ireturn, 1) := by decide +kernel
theorem dX12_digest_0 : decode cX12_digest 0 = .ok (.ldc2_w 292, 3) := by decide +kernel
theorem dX12_digest_3 : decode cX12_digest 3 = .ok (.lstore_n 1, 1) := by decide +kernel
theorem dX12_digest_4 : decode cX12_digest 4 = .ok (.iconst 0, 1) := by decide +kernel
theorem dX12_digest_5 : decode cX12_digest 5 = .ok (.istore_n 3, 1) := by decide +kernel
theorem dX12_digest_6 : decode cX12_digest 6 = .ok (.iload_n 3, 1) := by decide +kernel
theorem dX12_digest_7 : decode cX12_digest 7 = .ok (.bipush 7, 2) := by decide +kernel
theorem dX12_digest_9 : decode cX12_digest 9 = .ok (.if_icmp .ge 22, 3) := by decide +kernel
theorem dX12_digest_12 : decode cX12_digest 12 = .ok (.ldc2_w 294, 3) := by decide +kernel
theorem dX12_digest_15 : decode cX12_digest 15 = .ok (.lload_n 1, 1) := by decide +kernel
theorem dX12_digest_16 : decode cX12_digest 16 = .ok (.lmul, 1) := by decide +kernel
theorem dX12_digest_17 : decode cX12_digest 17 = .ok (.aload_n 0, 1) := by decide +kernel
theorem dX12_digest_18 : decode cX12_digest 18 = .ok (.iload_n 3, 1) := by decide +kernel
theorem dX12_digest_19 : decode cX12_digest 19 = .ok (.invokevirtual 289, 3) := by decide +kernel
theorem dX12_digest_22 : decode cX12_digest 22 = .ok (.i2l, 1) := by decide +kernel
theorem dX12_digest_23 : decode cX12_digest 23 = .ok (.ladd, 1) := by decide +kernel
theorem dX12_digest_24 : decode cX12_digest 24 = .ok (.lstore_n 1, 1) := by decide +kernel
theorem dX12_digest_25 : decode cX12_digest 25 = .ok (.iinc 3 1, 3) := by decide +kernel
theorem dX12_digest_28 : decode cX12_digest 28 = .ok (.goto (-22), 3) := by decide +kernel
theorem dX12_digest_31 : decode cX12_digest 31 = .ok (.iconst 0, 1) := by decide +kernel
theorem dX12_digest_32 : decode cX12_digest 32 = .ok (.istore_n 3, 1) := by decide +kernel
theorem dX12_digest_33 : decode cX12_digest 33 = .ok (.iload_n 3, 1) := by decide +kernel
theorem dX12_digest_34 : decode cX12_digest 34 = .ok (.bipush 28, 2) := by decide +kernel
theorem dX12_digest_36 : decode cX12_digest 36 = .ok (.if_icmp .ge 26, 3) := by decide +kernel
theorem dX12_digest_39 : decode cX12_digest 39 = .ok (.ldc2_w 294, 3) := by decide +kernel
theorem dX12_digest_42 : decode cX12_digest 42 = .ok (.lload_n 1, 1) := by decide +kernel
theorem dX12_digest_43 : decode cX12_digest 43 = .ok (.lmul, 1) := by decide +kernel
theorem dX12_digest_44 : decode cX12_digest 44 = .ok (.aload_n 0, 1) := by decide +kernel
theorem dX12_digest_45 : decode cX12_digest 45 = .ok (.getfield 7, 3) := by decide +kernel
theorem dX12_digest_48 : decode cX12_digest 48 = .ok (.bipush 71, 2) := by decide +kernel
theorem dX12_digest_50 : decode cX12_digest 50 = .ok (.iload_n 3, 1) := by decide +kernel
theorem dX12_digest_51 : decode cX12_digest 51 = .ok (.iadd, 1) := by decide +kernel
theorem dX12_digest_52 : decode cX12_digest 52 = .ok (.iaload, 1) := by decide +kernel
theorem dX12_digest_53 : decode cX12_digest 53 = .ok (.i2l, 1) := by decide +kernel
theorem dX12_digest_54 : decode cX12_digest 54 = .ok (.ladd, 1) := by decide +kernel
theorem dX12_digest_55 : decode cX12_digest 55 = .ok (.lstore_n 1, 1) := by decide +kernel
theorem dX12_digest_56 : decode cX12_digest 56 = .ok (.iinc 3 1, 3) := by decide +kernel
theorem dX12_digest_59 : decode cX12_digest 59 = .ok (.goto (-26), 3) := by decide +kernel
theorem dX12_digest_62 : decode cX12_digest 62 = .ok (.iconst 0, 1) := by decide +kernel
theorem dX12_digest_63 : decode cX12_digest 63 = .ok (.istore_n 3, 1) := by decide +kernel
theorem dX12_digest_64 : decode cX12_digest 64 = .ok (.iload_n 3, 1) := by decide +kernel
theorem dX12_digest_65 : decode cX12_digest 65 = .ok (.aload_n 0, 1) := by decide +kernel
theorem dX12_digest_66 : decode cX12_digest 66 = .ok (.getfield 7, 3) := by decide +kernel
theorem dX12_digest_69 : decode cX12_digest 69 = .ok (.iconst 5, 1) := by decide +kernel
theorem dX12_digest_70 : decode cX12_digest 70 = .ok (.iaload, 1) := by decide +kernel
theorem dX12_digest_71 : decode cX12_digest 71 = .ok (.if_icmp .ge 78, 3) := by decide +kernel
theorem dX12_digest_74 : decode cX12_digest 74 = .ok (.ldc2_w 294, 3) := by decide +kernel
theorem dX12_digest_77 : decode cX12_digest 77 = .ok (.lload_n 1, 1) := by decide +kernel
theorem dX12_digest_78 : decode cX12_digest 78 = .ok (.lmul, 1) := by decide +kernel
theorem dX12_digest_79 : decode cX12_digest 79 = .ok (.aload_n 0, 1) := by decide +kernel
theorem dX12_digest_80 : decode cX12_digest 80 = .ok (.getfield 7, 3) := by decide +kernel
theorem dX12_digest_83 : decode cX12_digest 83 = .ok (.bipush 6, 2) := by decide +kernel
theorem dX12_digest_85 : decode cX12_digest 85 = .ok (.iload_n 3, 1) := by decide +kernel
theorem dX12_digest_86 : decode cX12_digest 86 = .ok (.iadd, 1) := by decide +kernel
theorem dX12_digest_87 : decode cX12_digest 87 = .ok (.iaload, 1) := by decide +kernel
theorem dX12_digest_88 : decode cX12_digest 88 = .ok (.i2l, 1) := by decide +kernel
theorem dX12_digest_89 : decode cX12_digest 89 = .ok (.ladd, 1) := by decide +kernel
theorem dX12_digest_90 : decode cX12_digest 90 = .ok (.lstore_n 1, 1) := by decide +kernel
theorem dX12_digest_91 : decode cX12_digest 91 = .ok (.ldc2_w 294, 3) := by decide +kernel
theorem dX12_digest_94 : decode cX12_digest 94 = .ok (.lload_n 1, 1) := by decide +kernel
theorem dX12_digest_95 : decode cX12_digest 95 = .ok (.lmul, 1) := by decide +kernel
theorem dX12_digest_96 : decode cX12_digest 96 = .ok (.aload_n 0, 1) := by decide +kernel
theorem dX12_digest_97 : decode cX12_digest 97 = .ok (.getfield 7, 3) := by decide +kernel
theorem dX12_digest_100 : decode cX12_digest 100 = .ok (.bipush 11, 2) := by decide +kernel
theorem dX12_digest_102 : decode cX12_digest 102 = .ok (.iload_n 3, 1) := by decide +kernel
theorem dX12_digest_103 : decode cX12_digest 103 = .ok (.iadd, 1) := by decide +kernel
theorem dX12_digest_104 : decode cX12_digest 104 = .ok (.iaload, 1) := by decide +kernel
theorem dX12_digest_105 : decode cX12_digest 105 = .ok (.i2l, 1) := by decide +kernel
theorem dX12_digest_106 : decode cX12_digest 106 = .ok (.ladd, 1) := by decide +kernel
theorem dX12_digest_107 : decode cX12_digest 107 = .ok (.lstore_n 1, 1) := by decide +kernel
theorem dX12_digest_108 : decode cX12_digest 108 = .ok (.ldc2_w 294, 3) := by decide +kernel
theorem dX12_digest_111 : decode cX12_digest 111 = .ok (.lload_n 1, 1) := by decide +kernel
theorem dX12_digest_112 : decode cX12_digest 112 = .ok (.lmul, 1) := by decide +kernel
theorem dX12_digest_113 : decode cX12_digest 113 = .ok (.aload_n 0, 1) := by decide +kernel
theorem dX12_digest_114 : decode cX12_digest 114 = .ok (.getfield 7, 3) := by decide +kernel
theorem dX12_digest_117 : decode cX12_digest 117 = .ok (.bipush 16, 2) := by decide +kernel
theorem dX12_digest_119 : decode cX12_digest 119 = .ok (.iload_n 3, 1) := by decide +kernel
theorem dX12_digest_120 : decode cX12_digest 120 = .ok (.iadd, 1) := by decide +kernel
theorem dX12_digest_121 : decode cX12_digest 121 = .ok (.iaload, 1) := by decide +kernel
theorem dX12_digest_122 : decode cX12_digest 122 = .ok (.i2l, 1) := by decide +kernel
theorem dX12_digest_123 : decode cX12_digest 123 = .ok (.ladd, 1) := by decide +kernel
theorem dX12_digest_124 : decode cX12_digest 124 = .ok (.lstore_n 1, 1) := by decide +kernel
theorem dX12_digest_125 : decode cX12_digest 125 = .ok (.ldc2_w 294, 3) := by decide +kernel
theorem dX12_digest_128 : decode cX12_digest 128 = .ok (.lload_n 1, 1) := by decide +kernel
theorem dX12_digest_129 : decode cX12_digest 129 = .ok (.lmul, 1) := by decide +kernel
theorem dX12_digest_130 : decode cX12_digest 130 = .ok (.aload_n 0, 1) := by decide +kernel
theorem dX12_digest_131 : decode cX12_digest 131 = .ok (.getfield 7, 3) := by decide +kernel
theorem dX12_digest_134 : decode cX12_digest 134 = .ok (.iconst 1, 1) := by decide +kernel
theorem dX12_digest_135 : decode cX12_digest 135 = .ok (.iaload, 1) := by decide +kernel
theorem dX12_digest_136 : decode cX12_digest 136 = .ok (.iload_n 3, 1) := by decide +kernel
theorem dX12_digest_137 : decode cX12_digest 137 = .ok (.ishr, 1) := by decide +kernel
theorem dX12_digest_138 : decode cX12_digest 138 = .ok (.iconst 1, 1) := by decide +kernel
theorem dX12_digest_139 : decode cX12_digest 139 = .ok (.iand, 1) := by decide +kernel
theorem dX12_digest_140 : decode cX12_digest 140 = .ok (.i2l, 1) := by decide +kernel
theorem dX12_digest_141 : decode cX12_digest 141 = .ok (.ladd, 1) := by decide +kernel
theorem dX12_digest_142 : decode cX12_digest 142 = .ok (.lstore_n 1, 1) := by decide +kernel
theorem dX12_digest_143 : decode cX12_digest 143 = .ok (.iinc 3 1, 3) := by decide +kernel
theorem dX12_digest_146 : decode cX12_digest 146 = .ok (.goto (-82), 3) := by decide +kernel
theorem dX12_digest_149 : decode cX12_digest 149 = .ok (.iconst 0, 1) := by decide +kernel
theorem dX12_digest_150 : decode cX12_digest 150 = .ok (.istore_n 3, 1) := by decide +kernel
theorem dX12_digest_151 : decode cX12_digest 151 = .ok (.iload_n 3, 1) := by decide +kernel
theorem dX12_digest_152 : decode cX12_digest 152 = .ok (.iconst 3, 1) := by decide +kernel
theorem dX12_digest_153 : decode cX12_digest 153 = .ok (.if_icmp .ge 25, 3) := by decide +kernel
theorem dX12_digest_156 : decode cX12_digest 156 = .ok (.ldc2_w 294, 3) := by decide +kernel
theorem dX12_digest_159 : decode cX12_digest 159 = .ok (.lload_n 1, 1) := by decide +kernel
theorem dX12_digest_160 : decode cX12_digest 160 = .ok (.lmul, 1) := by decide +kernel
theorem dX12_digest_161 : decode cX12_digest 161 = .ok (.aload_n 0, 1) := by decide +kernel
theorem dX12_digest_162 : decode cX12_digest 162 = .ok (.getfield 7, 3) := by decide +kernel
theorem dX12_digest_165 : decode cX12_digest 165 = .ok (.iconst 2, 1) := by decide +kernel
theorem dX12_digest_166 : decode cX12_digest 166 = .ok (.iload_n 3, 1) := by decide +kernel
theorem dX12_digest_167 : decode cX12_digest 167 = .ok (.iadd, 1) := by decide +kernel
theorem dX12_digest_168 : decode cX12_digest 168 = .ok (.iaload, 1) := by decide +kernel
theorem dX12_digest_169 : decode cX12_digest 169 = .ok (.i2l, 1) := by decide +kernel
theorem dX12_digest_170 : decode cX12_digest 170 = .ok (.ladd, 1) := by decide +kernel
theorem dX12_digest_171 : decode cX12_digest 171 = .ok (.lstore_n 1, 1) := by decide +kernel
theorem dX12_digest_172 : decode cX12_digest 172 = .ok (.iinc 3 1, 3) := by decide +kernel
theorem dX12_digest_175 : decode cX12_digest 175 = .ok (.goto (-24), 3) := by decide +kernel
theorem dX12_digest_178 : decode cX12_digest 178 = .ok (.iconst 0, 1) := by decide +kernel
theorem dX12_digest_179 : decode cX12_digest 179 = .ok (.istore_n 3, 1) := by decide +kernel
theorem dX12_digest_180 : decode cX12_digest 180 = .ok (.iload_n 3, 1) := by decide +kernel
theorem dX12_digest_181 : decode cX12_digest 181 = .ok (.aload_n 0, 1) := by decide +kernel
theorem dX12_digest_182 : decode cX12_digest 182 = .ok (.getfield 7, 3) := by decide +kernel
theorem dX12_digest_185 : decode cX12_digest 185 = .ok (.bipush 21, 2) := by decide +kernel
theorem dX12_digest_187 : decode cX12_digest 187 = .ok (.iaload, 1) := by decide +kernel
theorem dX12_digest_188 : decode cX12_digest 188 = .ok (.if_icmp .ge 88, 3) := by decide +kernel
theorem dX12_digest_191 : decode cX12_digest 191 = .ok (.ldc2_w 294, 3) := by decide +kernel
theorem dX12_digest_194 : decode cX12_digest 194 = .ok (.lload_n 1, 1) := by decide +kernel
theorem dX12_digest_195 : decode cX12_digest 195 = .ok (.lmul, 1) := by decide +kernel
theorem dX12_digest_196 : decode cX12_digest 196 = .ok (.aload_n 0, 1) := by decide +kernel
theorem dX12_digest_197 : decode cX12_digest 197 = .ok (.getfield 7, 3) := by decide +kernel
theorem dX12_digest_200 : decode cX12_digest 200 = .ok (.bipush 22, 2) := by decide +kernel
theorem dX12_digest_202 : decode cX12_digest 202 = .ok (.iload_n 3, 1) := by decide +kernel
theorem dX12_digest_203 : decode cX12_digest 203 = .ok (.iadd, 1) := by decide +kernel
theorem dX12_digest_204 : decode cX12_digest 204 = .ok (.iaload, 1) := by decide +kernel
theorem dX12_digest_205 : decode cX12_digest 205 = .ok (.i2l, 1) := by decide +kernel
theorem dX12_digest_206 : decode cX12_digest 206 = .ok (.ladd, 1) := by decide +kernel
theorem dX12_digest_207 : decode cX12_digest 207 = .ok (.lstore_n 1, 1) := by decide +kernel
theorem dX12_digest_208 : decode cX12_digest 208 = .ok (.ldc2_w 294, 3) := by decide +kernel
theorem dX12_digest_211 : decode cX12_digest 211 = .ok (.lload_n 1, 1) := by decide +kernel
theorem dX12_digest_212 : decode cX12_digest 212 = .ok (.lmul, 1) := by decide +kernel
theorem dX12_digest_213 : decode cX12_digest 213 = .ok (.aload_n 0, 1) := by decide +kernel
theorem dX12_digest_214 : decode cX12_digest 214 = .ok (.getfield 7, 3) := by decide +kernel
theorem dX12_digest_217 : decode cX12_digest 217 = .ok (.bipush 27, 2) := by decide +kernel
theorem dX12_digest_219 : decode cX12_digest 219 = .ok (.iload_n 3, 1) := by decide +kernel
theorem dX12_digest_220 : decode cX12_digest 220 = .ok (.iadd, 1) := by decide +kernel
theorem dX12_digest_221 : decode cX12_digest 221 = .ok (.iaload, 1) := by decide +kernel
theorem dX12_digest_222 : decode cX12_digest 222 = .ok (.i2l, 1) := by decide +kernel
theorem dX12_digest_223 : decode cX12_digest 223 = .ok (.ladd, 1) := by decide +kernel
theorem dX12_digest_224 : decode cX12_digest 224 = .ok (.lstore_n 1, 1) := by decide +kernel
theorem dX12_digest_225 : decode cX12_digest 225 = .ok (.iconst 0, 1) := by decide +kernel
theorem dX12_digest_226 : decode cX12_digest 226 = .ok (.istore 4, 2) := by decide +kernel
theorem dX12_digest_228 : decode cX12_digest 228 = .ok (.iload 4, 2) := by decide +kernel
theorem dX12_digest_230 : decode cX12_digest 230 = .ok (.aload_n 0, 1) := by decide +kernel
theorem dX12_digest_231 : decode cX12_digest 231 = .ok (.getfield 7, 3) := by decide +kernel
theorem dX12_digest_234 : decode cX12_digest 234 = .ok (.bipush 27, 2) := by decide +kernel
theorem dX12_digest_236 : decode cX12_digest 236 = .ok (.iload_n 3, 1) := by decide +kernel
theorem dX12_digest_237 : decode cX12_digest 237 = .ok (.iadd, 1) := by decide +kernel
theorem dX12_digest_238 : decode cX12_digest 238 = .ok (.iaload, 1) := by decide +kernel
theorem dX12_digest_239 : decode cX12_digest 239 = .ok (.if_icmp .ge 31, 3) := by decide +kernel
theorem dX12_digest_242 : decode cX12_digest 242 = .ok (.ldc2_w 294, 3) := by decide +kernel
theorem dX12_digest_245 : decode cX12_digest 245 = .ok (.lload_n 1, 1) := by decide +kernel
theorem dX12_digest_246 : decode cX12_digest 246 = .ok (.lmul, 1) := by decide +kernel
theorem dX12_digest_247 : decode cX12_digest 247 = .ok (.aload_n 0, 1) := by decide +kernel
theorem dX12_digest_248 : decode cX12_digest 248 = .ok (.getfield 7, 3) := by decide +kernel
theorem dX12_digest_251 : decode cX12_digest 251 = .ok (.bipush 32, 2) := by decide +kernel
theorem dX12_digest_253 : decode cX12_digest 253 = .ok (.iconst 4, 1) := by decide +kernel
theorem dX12_digest_254 : decode cX12_digest 254 = .ok (.iload_n 3, 1) := by decide +kernel
theorem dX12_digest_255 : decode cX12_digest 255 = .ok (.imul, 1) := by decide +kernel
theorem dX12_digest_256 : decode cX12_digest 256 = .ok (.iadd, 1) := by decide +kernel
theorem dX12_digest_257 : decode cX12_digest 257 = .ok (.iload 4, 2) := by decide +kernel
theorem dX12_digest_259 : decode cX12_digest 259 = .ok (.iadd, 1) := by decide +kernel
theorem dX12_digest_260 : decode cX12_digest 260 = .ok (.iaload, 1) := by decide +kernel
theorem dX12_digest_261 : decode cX12_digest 261 = .ok (.i2l, 1) := by decide +kernel
theorem dX12_digest_262 : decode cX12_digest 262 = .ok (.ladd, 1) := by decide +kernel
theorem dX12_digest_263 : decode cX12_digest 263 = .ok (.lstore_n 1, 1) := by decide +kernel
theorem dX12_digest_264 : decode cX12_digest 264 = .ok (.iinc 4 1, 3) := by decide +kernel
theorem dX12_digest_267 : decode cX12_digest 267 = .ok (.goto (-39), 3) := by decide +kernel
theorem dX12_digest_270 : decode cX12_digest 270 = .ok (.iinc 3 1, 3) := by decide +kernel
theorem dX12_digest_273 : decode cX12_digest 273 = .ok (.goto (-93), 3) := by decide +kernel
theorem dX12_digest_276 : decode cX12_digest 276 = .ok (.iconst 0, 1) := by decide +kernel
theorem dX12_digest_277 : decode cX12_digest 277 = .ok (.istore_n 3, 1) := by decide +kernel
theorem dX12_digest_278 : decode cX12_digest 278 = .ok (.iload_n 3, 1) := by decide +kernel
theorem dX12_digest_279 : decode cX12_digest 279 = .ok (.iconst 3, 1) := by decide +kernel
theorem dX12_digest_280 : decode cX12_digest 280 = .ok (.aload_n 0, 1) := by decide +kernel
theorem dX12_digest_281 : decode cX12_digest 281 = .ok (.getfield 7, 3) := by decide +kernel
theorem dX12_digest_284 : decode cX12_digest 284 = .ok (.bipush 52, 2) := by decide +kernel
theorem dX12_digest_286 : decode cX12_digest 286 = .ok (.iaload, 1) := by decide +kernel
theorem dX12_digest_287 : decode cX12_digest 287 = .ok (.imul, 1) := by decide +kernel
theorem dX12_digest_288 : decode cX12_digest 288 = .ok (.if_icmp .ge 26, 3) := by decide +kernel
theorem dX12_digest_291 : decode cX12_digest 291 = .ok (.ldc2_w 294, 3) := by decide +kernel
theorem dX12_digest_294 : decode cX12_digest 294 = .ok (.lload_n 1, 1) := by decide +kernel
theorem dX12_digest_295 : decode cX12_digest 295 = .ok (.lmul, 1) := by decide +kernel
theorem dX12_digest_296 : decode cX12_digest 296 = .ok (.aload_n 0, 1) := by decide +kernel
theorem dX12_digest_297 : decode cX12_digest 297 = .ok (.getfield 7, 3) := by decide +kernel
theorem dX12_digest_300 : decode cX12_digest 300 = .ok (.bipush 53, 2) := by decide +kernel
theorem dX12_digest_302 : decode cX12_digest 302 = .ok (.iload_n 3, 1) := by decide +kernel
theorem dX12_digest_303 : decode cX12_digest 303 = .ok (.iadd, 1) := by decide +kernel
theorem dX12_digest_304 : decode cX12_digest 304 = .ok (.iaload, 1) := by decide +kernel
theorem dX12_digest_305 : decode cX12_digest 305 = .ok (.i2l, 1) := by decide +kernel
theorem dX12_digest_306 : decode cX12_digest 306 = .ok (.ladd, 1) := by decide +kernel
theorem dX12_digest_307 : decode cX12_digest 307 = .ok (.lstore_n 1, 1) := by decide +kernel
theorem dX12_digest_308 : decode cX12_digest 308 = .ok (.iinc 3 1, 3) := by decide +kernel
theorem dX12_digest_311 : decode cX12_digest 311 = .ok (.goto (-33), 3) := by decide +kernel
theorem dX12_digest_314 : decode cX12_digest 314 = .ok (.ldc2_w 294, 3) := by decide +kernel
theorem dX12_digest_317 : decode cX12_digest 317 = .ok (.lload_n 1, 1) := by decide +kernel
theorem dX12_digest_318 : decode cX12_digest 318 = .ok (.lmul, 1) := by decide +kernel
theorem dX12_digest_319 : decode cX12_digest 319 = .ok (.aload_n 0, 1) := by decide +kernel
theorem dX12_digest_320 : decode cX12_digest 320 = .ok (.getfield 263, 3) := by decide +kernel
theorem dX12_digest_323 : decode cX12_digest 323 = .ok (.ladd, 1) := by decide +kernel
theorem dX12_digest_324 : decode cX12_digest 324 = .ok (.lstore_n 1, 1) := by decide +kernel
theorem dX12_digest_325 : decode cX12_digest 325 = .ok (.ldc2_w 294, 3) := by decide +kernel
theorem dX12_digest_328 : decode cX12_digest 328 = .ok (.lload_n 1, 1) := by decide +kernel
theorem dX12_digest_329 : decode cX12_digest 329 = .ok (.lmul, 1) := by decide +kernel
theorem dX12_digest_330 : decode cX12_digest 330 = .ok (.aload_n 0, 1) := by decide +kernel
theorem dX12_digest_331 : decode cX12_digest 331 = .ok (.getfield 13, 3) := by decide +kernel
theorem dX12_digest_334 : decode cX12_digest 334 = .ok (.ladd, 1) := by decide +kernel
theorem dX12_digest_335 : decode cX12_digest 335 = .ok (.lreturn, 1) := by decide +kernel
end
section
theorem dX11_init_0 : decode cX11_init 0 = .ok (.aload_n 0, 1) := by decide +kernel
theorem dX11_init_1 : decode cX11_init 1 = .ok (.invokespecial 1, 3) := by decide +kernel
theorem dX11_init_4 : decode cX11_init 4 = .ok (.aload_n 0, 1) := by decide +kernel
theorem dX11_init_5 : decode cX11_init 5 = .ok (.new 7, 3) := by decide +kernel
theorem dX11_init_8 : decode cX11_init 8 = .ok (.dup, 1) := by decide +kernel
theorem dX11_init_9 : decode cX11_init 9 = .ok (.invokespecial 9, 3) := by decide +kernel
theorem dX11_init_12 : decode cX11_init 12 = .ok (.putfield 10, 3) := by decide +kernel
theorem dX11_init_15 : decode cX11_init 15 = .ok (.aload_n 0, 1) := by decide +kernel
theorem dX11_init_16 : decode cX11_init 16 = .ok (.iconst 2, 1) := by decide +kernel
theorem dX11_init_17 : decode cX11_init 17 = .ok (.anewarray 7, 3) := by decide +kernel
theorem dX11_init_20 : decode cX11_init 20 = .ok (.dup, 1) := by decide +kernel
theorem dX11_init_21 : decode cX11_init 21 = .ok (.iconst 0, 1) := by decide +kernel
theorem dX11_init_22 : decode cX11_init 22 = .ok (.new 7, 3) := by decide +kernel
theorem dX11_init_25 : decode cX11_init 25 = .ok (.dup, 1) := by decide +kernel
theorem dX11_init_26 : decode cX11_init 26 = .ok (.invokespecial 9, 3) := by decide +kernel
theorem dX11_init_29 : decode cX11_init 29 = .ok (.aastore, 1) := by decide +kernel
theorem dX11_init_30 : decode cX11_init 30 = .ok (.dup, 1) := by decide +kernel
theorem dX11_init_31 : decode cX11_init 31 = .ok (.iconst 1, 1) := by decide +kernel
theorem dX11_init_32 : decode cX11_init 32 = .ok (.new 7, 3) := by decide +kernel
theorem dX11_init_35 : decode cX11_init 35 = .ok (.dup, 1) := by decide +kernel
theorem dX11_init_36 : decode cX11_init 36 = .ok (.invokespecial 9, 3) := by decide +kernel
theorem dX11_init_39 : decode cX11_init 39 = .ok (.aastore, 1) := by decide +kernel
theorem dX11_init_40 : decode cX11_init 40 = .ok (.putfield 16, 3) := by decide +kernel
theorem dX11_init_43 : decode cX11_init 43 = .ok (.aload_n 0, 1) := by decide +kernel
theorem dX11_init_44 : decode cX11_init 44 = .ok (.iconst 2, 1) := by decide +kernel
theorem dX11_init_45 : decode cX11_init 45 = .ok (.newarray .boolean, 2) := by decide +kernel
theorem dX11_init_47 : decode cX11_init 47 = .ok (.putfield 20, 3) := by decide +kernel
theorem dX11_init_50 : decode cX11_init 50 = .ok (.aload_n 0, 1) := by decide +kernel
theorem dX11_init_51 : decode cX11_init 51 = .ok (.new 24, 3) := by decide +kernel
theorem dX11_init_54 : decode cX11_init 54 = .ok (.dup, 1) := by decide +kernel
theorem dX11_init_55 : decode cX11_init 55 = .ok (.invokespecial 26, 3) := by decide +kernel
theorem dX11_init_58 : decode cX11_init 58 = .ok (.putfield 27, 3) := by decide +kernel
theorem dX11_init_61 : decode cX11_init 61 = .ok (.aload_n 0, 1) := by decide +kernel
theorem dX11_init_62 : decode cX11_init 62 = .ok (.new 31, 3) := by decide +kernel
theorem dX11_init_65 : decode cX11_init 65 = .ok (.dup, 1) := by decide +kernel
theorem dX11_init_66 : decode cX11_init 66 = .ok (.invokespecial 33, 3) := by decide +kernel
theorem dX11_init_69 : decode cX11_init 69 = .ok (.putfield 34, 3) := by decide +kernel
theorem dX11_init_72 : decode cX11_init 72 = .ok (.aload_n 0, 1) := by decide +kernel
theorem dX11_init_73 : decode cX11_init 73 = .ok (.new 38, 3) := by decide +kernel
theorem dX11_init_76 : decode cX11_init 76 = .ok (.dup, 1) := by decide +kernel
theorem dX11_init_77 : decode cX11_init 77 = .ok (.invokespecial 40, 3) := by decide +kernel
theorem dX11_init_80 : decode cX11_init 80 = .ok (.putfield 41, 3) := by decide +kernel
theorem dX11_init_83 : decode cX11_init 83 = .ok (.aload_n 0, 1) := by decide +kernel
theorem dX11_init_84 : decode cX11_init 84 = .ok (.new 45, 3) := by decide +kernel
theorem dX11_init_87 : decode cX11_init 87 = .ok (.dup, 1) := by decide +kernel
theorem dX11_init_88 : decode cX11_init 88 = .ok (.invokespecial 47, 3) := by decide +kernel
theorem dX11_init_91 : decode cX11_init 91 = .ok (.putfield 48, 3) := by decide +kernel
theorem dX11_init_94 : decode cX11_init 94 = .ok (.aload_n 0, 1) := by decide +kernel
theorem dX11_init_95 : decode cX11_init 95 = .ok (.bipush 6, 2) := by decide +kernel
theorem dX11_init_97 : decode cX11_init 97 = .ok (.newarray .long, 2) := by decide +kernel
theorem dX11_init_99 : decode cX11_init 99 = .ok (.putfield 52, 3) := by decide +kernel
theorem dX11_init_102 : decode cX11_init 102 = .ok (.aload_n 0, 1) := by decide +kernel
theorem dX11_init_103 : decode cX11_init 103 = .ok (.lconst 0, 1) := by decide +kernel
theorem dX11_init_104 : decode cX11_init 104 = .ok (.putfield 56, 3) := by decide +kernel
theorem dX11_init_107 : decode cX11_init 107 = .ok (.aload_n 0, 1) := by decide +kernel
theorem dX11_init_108 : decode cX11_init 108 = .ok (.lconst 1, 1) := by decide +kernel
theorem dX11_init_109 : decode cX11_init 109 = .ok (.putfield 60, 3) := by decide +kernel
theorem dX11_init_112 : decode cX11_init 112 = .ok (.return_, 1) := by decide +kernel
theorem dX11_house_0 : decode cX11_house 0 = .ok (.aload_n 0, 1) := by decide +kernel
theorem dX11_house_1 : decode cX11_house 1 = .ok (.getfield 10, 3) := by decide +kernel
theorem dX11_house_4 : decode cX11_house 4 = .ok (.getfield 63, 3) := by decide +kernel
theorem dX11_house_7 : decode cX11_house 7 = .ok (.getfield 66, 3) := by decide +kernel
theorem dX11_house_10 : decode cX11_house 10 = .ok (.istore_n 1, 1) := by decide +kernel
theorem dX11_house_11 : decode cX11_house 11 = .ok (.aload_n 0, 1) := by decide +kernel
theorem dX11_house_12 : decode cX11_house 12 = .ok (.getfield 10, 3) := by decide +kernel
theorem dX11_house_15 : decode cX11_house 15 = .ok (.getfield 63, 3) := by decide +kernel
theorem dX11_house_18 : decode cX11_house 18 = .ok (.invokevirtual 70, 3) := by decide +kernel
theorem dX11_house_21 : decode cX11_house 21 = .ok (.aload_n 0, 1) := by decide +kernel
theorem dX11_house_22 : decode cX11_house 22 = .ok (.getfield 10, 3) := by decide +kernel
theorem dX11_house_25 : decode cX11_house 25 = .ok (.invokevirtual 73, 3) := by decide +kernel
theorem dX11_house_28 : decode cX11_house 28 = .ok (.iload_n 1, 1) := by decide +kernel
theorem dX11_house_29 : decode cX11_house 29 = .ok (.ireturn, 1) := by decide +kernel
theorem dX11_stair_0 : decode cX11_stair 0 = .ok (.iload_n 1, 1) := by decide +kernel
theorem dX11_stair_1 : decode cX11_stair 1 = .ok (.invokestatic 76, 3) := by decide +kernel
theorem dX11_stair_4 : decode cX11_stair 4 = .ok (.ifCond .eq 24, 3) := by decide +kernel
theorem dX11_stair_7 : decode cX11_stair 7 = .ok (.iload_n 2, 1) := by decide +kernel
theorem dX11_stair_8 : decode cX11_stair 8 = .ok (.invokestatic 76, 3) := by decide +kernel
theorem dX11_stair_11 : decode cX11_stair 11 = .ok (.ifCond .eq 17, 3) := by decide +kernel
theorem dX11_stair_14 : decode cX11_stair 14 = .ok (.iload_n 1, 1) := by decide +kernel
theorem dX11_stair_15 : decode cX11_stair 15 = .ok (.iload_n 2, 1) := by decide +kernel
theorem dX11_stair_16 : decode cX11_stair 16 = .ok (.if_icmp .eq 12, 3) := by decide +kernel
theorem dX11_stair_19 : decode cX11_stair 19 = .ok (.iload_n 3, 1) := by decide +kernel
theorem dX11_stair_20 : decode cX11_stair 20 = .ok (.bipush 9, 2) := by decide +kernel
theorem dX11_stair_22 : decode cX11_stair 22 = .ok (.invokestatic 80, 3) := by decide +kernel
theorem dX11_stair_25 : decode cX11_stair 25 = .ok (.ifCond .ne 10, 3) := by decide +kernel
theorem dX11_stair_28 : decode cX11_stair 28 = .ok (.aload_n 0, 1) := by decide +kernel
theorem dX11_stair_29 : decode cX11_stair 29 = .ok (.bipush (-10), 2) := by decide +kernel
theorem dX11_stair_31 : decode cX11_stair 31 = .ok (.invokevirtual 84, 3) := by decide +kernel
theorem dX11_stair_34 : decode cX11_stair 34 = .ok (.ireturn, 1) := by decide +kernel
theorem dX11_stair_35 : decode cX11_stair 35 = .ok (.aload_n 0, 1) := by decide +kernel
theorem dX11_stair_36 : decode cX11_stair 36 = .ok (.getfield 10, 3) := by decide +kernel
theorem dX11_stair_39 : decode cX11_stair 39 = .ok (.getfield 63, 3) := by decide +kernel
theorem dX11_stair_42 : decode cX11_stair 42 = .ok (.iload_n 1, 1) := by decide +kernel
theorem dX11_stair_43 : decode cX11_stair 43 = .ok (.iload_n 2, 1) := by decide +kernel
theorem dX11_stair_44 : decode cX11_stair 44 = .ok (.iload_n 3, 1) := by decide +kernel
theorem dX11_stair_45 : decode cX11_stair 45 = .ok (.invokevirtual 88, 3) := by decide +kernel
theorem dX11_stair_48 : decode cX11_stair 48 = .ok (.ireturn, 1) := by decide +kernel
theorem dX11_sleeper_0 : decode cX11_sleeper 0 = .ok (.iload_n 1, 1) := by decide +kernel
theorem dX11_sleeper_1 : decode cX11_sleeper 1 = .ok (.iconst 5, 1) := by decide +kernel
theorem dX11_sleeper_2 : decode cX11_sleeper 2 = .ok (.invokestatic 80, 3) := by decide +kernel
theorem dX11_sleeper_5 : decode cX11_sleeper 5 = .ok (.ifCond .eq 19, 3) := by decide +kernel
theorem dX11_sleeper_8 : decode cX11_sleeper 8 = .ok (.iload_n 2, 1) := by decide +kernel
theorem dX11_sleeper_9 : decode cX11_sleeper 9 = .ok (.invokestatic 76, 3) := by decide +kernel
theorem dX11_sleeper_12 : decode cX11_sleeper 12 = .ok (.ifCond .eq 12, 3) := by decide +kernel
theorem dX11_sleeper_15 : decode cX11_sleeper 15 = .ok (.iload_n 3, 1) := by decide +kernel
theorem dX11_sleeper_16 : decode cX11_sleeper 16 = .ok (.bipush 9, 2) := by decide +kernel
theorem dX11_sleeper_18 : decode cX11_sleeper 18 = .ok (.invokestatic 80, 3) := by decide +kernel
theorem dX11_sleeper_21 : decode cX11_sleeper 21 = .ok (.ifCond .ne 10, 3) := by decide +kernel
theorem dX11_sleeper_24 : decode cX11_sleeper 24 = .ok (.aload_n 0, 1) := by decide +kernel
theorem dX11_sleeper_25 : decode cX11_sleeper 25 = .ok (.bipush (-2), 2) := by decide +kernel
theorem dX11_sleeper_27 : decode cX11_sleeper 27 = .ok (.invokevirtual 84, 3) := by decide +kernel
theorem dX11_sleeper_30 : decode cX11_sleeper 30 = .ok (.ireturn, 1) := by decide +kernel
theorem dX11_sleeper_31 : decode cX11_sleeper 31 = .ok (.aload_n 0, 1) := by decide +kernel
theorem dX11_sleeper_32 : decode cX11_sleeper 32 = .ok (.getfield 10, 3) := by decide +kernel
theorem dX11_sleeper_35 : decode cX11_sleeper 35 = .ok (.getfield 63, 3) := by decide +kernel
theorem dX11_sleeper_38 : decode cX11_sleeper 38 = .ok (.getfield 66, 3) := by decide +kernel
theorem dX11_sleeper_41 : decode cX11_sleeper 41 = .ok (.iconst 5, 1) := by decide +kernel
theorem dX11_sleeper_42 : decode cX11_sleeper 42 = .ok (.if_icmp .lt 8, 3) := by decide +kernel
theorem dX11_sleeper_45 : decode cX11_sleeper 45 = .ok (.aload_n 0, 1) := by decide +kernel
theorem dX11_sleeper_46 : decode cX11_sleeper 46 = .ok (.invokevirtual 92, 3) := by decide +kernel
theorem dX11_sleeper_49 : decode cX11_sleeper 49 = .ok (.ireturn, 1) := by decide +kernel
theorem dX11_sleeper_50 : decode cX11_sleeper 50 = .ok (.aload_n 0, 1) := by decide +kernel
theorem dX11_sleeper_51 : decode cX11_sleeper 51 = .ok (.getfield 10, 3) := by decide +kernel
theorem dX11_sleeper_54 : decode cX11_sleeper 54 = .ok (.iconst 0, 1) := by decide +kernel
theorem dX11_sleeper_55 : decode cX11_sleeper 55 = .ok (.putfield 96, 3) := by decide +kernel
theorem dX11_sleeper_58 : decode cX11_sleeper 58 = .ok (.aload_n 0, 1) := by decide +kernel
theorem dX11_sleeper_59 : decode cX11_sleeper 59 = .ok (.getfield 10, 3) := by decide +kernel
theorem dX11_sleeper_62 : decode cX11_sleeper 62 = .ok (.getfield 63, 3) := by decide +kernel
theorem dX11_sleeper_65 : decode cX11_sleeper 65 = .ok (.iload_n 1, 1) := by decide +kernel
theorem dX11_sleeper_66 : decode cX11_sleeper 66 = .ok (.iload_n 2, 1) := by decide +kernel
theorem dX11_sleeper_67 : decode cX11_sleeper 67 = .ok (.iload_n 3, 1) := by decide +kernel
theorem dX11_sleeper_68 : decode cX11_sleeper 68 = .ok (.invokevirtual 99, 3) := by decide +kernel
theorem dX11_sleeper_71 : decode cX11_sleeper 71 = .ok (.ireturn, 1) := by decide +kernel
theorem dX11_thing_0 : decode cX11_thing 0 = .ok (.iload_n 1, 1) := by decide +kernel
theorem dX11_thing_1 : decode cX11_thing 1 = .ok (.invokestatic 76, 3) := by decide +kernel
theorem dX11_thing_4 : decode cX11_thing 4 = .ok (.ifCond .ne 10, 3) := by decide +kernel
theorem dX11_thing_7 : decode cX11_thing 7 = .ok (.aload_n 0, 1) := by decide +kernel
theorem dX11_thing_8 : decode cX11_thing 8 = .ok (.bipush (-2), 2) := by decide +kernel
theorem dX11_thing_10 : decode cX11_thing 10 = .ok (.invokevirtual 84, 3) := by decide +kernel
theorem dX11_thing_13 : decode cX11_thing 13 = .ok (.ireturn, 1) := by decide +kernel
theorem dX11_thing_14 : decode cX11_thing 14 = .ok (.aload_n 0, 1) := by decide +kernel
theorem dX11_thing_15 : decode cX11_thing 15 = .ok (.getfield 10, 3) := by decide +kernel
theorem dX11_thing_18 : decode cX11_thing 18 = .ok (.getfield 63, 3) := by decide +kernel
theorem dX11_thing_21 : decode cX11_thing 21 = .ok (.getfield 102, 3) := by decide +kernel
theorem dX11_thing_24 : decode cX11_thing 24 = .ok (.iconst 5, 1) := by decide +kernel
theorem dX11_thing_25 : decode cX11_thing 25 = .ok (.if_icmp .lt 8, 3) := by decide +kernel
theorem dX11_thing_28 : decode cX11_thing 28 = .ok (.aload_n 0, 1) := by decide +kernel
theorem dX11_thing_29 : decode cX11_thing 29 = .ok (.invokevirtual 92, 3) := by decide +kernel
theorem dX11_thing_32 : decode cX11_thing 32 = .ok (.ireturn, 1) := by decide +kernel
theorem dX11_thing_33 : decode cX11_thing 33 = .ok (.aload_n 0, 1) := by decide +kernel
theorem dX11_thing_34 : decode cX11_thing 34 = .ok (.getfield 10, 3) := by decide +kernel
theorem dX11_thing_37 : decode cX11_thing 37 = .ok (.getfield 63, 3) := by decide +kernel
theorem dX11_thing_40 : decode cX11_thing 40 = .ok (.iload_n 1, 1) := by decide +kernel
theorem dX11_thing_41 : decode cX11_thing 41 = .ok (.invokevirtual 105, 3) := by decide +kernel
theorem dX11_thing_44 : decode cX11_thing 44 = .ok (.ireturn, 1) := by decide +kernel
theorem dX11_owner_0 : decode cX11_owner 0 = .ok (.aload_n 0, 1) := by decide +kernel
theorem dX11_owner_1 : decode cX11_owner 1 = .ok (.getfield 10, 3) := by decide +kernel
theorem dX11_owner_4 : decode cX11_owner 4 = .ok (.getfield 63, 3) := by decide +kernel
theorem dX11_owner_7 : decode cX11_owner 7 = .ok (.astore_n 3, 1) := by decide +kernel
theorem dX11_owner_8 : decode cX11_owner 8 = .ok (.aload_n 0, 1) := by decide +kernel
theorem dX11_owner_9 : decode cX11_owner 9 = .ok (.iload_n 1, 1) := by decide +kernel
theorem dX11_owner_10 : decode cX11_owner 10 = .ok (.invokevirtual 108, 3) := by decide +kernel
theorem dX11_owner_13 : decode cX11_owner 13 = .ok (.ifCond .eq 19, 3) := by decide +kernel
theorem dX11_owner_16 : decode cX11_owner 16 = .ok (.iload_n 2, 1) := by decide +kernel
theorem dX11_owner_17 : decode cX11_owner 17 = .ok (.invokestatic 111, 3) := by decide +kernel
theorem dX11_owner_20 : decode cX11_owner 20 = .ok (.ifCond .eq 12, 3) := by decide +kernel
theorem dX11_owner_23 : decode cX11_owner 23 = .ok (.aload_n 3, 1) := by decide +kernel
theorem dX11_owner_24 : decode cX11_owner 24 = .ok (.iload_n 1, 1) := by decide +kernel
theorem dX11_owner_25 : decode cX11_owner 25 = .ok (.invokevirtual 114, 3) := by decide +kernel
theorem dX11_owner_28 : decode cX11_owner 28 = .ok (.iload_n 2, 1) := by decide +kernel
theorem dX11_owner_29 : decode cX11_owner 29 = .ok (.if_icmp .ne 10, 3) := by decide +kernel
theorem dX11_owner_32 : decode cX11_owner 32 = .ok (.aload_n 0, 1) := by decide +kernel
theorem dX11_owner_33 : decode cX11_owner 33 = .ok (.bipush (-2), 2) := by decide +kernel
theorem dX11_owner_35 : decode cX11_owner 35 = .ok (.invokevirtual 84, 3) := by decide +kernel
theorem dX11_owner_38 : decode cX11_owner 38 = .ok (.ireturn, 1) := by decide +kernel
theorem dX11_owner_39 : decode cX11_owner 39 = .ok (.aload_n 3, 1) := by decide +kernel
theorem dX11_owner_40 : decode cX11_owner 40 = .ok (.getfield 117, 3) := by decide +kernel
theorem dX11_owner_43 : decode cX11_owner 43 = .ok (.iload_n 1, 1) := by decide +kernel
theorem dX11_owner_44 : decode cX11_owner 44 = .ok (.iaload, 1) := by decide +kernel
theorem dX11_owner_45 : decode cX11_owner 45 = .ok (.iconst 4, 1) := by decide +kernel
theorem dX11_owner_46 : decode cX11_owner 46 = .ok (.if_icmp .lt 8, 3) := by decide +kernel
theorem dX11_owner_49 : decode cX11_owner 49 = .ok (.aload_n 0, 1) := by decide +kernel
theorem dX11_owner_50 : decode cX11_owner 50 = .ok (.invokevirtual 92, 3) := by decide +kernel
theorem dX11_owner_53 : decode cX11_owner 53 = .ok (.ireturn, 1) := by decide +kernel
theorem dX11_owner_54 : decode cX11_owner 54 = .ok (.aload_n 3, 1) := by decide +kernel
theorem dX11_owner_55 : decode cX11_owner 55 = .ok (.iload_n 1, 1) := by decide +kernel
theorem dX11_owner_56 : decode cX11_owner 56 = .ok (.iload_n 2, 1) := by decide +kernel
theorem dX11_owner_57 : decode cX11_owner 57 = .ok (.invokevirtual 121, 3) := by decide +kernel
theorem dX11_owner_60 : decode cX11_owner 60 = .ok (.ireturn, 1) := by decide +kernel
theorem dX11_type_0 : decode cX11_type 0 = .ok (.iload_n 1, 1) := by decide +kernel
theorem dX11_type_1 : decode cX11_type 1 = .ok (.bipush 127, 2) := by decide +kernel
theorem dX11_type_3 : decode cX11_type 3 = .ok (.invokestatic 80, 3) := by decide +kernel
theorem dX11_type_6 : decode cX11_type 6 = .ok (.ifCond .ne 10, 3) := by decide +kernel
theorem dX11_type_9 : decode cX11_type 9 = .ok (.aload_n 0, 1) := by decide +kernel
theorem dX11_type_10 : decode cX11_type 10 = .ok (.bipush (-2), 2) := by decide +kernel
theorem dX11_type_12 : decode cX11_type 12 = .ok (.invokevirtual 84, 3) := by decide +kernel
theorem dX11_type_15 : decode cX11_type 15 = .ok (.ireturn, 1) := by decide +kernel
theorem dX11_type_16 : decode cX11_type 16 = .ok (.aload_n 0, 1) := by decide +kernel
theorem dX11_type_17 : decode cX11_type 17 = .ok (.getfield 27, 3) := by decide +kernel
theorem dX11_type_20 : decode cX11_type 20 = .ok (.getfield 125, 3) := by decide +kernel
theorem dX11_type_23 : decode cX11_type 23 = .ok (.sipush 150, 3) := by decide +kernel
theorem dX11_type_26 : decode cX11_type 26 = .ok (.if_icmp .lt 8, 3) := by decide +kernel
theorem dX11_type_29 : decode cX11_type 29 = .ok (.aload_n 0, 1) := by decide +kernel
theorem dX11_type_30 : decode cX11_type 30 = .ok (.invokevirtual 92, 3) := by decide +kernel
theorem dX11_type_33 : decode cX11_type 33 = .ok (.ireturn, 1) := by decide +kernel
theorem dX11_type_34 : decode cX11_type 34 = .ok (.aload_n 0, 1) := by decide +kernel
theorem dX11_type_35 : decode cX11_type 35 = .ok (.getfield 27, 3) := by decide +kernel
theorem dX11_type_38 : decode cX11_type 38 = .ok (.iload_n 1, 1) := by decide +kernel
theorem dX11_type_39 : decode cX11_type 39 = .ok (.invokevirtual 128, 3) := by decide +kernel
theorem dX11_type_42 : decode cX11_type 42 = .ok (.ireturn, 1) := by decide +kernel
theorem dX11_clear_0 : decode cX11_clear 0 = .ok (.aload_n 0, 1) := by decide +kernel
theorem dX11_clear_1 : decode cX11_clear 1 = .ok (.getfield 27, 3) := by decide +kernel
theorem dX11_clear_4 : decode cX11_clear 4 = .ok (.getfield 125, 3) := by decide +kernel
theorem dX11_clear_7 : decode cX11_clear 7 = .ok (.istore_n 1, 1) := by decide +kernel
theorem dX11_clear_8 : decode cX11_clear 8 = .ok (.aload_n 0, 1) := by decide +kernel
theorem dX11_clear_9 : decode cX11_clear 9 = .ok (.getfield 27, 3) := by decide +kernel
theorem dX11_clear_12 : decode cX11_clear 12 = .ok (.iconst 0, 1) := by decide +kernel
theorem dX11_clear_13 : decode cX11_clear 13 = .ok (.putfield 125, 3) := by decide +kernel
theorem dX11_clear_16 : decode cX11_clear 16 = .ok (.iload_n 1, 1) := by decide +kernel
theorem dX11_clear_17 : decode cX11_clear 17 = .ok (.ireturn, 1) := by decide +kernel
theorem dX11_read_0 : decode cX11_read 0 = .ok (.aload_n 0, 1) := by decide +kernel
theorem dX11_read_1 : decode cX11_read 1 = .ok (.getfield 27, 3) := by decide +kernel
theorem dX11_read_4 : decode cX11_read 4 = .ok (.aload_n 0, 1) := by decide +kernel
theorem dX11_read_5 : decode cX11_read 5 = .ok (.getfield 34, 3) := by decide +kernel
theorem dX11_read_8 : decode cX11_read 8 = .ok (.invokevirtual 131, 3) := by decide +kernel
theorem dX11_read_11 : decode cX11_read 11 = .ok (.istore_n 1, 1) := by decide +kernel
theorem dX11_read_12 : decode cX11_read 12 = .ok (.iload_n 1, 1) := by decide +kernel
theorem dX11_read_13 : decode cX11_read 13 = .ok (.ifCond .le 24, 3) := by decide +kernel
theorem dX11_read_16 : decode cX11_read 16 = .ok (.aload_n 0, 1) := by decide +kernel
theorem dX11_read_17 : decode cX11_read 17 = .ok (.getfield 10, 3) := by decide +kernel
theorem dX11_read_20 : decode cX11_read 20 = .ok (.getfield 63, 3) := by decide +kernel
theorem dX11_read_23 : decode cX11_read 23 = .ok (.aload_n 0, 1) := by decide +kernel
theorem dX11_read_24 : decode cX11_read 24 = .ok (.getfield 34, 3) := by decide +kernel
theorem dX11_read_27 : decode cX11_read 27 = .ok (.invokevirtual 135, 3) := by decide +kernel
theorem dX11_read_30 : decode cX11_read 30 = .ok (.aload_n 0, 1) := by decide +kernel
theorem dX11_read_31 : decode cX11_read 31 = .ok (.getfield 10, 3) := by decide +kernel
theorem dX11_read_34 : decode cX11_read 34 = .ok (.invokevirtual 73, 3) := by decide +kernel
theorem dX11_read_37 : decode cX11_read 37 = .ok (.iload_n 1, 1) := by decide +kernel
theorem dX11_read_38 : decode cX11_read 38 = .ok (.ireturn, 1) := by decide +kernel
theorem dX11_step_0 : decode cX11_step 0 = .ok (.iload_n 1, 1) := by decide +kernel
theorem dX11_step_1 : decode cX11_step 1 = .ok (.invokestatic 111, 3) := by decide +kernel
theorem dX11_step_4 : decode cX11_step 4 = .ok (.ifCond .eq 10, 3) := by decide +kernel
theorem dX11_step_7 : decode cX11_step 7 = .ok (.iload_n 2, 1) := by decide +kernel
theorem dX11_step_8 : decode cX11_step 8 = .ok (.invokestatic 76, 3) := by decide +kernel
theorem dX11_step_11 : decode cX11_step 11 = .ok (.ifCond .ne 10, 3) := by decide +kernel
theorem dX11_step_14 : decode cX11_step 14 = .ok (.aload_n 0, 1) := by decide +kernel
theorem dX11_step_15 : decode cX11_step 15 = .ok (.bipush (-2), 2) := by decide +kernel
theorem dX11_step_17 : decode cX11_step 17 = .ok (.invokevirtual 84, 3) := by decide +kernel
theorem dX11_step_20 : decode cX11_step 20 = .ok (.ireturn, 1) := by decide +kernel
theorem dX11_step_21 : decode cX11_step 21 = .ok (.aload_n 0, 1) := by decide +kernel
theorem dX11_step_22 : decode cX11_step 22 = .ok (.getfield 10, 3) := by decide +kernel
theorem dX11_step_25 : decode cX11_step 25 = .ok (.getfield 63, 3) := by decide +kernel
theorem dX11_step_28 : decode cX11_step 28 = .ok (.getfield 139, 3) := by decide +kernel
theorem dX11_step_31 : decode cX11_step 31 = .ok (.aload_n 0, 1) := by decide +kernel
theorem dX11_step_32 : decode cX11_step 32 = .ok (.getfield 10, 3) := by decide +kernel
theorem dX11_step_35 : decode cX11_step 35 = .ok (.getfield 142, 3) := by decide +kernel
theorem dX11_step_38 : decode cX11_step 38 = .ok (.iload_n 1, 1) := by decide +kernel
theorem dX11_step_39 : decode cX11_step 39 = .ok (.iaload, 1) := by decide +kernel
theorem dX11_step_40 : decode cX11_step 40 = .ok (.iload_n 2, 1) := by decide +kernel
theorem dX11_step_41 : decode cX11_step 41 = .ok (.invokestatic 145, 3) := by decide +kernel
theorem dX11_step_44 : decode cX11_step 44 = .ok (.iaload, 1) := by decide +kernel
theorem dX11_step_45 : decode cX11_step 45 = .ok (.istore_n 3, 1) := by decide +kernel
theorem dX11_step_46 : decode cX11_step 46 = .ok (.iload_n 3, 1) := by decide +kernel
theorem dX11_step_47 : decode cX11_step 47 = .ok (.ifCond .ge 8, 3) := by decide +kernel
theorem dX11_step_50 : decode cX11_step 50 = .ok (.aload_n 0, 1) := by decide +kernel
theorem dX11_step_51 : decode cX11_step 51 = .ok (.invokevirtual 148, 3) := by decide +kernel
theorem dX11_step_54 : decode cX11_step 54 = .ok (.ireturn, 1) := by decide +kernel
theorem dX11_step_55 : decode cX11_step 55 = .ok (.aload_n 0, 1) := by decide +kernel
theorem dX11_step_56 : decode cX11_step 56 = .ok (.getfield 10, 3) := by decide +kernel
theorem dX11_step_59 : decode cX11_step 59 = .ok (.iload_n 1, 1) := by decide +kernel
theorem dX11_step_60 : decode cX11_step 60 = .ok (.iload_n 2, 1) := by decide +kernel
theorem dX11_step_61 : decode cX11_step 61 = .ok (.iload_n 3, 1) := by decide +kernel
theorem dX11_step_62 : decode cX11_step 62 = .ok (.invokevirtual 151, 3) := by decide +kernel
theorem dX11_step_65 : decode cX11_step 65 = .ok (.ireturn, 1) := by decide +kernel
theorem dX11_waits_0 : decode cX11_waits 0 = .ok (.iload_n 1, 1) := by decide +kernel
theorem dX11_waits_1 : decode cX11_waits 1 = .ok (.iconst 1, 1) := by decide +kernel
theorem dX11_waits_2 : decode cX11_waits 2 = .ok (.if_icmp .lt 9, 3) := by decide +kernel
theorem dX11_waits_5 : decode cX11_waits 5 = .ok (.iload_n 1, 1) := by decide +kernel
theorem dX11_waits_6 : decode cX11_waits 6 = .ok (.bipush 59, 2) := by decide +kernel
theorem dX11_waits_8 : decode cX11_waits 8 = .ok (.if_icmp .le 10, 3) := by decide +kernel
theorem dX11_waits_11 : decode cX11_waits 11 = .ok (.aload_n 0, 1) := by decide +kernel
theorem dX11_waits_12 : decode cX11_waits 12 = .ok (.bipush (-2), 2) := by decide +kernel
theorem dX11_waits_14 : decode cX11_waits 14 = .ok (.invokevirtual 84, 3) := by decide +kernel
theorem dX11_waits_17 : decode cX11_waits 17 = .ok (.ireturn, 1) := by decide +kernel
theorem dX11_waits_18 : decode cX11_waits 18 = .ok (.aload_n 0, 1) := by decide +kernel
theorem dX11_waits_19 : decode cX11_waits 19 = .ok (.getfield 10, 3) := by decide +kernel
theorem dX11_waits_22 : decode cX11_waits 22 = .ok (.invokevirtual 154, 3) := by decide +kernel
theorem dX11_waits_25 : decode cX11_waits 25 = .ok (.aload_n 0, 1) := by decide +kernel
theorem dX11_waits_26 : decode cX11_waits 26 = .ok (.getfield 10, 3) := by decide +kernel
theorem dX11_waits_29 : decode cX11_waits 29 = .ok (.aload_n 0, 1) := by decide +kernel
theorem dX11_waits_30 : decode cX11_waits 30 = .ok (.getfield 10, 3) := by decide +kernel
theorem dX11_waits_33 : decode cX11_waits 33 = .ok (.getfield 157, 3) := by decide +kernel
theorem dX11_waits_36 : decode cX11_waits 36 = .ok (.iload_n 1, 1) := by decide +kernel
theorem dX11_waits_37 : decode cX11_waits 37 = .ok (.iadd, 1) := by decide +kernel
theorem dX11_waits_38 : decode cX11_waits 38 = .ok (.bipush 59, 2) := by decide +kernel
theorem dX11_waits_40 : decode cX11_waits 40 = .ok (.invokestatic 160, 3) := by decide +kernel
theorem dX11_waits_43 : decode cX11_waits 43 = .ok (.putfield 157, 3) := by decide +kernel
theorem dX11_waits_46 : decode cX11_waits 46 = .ok (.aload_n 0, 1) := by decide +kernel
theorem dX11_waits_47 : decode cX11_waits 47 = .ok (.getfield 10, 3) := by decide +kernel
theorem dX11_waits_50 : decode cX11_waits 50 = .ok (.getfield 157, 3) := by decide +kernel
theorem dX11_waits_53 : decode cX11_waits 53 = .ok (.ireturn, 1) := by decide +kernel
theorem dX11_undo_0 : decode cX11_undo 0 = .ok (.aload_n 0, 1) := by decide +kernel
theorem dX11_undo_1 : decode cX11_undo 1 = .ok (.getfield 10, 3) := by decide +kernel
theorem dX11_undo_4 : decode cX11_undo 4 = .ok (.getfield 96, 3) := by decide +kernel
theorem dX11_undo_7 : decode cX11_undo 7 = .ok (.ifCond .gt 8, 3) := by decide +kernel
theorem dX11_undo_10 : decode cX11_undo 10 = .ok (.aload_n 0, 1) := by decide +kernel
theorem dX11_undo_11 : decode cX11_undo 11 = .ok (.invokevirtual 148, 3) := by decide +kernel
theorem dX11_undo_14 : decode cX11_undo 14 = .ok (.ireturn, 1) := by decide +kernel
theorem dX11_undo_15 : decode cX11_undo 15 = .ok (.aload_n 0, 1) := by decide +kernel
theorem dX11_undo_16 : decode cX11_undo 16 = .ok (.getfield 10, 3) := by decide +kernel
theorem dX11_undo_19 : decode cX11_undo 19 = .ok (.invokevirtual 165, 3) := by decide +kernel
theorem dX11_undo_22 : decode cX11_undo 22 = .ok (.ireturn, 1) := by decide +kernel
theorem dX11_of_0 : decode cX11_of 0 = .ok (.aload_n 0, 1) := by decide +kernel
theorem dX11_of_1 : decode cX11_of 1 = .ok (.iload_n 1, 1) := by decide +kernel
theorem dX11_of_2 : decode cX11_of 2 = .ok (.invokevirtual 168, 3) := by decide +kernel
theorem dX11_of_5 : decode cX11_of 5 = .ok (.ifCond .ne 10, 3) := by decide +kernel
theorem dX11_of_8 : decode cX11_of 8 = .ok (.aload_n 0, 1) := by decide +kernel
theorem dX11_of_9 : decode cX11_of 9 = .ok (.bipush (-2), 2) := by decide +kernel
theorem dX11_of_11 : decode cX11_of 11 = .ok (.invokevirtual 84, 3) := by decide +kernel
theorem dX11_of_14 : decode cX11_of 14 = .ok (.ireturn, 1) := by decide +kernel
theorem dX11_of_15 : decode cX11_of 15 = .ok (.iload_n 2, 1) := by decide +kernel
theorem dX11_of_16 : decode cX11_of 16 = .ok (.tableswitch 83 0 3 #[32, 45, 58, 71], 32) := by decide +kernel
theorem dX11_of_48 : decode cX11_of 48 = .ok (.aload_n 0, 1) := by decide +kernel
theorem dX11_of_49 : decode cX11_of 49 = .ok (.getfield 10, 3) := by decide +kernel
theorem dX11_of_52 : decode cX11_of 52 = .ok (.getfield 63, 3) := by decide +kernel
theorem dX11_of_55 : decode cX11_of 55 = .ok (.getfield 171, 3) := by decide +kernel
theorem dX11_of_58 : decode cX11_of 58 = .ok (.iload_n 1, 1) := by decide +kernel
theorem dX11_of_59 : decode cX11_of 59 = .ok (.iaload, 1) := by decide +kernel
theorem dX11_of_60 : decode cX11_of 60 = .ok (.ireturn, 1) := by decide +kernel
theorem dX11_of_61 : decode cX11_of 61 = .ok (.aload_n 0, 1) := by decide +kernel
theorem dX11_of_62 : decode cX11_of 62 = .ok (.getfield 10, 3) := by decide +kernel
theorem dX11_of_65 : decode cX11_of 65 = .ok (.getfield 63, 3) := by decide +kernel
theorem dX11_of_68 : decode cX11_of 68 = .ok (.getfield 174, 3) := by decide +kernel
theorem dX11_of_71 : decode cX11_of 71 = .ok (.iload_n 1, 1) := by decide +kernel
theorem dX11_of_72 : decode cX11_of 72 = .ok (.iaload, 1) := by decide +kernel
theorem dX11_of_73 : decode cX11_of 73 = .ok (.ireturn, 1) := by decide +kernel
theorem dX11_of_74 : decode cX11_of 74 = .ok (.aload_n 0, 1) := by decide +kernel
theorem dX11_of_75 : decode cX11_of 75 = .ok (.getfield 10, 3) := by decide +kernel
theorem dX11_of_78 : decode cX11_of 78 = .ok (.getfield 63, 3) := by decide +kernel
theorem dX11_of_81 : decode cX11_of 81 = .ok (.getfield 177, 3) := by decide +kernel
theorem dX11_of_84 : decode cX11_of 84 = .ok (.iload_n 1, 1) := by decide +kernel
theorem dX11_of_85 : decode cX11_of 85 = .ok (.iaload, 1) := by decide +kernel
theorem dX11_of_86 : decode cX11_of 86 = .ok (.ireturn, 1) := by decide +kernel
theorem dX11_of_87 : decode cX11_of 87 = .ok (.aload_n 0, 1) := by decide +kernel
theorem dX11_of_88 : decode cX11_of 88 = .ok (.getfield 10, 3) := by decide +kernel
theorem dX11_of_91 : decode cX11_of 91 = .ok (.getfield 180, 3) := by decide +kernel
theorem dX11_of_94 : decode cX11_of 94 = .ok (.iload_n 1, 1) := by decide +kernel
theorem dX11_of_95 : decode cX11_of 95 = .ok (.invokestatic 183, 3) := by decide +kernel
theorem dX11_of_98 : decode cX11_of 98 = .ok (.ireturn, 1) := by decide +kernel
theorem dX11_of_99 : decode cX11_of 99 = .ok (.aload_n 0, 1) := by decide +kernel
theorem dX11_of_100 : decode cX11_of 100 = .ok (.bipush (-2), 2) := by decide +kernel
theorem dX11_of_102 : decode cX11_of 102 = .ok (.invokevirtual 84, 3) := by decide +kernel
theorem dX11_of_105 : decode cX11_of 105 = .ok (.ireturn, 1) := by decide +kernel
theorem dX11_where_0 : decode cX11_where 0 = .ok (.iload_n 1, 1) := by decide +kernel
theorem dX11_where_1 : decode cX11_where 1 = .ok (.invokestatic 111, 3) := by decide +kernel
theorem dX11_where_4 : decode cX11_where 4 = .ok (.ifCond .eq 15, 3) := by decide +kernel
theorem dX11_where_7 : decode cX11_where 7 = .ok (.aload_n 0, 1) := by decide +kernel
theorem dX11_where_8 : decode cX11_where 8 = .ok (.getfield 10, 3) := by decide +kernel
theorem dX11_where_11 : decode cX11_where 11 = .ok (.getfield 142, 3) := by decide +kernel
theorem dX11_where_14 : decode cX11_where 14 = .ok (.iload_n 1, 1) := by decide +kernel
theorem dX11_where_15 : decode cX11_where 15 = .ok (.iaload, 1) := by decide +kernel
theorem dX11_where_16 : decode cX11_where 16 = .ok (.goto 9, 3) := by decide +kernel
theorem dX11_where_19 : decode cX11_where 19 = .ok (.aload_n 0, 1) := by decide +kernel
theorem dX11_where_20 : decode cX11_where 20 = .ok (.bipush (-2), 2) := by decide +kernel
theorem dX11_where_22 : decode cX11_where 22 = .ok (.invokevirtual 84, 3) := by decide +kernel
theorem dX11_where_25 : decode cX11_where 25 = .ok (.ireturn, 1) := by decide +kernel
theorem dX11_far_0 : decode cX11_far 0 = .ok (.iload_n 1, 1) := by decide +kernel
theorem dX11_far_1 : decode cX11_far 1 = .ok (.invokestatic 76, 3) := by decide +kernel
theorem dX11_far_4 : decode cX11_far 4 = .ok (.ifCond .eq 10, 3) := by decide +kernel
theorem dX11_far_7 : decode cX11_far 7 = .ok (.iload_n 2, 1) := by decide +kernel
theorem dX11_far_8 : decode cX11_far 8 = .ok (.invokestatic 76, 3) := by decide +kernel
theorem dX11_far_11 : decode cX11_far 11 = .ok (.ifCond .ne 10, 3) := by decide +kernel
theorem dX11_far_14 : decode cX11_far 14 = .ok (.aload_n 0, 1) := by decide +kernel
theorem dX11_far_15 : decode cX11_far 15 = .ok (.bipush (-2), 2) := by decide +kernel
theorem dX11_far_17 : decode cX11_far 17 = .ok (.invokevirtual 84, 3) := by decide +kernel
theorem dX11_far_20 : decode cX11_far 20 = .ok (.ireturn, 1) := by decide +kernel
theorem dX11_far_21 : decode cX11_far 21 = .ok (.aload_n 0, 1) := by decide +kernel
theorem dX11_far_22 : decode cX11_far 22 = .ok (.getfield 10, 3) := by decide +kernel
theorem dX11_far_25 : decode cX11_far 25 = .ok (.getfield 63, 3) := by decide +kernel
theorem dX11_far_28 : decode cX11_far 28 = .ok (.getfield 186, 3) := by decide +kernel
theorem dX11_far_31 : decode cX11_far 31 = .ok (.iload_n 1, 1) := by decide +kernel
theorem dX11_far_32 : decode cX11_far 32 = .ok (.iload_n 2, 1) := by decide +kernel
theorem dX11_far_33 : decode cX11_far 33 = .ok (.invokestatic 145, 3) := by decide +kernel
theorem dX11_far_36 : decode cX11_far 36 = .ok (.iaload, 1) := by decide +kernel
theorem dX11_far_37 : decode cX11_far 37 = .ok (.istore_n 3, 1) := by decide +kernel
theorem dX11_far_38 : decode cX11_far 38 = .ok (.iload_n 3, 1) := by decide +kernel
theorem dX11_far_39 : decode cX11_far 39 = .ok (.bipush 100, 2) := by decide +kernel
theorem dX11_far_41 : decode cX11_far 41 = .ok (.if_icmp .lt 7, 3) := by decide +kernel
theorem dX11_far_44 : decode cX11_far 44 = .ok (.iconst (-1), 1) := by decide +kernel
theorem dX11_far_45 : decode cX11_far 45 = .ok (.goto 4, 3) := by decide +kernel
theorem dX11_far_48 : decode cX11_far 48 = .ok (.iload_n 3, 1) := by decide +kernel
theorem dX11_far_49 : decode cX11_far 49 = .ok (.ireturn, 1) := by decide +kernel
theorem dX11_wakes_0 : decode cX11_wakes 0 = .ok (.iload_n 1, 1) := by decide +kernel
theorem dX11_wakes_1 : decode cX11_wakes 1 = .ok (.bipush 30, 2) := by decide +kernel
theorem dX11_wakes_3 : decode cX11_wakes 3 = .ok (.invokestatic 80, 3) := by decide +kernel
theorem dX11_wakes_6 : decode cX11_wakes 6 = .ok (.ifCond .eq 19, 3) := by decide +kernel
theorem dX11_wakes_9 : decode cX11_wakes 9 = .ok (.iload_n 2, 1) := by decide +kernel
theorem dX11_wakes_10 : decode cX11_wakes 10 = .ok (.invokestatic 76, 3) := by decide +kernel
theorem dX11_wakes_13 : decode cX11_wakes 13 = .ok (.ifCond .eq 12, 3) := by decide +kernel
theorem dX11_wakes_16 : decode cX11_wakes 16 = .ok (.iload_n 3, 1) := by decide +kernel
theorem dX11_wakes_17 : decode cX11_wakes 17 = .ok (.bipush 59, 2) := by decide +kernel
theorem dX11_wakes_19 : decode cX11_wakes 19 = .ok (.invokestatic 80, 3) := by decide +kernel
theorem dX11_wakes_22 : decode cX11_wakes 22 = .ok (.ifCond .ne 10, 3) := by decide +kernel
theorem dX11_wakes_25 : decode cX11_wakes 25 = .ok (.aload_n 0, 1) := by decide +kernel
theorem dX11_wakes_26 : decode cX11_wakes 26 = .ok (.bipush (-2), 2) := by decide +kernel
theorem dX11_wakes_28 : decode cX11_wakes 28 = .ok (.invokevirtual 84, 3) := by decide +kernel
theorem dX11_wakes_31 : decode cX11_wakes 31 = .ok (.ireturn, 1) := by decide +kernel
theorem dX11_wakes_32 : decode cX11_wakes 32 = .ok (.aload_n 0, 1) := by decide +kernel
theorem dX11_wakes_33 : decode cX11_wakes 33 = .ok (.getfield 10, 3) := by decide +kernel
theorem dX11_wakes_36 : decode cX11_wakes 36 = .ok (.getfield 63, 3) := by decide +kernel
theorem dX11_wakes_39 : decode cX11_wakes 39 = .ok (.iload_n 1, 1) := by decide +kernel
theorem dX11_wakes_40 : decode cX11_wakes 40 = .ok (.iload_n 2, 1) := by decide +kernel
theorem dX11_wakes_41 : decode cX11_wakes 41 = .ok (.iload_n 3, 1) := by decide +kernel
theorem dX11_wakes_42 : decode cX11_wakes 42 = .ok (.invokevirtual 189, 3) := by decide +kernel
theorem dX11_wakes_45 : decode cX11_wakes 45 = .ok (.ireturn, 1) := by decide +kernel
theorem dX11_loud_0 : decode cX11_loud 0 = .ok (.iload_n 1, 1) := by decide +kernel
theorem dX11_loud_1 : decode cX11_loud 1 = .ok (.invokestatic 76, 3) := by decide +kernel
theorem dX11_loud_4 : decode cX11_loud 4 = .ok (.ifCond .eq 12, 3) := by decide +kernel
theorem dX11_loud_7 : decode cX11_loud 7 = .ok (.iload_n 2, 1) := by decide +kernel
theorem dX11_loud_8 : decode cX11_loud 8 = .ok (.bipush 59, 2) := by decide +kernel
theorem dX11_loud_10 : decode cX11_loud 10 = .ok (.invokestatic 80, 3) := by decide +kernel
theorem dX11_loud_13 : decode cX11_loud 13 = .ok (.ifCond .ne 10, 3) := by decide +kernel
theorem dX11_loud_16 : decode cX11_loud 16 = .ok (.aload_n 0, 1) := by decide +kernel
theorem dX11_loud_17 : decode cX11_loud 17 = .ok (.bipush (-2), 2) := by decide +kernel
theorem dX11_loud_19 : decode cX11_loud 19 = .ok (.invokevirtual 84, 3) := by decide +kernel
theorem dX11_loud_22 : decode cX11_loud 22 = .ok (.ireturn, 1) := by decide +kernel
theorem dX11_loud_23 : decode cX11_loud 23 = .ok (.aload_n 0, 1) := by decide +kernel
theorem dX11_loud_24 : decode cX11_loud 24 = .ok (.getfield 10, 3) := by decide +kernel
theorem dX11_loud_27 : decode cX11_loud 27 = .ok (.getfield 63, 3) := by decide +kernel
theorem dX11_loud_30 : decode cX11_loud 30 = .ok (.iload_n 1, 1) := by decide +kernel
theorem dX11_loud_31 : decode cX11_loud 31 = .ok (.iload_n 2, 1) := by decide +kernel
theorem dX11_loud_32 : decode cX11_loud 32 = .ok (.invokevirtual 192, 3) := by decide +kernel
theorem dX11_loud_35 : decode cX11_loud 35 = .ok (.ireturn, 1) := by decide +kernel
theorem dX11_way_0 : decode cX11_way 0 = .ok (.iload_n 1, 1) := by decide +kernel
theorem dX11_way_1 : decode cX11_way 1 = .ok (.invokestatic 76, 3) := by decide +kernel
theorem dX11_way_4 : decode cX11_way 4 = .ok (.ifCond .eq 28, 3) := by decide +kernel
theorem dX11_way_7 : decode cX11_way 7 = .ok (.iload_n 2, 1) := by decide +kernel
theorem dX11_way_8 : decode cX11_way 8 = .ok (.invokestatic 76, 3) := by decide +kernel
theorem dX11_way_11 : decode cX11_way 11 = .ok (.ifCond .eq 21, 3) := by decide +kernel
theorem dX11_way_14 : decode cX11_way 14 = .ok (.iload_n 3, 1) := by decide +kernel
theorem dX11_way_15 : decode cX11_way 15 = .ok (.bipush 59, 2) := by decide +kernel
theorem dX11_way_17 : decode cX11_way 17 = .ok (.invokestatic 80, 3) := by decide +kernel
theorem dX11_way_20 : decode cX11_way 20 = .ok (.ifCond .eq 12, 3) := by decide +kernel
theorem dX11_way_23 : decode cX11_way 23 = .ok (.iload 4, 2) := by decide +kernel
theorem dX11_way_25 : decode cX11_way 25 = .ok (.iconst 1, 1) := by decide +kernel
theorem dX11_way_26 : decode cX11_way 26 = .ok (.invokestatic 80, 3) := by decide +kernel
theorem dX11_way_29 : decode cX11_way 29 = .ok (.ifCond .ne 10, 3) := by decide +kernel
theorem dX11_way_32 : decode cX11_way 32 = .ok (.aload_n 0, 1) := by decide +kernel
theorem dX11_way_33 : decode cX11_way 33 = .ok (.bipush (-2), 2) := by decide +kernel
theorem dX11_way_35 : decode cX11_way 35 = .ok (.invokevirtual 84, 3) := by decide +kernel
theorem dX11_way_38 : decode cX11_way 38 = .ok (.ireturn, 1) := by decide +kernel
theorem dX11_way_39 : decode cX11_way 39 = .ok (.aload_n 0, 1) := by decide +kernel
theorem dX11_way_40 : decode cX11_way 40 = .ok (.getfield 41, 3) := by decide +kernel
theorem dX11_way_43 : decode cX11_way 43 = .ok (.aload_n 0, 1) := by decide +kernel
theorem dX11_way_44 : decode cX11_way 44 = .ok (.getfield 10, 3) := by decide +kernel
theorem dX11_way_47 : decode cX11_way 47 = .ok (.getfield 63, 3) := by decide +kernel
theorem dX11_way_50 : decode cX11_way 50 = .ok (.iload_n 1, 1) := by decide +kernel
theorem dX11_way_51 : decode cX11_way 51 = .ok (.iload_n 2, 1) := by decide +kernel
theorem dX11_way_52 : decode cX11_way 52 = .ok (.iload_n 3, 1) := by decide +kernel
theorem dX11_way_53 : decode cX11_way 53 = .ok (.invokevirtual 195, 3) := by decide +kernel
theorem dX11_way_56 : decode cX11_way 56 = .ok (.istore 5, 2) := by decide +kernel
theorem dX11_way_58 : decode cX11_way 58 = .ok (.iload 4, 2) := by decide +kernel
theorem dX11_way_60 : decode cX11_way 60 = .ok (.ifCond .eq 9, 3) := by decide +kernel
theorem dX11_way_63 : decode cX11_way 63 = .ok (.iload 5, 2) := by decide +kernel
theorem dX11_way_65 : decode cX11_way 65 = .ok (.iconst (-1), 1) := by decide +kernel
theorem dX11_way_66 : decode cX11_way 66 = .ok (.if_icmp .ne 6, 3) := by decide +kernel
theorem dX11_way_69 : decode cX11_way 69 = .ok (.iload 5, 2) := by decide +kernel
theorem dX11_way_71 : decode cX11_way 71 = .ok (.ireturn, 1) := by decide +kernel
theorem dX11_way_72 : decode cX11_way 72 = .ok (.aload_n 0, 1) := by decide +kernel
theorem dX11_way_73 : decode cX11_way 73 = .ok (.getfield 41, 3) := by decide +kernel
theorem dX11_way_76 : decode cX11_way 76 = .ok (.aload_n 0, 1) := by decide +kernel
theorem dX11_way_77 : decode cX11_way 77 = .ok (.getfield 10, 3) := by decide +kernel
theorem dX11_way_80 : decode cX11_way 80 = .ok (.getfield 63, 3) := by decide +kernel
theorem dX11_way_83 : decode cX11_way 83 = .ok (.iload_n 1, 1) := by decide +kernel
theorem dX11_way_84 : decode cX11_way 84 = .ok (.iload_n 2, 1) := by decide +kernel
theorem dX11_way_85 : decode cX11_way 85 = .ok (.iload_n 3, 1) := by decide +kernel
theorem dX11_way_86 : decode cX11_way 86 = .ok (.iload 5, 2) := by decide +kernel
theorem dX11_way_88 : decode cX11_way 88 = .ok (.invokevirtual 199, 3) := by decide +kernel
theorem dX11_way_91 : decode cX11_way 91 = .ok (.ireturn, 1) := by decide +kernel
theorem dX11_softest_0 : decode cX11_softest 0 = .ok (.iload_n 1, 1) := by decide +kernel
theorem dX11_softest_1 : decode cX11_softest 1 = .ok (.invokestatic 76, 3) := by decide +kernel
theorem dX11_softest_4 : decode cX11_softest 4 = .ok (.ifCond .eq 10, 3) := by decide +kernel
theorem dX11_softest_7 : decode cX11_softest 7 = .ok (.iload_n 2, 1) := by decide +kernel
theorem dX11_softest_8 : decode cX11_softest 8 = .ok (.invokestatic 76, 3) := by decide +kernel
theorem dX11_softest_11 : decode cX11_softest 11 = .ok (.ifCond .ne 10, 3) := by decide +kernel
theorem dX11_softest_14 : decode cX11_softest 14 = .ok (.aload_n 0, 1) := by decide +kernel
theorem dX11_softest_15 : decode cX11_softest 15 = .ok (.bipush (-2), 2) := by decide +kernel
theorem dX11_softest_17 : decode cX11_softest 17 = .ok (.invokevirtual 84, 3) := by decide +kernel
theorem dX11_softest_20 : decode cX11_softest 20 = .ok (.ireturn, 1) := by decide +kernel
theorem dX11_softest_21 : decode cX11_softest 21 = .ok (.aload_n 0, 1) := by decide +kernel
theorem dX11_softest_22 : decode cX11_softest 22 = .ok (.getfield 41, 3) := by decide +kernel
theorem dX11_softest_25 : decode cX11_softest 25 = .ok (.aload_n 0, 1) := by decide +kernel
theorem dX11_softest_26 : decode cX11_softest 26 = .ok (.getfield 10, 3) := by decide +kernel
theorem dX11_softest_29 : decode cX11_softest 29 = .ok (.getfield 63, 3) := by decide +kernel
theorem dX11_softest_32 : decode cX11_softest 32 = .ok (.iload_n 1, 1) := by decide +kernel
theorem dX11_softest_33 : decode cX11_softest 33 = .ok (.iload_n 2, 1) := by decide +kernel
theorem dX11_softest_34 : decode cX11_softest 34 = .ok (.invokevirtual 203, 3) := by decide +kernel
theorem dX11_softest_37 : decode cX11_softest 37 = .ok (.ireturn, 1) := by decide +kernel
theorem dX11_schedule_0 : decode cX11_schedule 0 = .ok (.iload_n 1, 1) := by decide +kernel
theorem dX11_schedule_1 : decode cX11_schedule 1 = .ok (.invokestatic 76, 3) := by decide +kernel
theorem dX11_schedule_4 : decode cX11_schedule 4 = .ok (.ifCond .eq 10, 3) := by decide +kernel
theorem dX11_schedule_7 : decode cX11_schedule 7 = .ok (.iload_n 2, 1) := by decide +kernel
theorem dX11_schedule_8 : decode cX11_schedule 8 = .ok (.invokestatic 76, 3) := by decide +kernel
theorem dX11_schedule_11 : decode cX11_schedule 11 = .ok (.ifCond .ne 10, 3) := by decide +kernel
theorem dX11_schedule_14 : decode cX11_schedule 14 = .ok (.aload_n 0, 1) := by decide +kernel
theorem dX11_schedule_15 : decode cX11_schedule 15 = .ok (.bipush (-2), 2) := by decide +kernel
theorem dX11_schedule_17 : decode cX11_schedule 17 = .ok (.invokevirtual 84, 3) := by decide +kernel
theorem dX11_schedule_20 : decode cX11_schedule 20 = .ok (.ireturn, 1) := by decide +kernel
theorem dX11_schedule_21 : decode cX11_schedule 21 = .ok (.aload_n 0, 1) := by decide +kernel
theorem dX11_schedule_22 : decode cX11_schedule 22 = .ok (.getfield 41, 3) := by decide +kernel
theorem dX11_schedule_25 : decode cX11_schedule 25 = .ok (.aload_n 0, 1) := by decide +kernel
theorem dX11_schedule_26 : decode cX11_schedule 26 = .ok (.getfield 10, 3) := by decide +kernel
theorem dX11_schedule_29 : decode cX11_schedule 29 = .ok (.getfield 63, 3) := by decide +kernel
theorem dX11_schedule_32 : decode cX11_schedule 32 = .ok (.iload_n 1, 1) := by decide +kernel
theorem dX11_schedule_33 : decode cX11_schedule 33 = .ok (.iload_n 2, 1) := by decide +kernel
theorem dX11_schedule_34 : decode cX11_schedule 34 = .ok (.invokevirtual 207, 3) := by decide +kernel
theorem dX11_schedule_37 : decode cX11_schedule 37 = .ok (.ireturn, 1) := by decide +kernel
theorem dX11_owed_0 : decode cX11_owed 0 = .ok (.iload_n 1, 1) := by decide +kernel
theorem dX11_owed_1 : decode cX11_owed 1 = .ok (.invokestatic 111, 3) := by decide +kernel
theorem dX11_owed_4 : decode cX11_owed 4 = .ok (.ifCond .ne 10, 3) := by decide +kernel
theorem dX11_owed_7 : decode cX11_owed 7 = .ok (.aload_n 0, 1) := by decide +kernel
theorem dX11_owed_8 : decode cX11_owed 8 = .ok (.bipush (-2), 2) := by decide +kernel
theorem dX11_owed_10 : decode cX11_owed 10 = .ok (.invokevirtual 84, 3) := by decide +kernel
theorem dX11_owed_13 : decode cX11_owed 13 = .ok (.ireturn, 1) := by decide +kernel
theorem dX11_owed_14 : decode cX11_owed 14 = .ok (.iconst 0, 1) := by decide +kernel
theorem dX11_owed_15 : decode cX11_owed 15 = .ok (.istore_n 2, 1) := by decide +kernel
theorem dX11_owed_16 : decode cX11_owed 16 = .ok (.iconst 0, 1) := by decide +kernel
theorem dX11_owed_17 : decode cX11_owed 17 = .ok (.istore_n 3, 1) := by decide +kernel
theorem dX11_owed_18 : decode cX11_owed 18 = .ok (.iload_n 3, 1) := by decide +kernel
theorem dX11_owed_19 : decode cX11_owed 19 = .ok (.aload_n 0, 1) := by decide +kernel
theorem dX11_owed_20 : decode cX11_owed 20 = .ok (.getfield 10, 3) := by decide +kernel
theorem dX11_owed_23 : decode cX11_owed 23 = .ok (.getfield 63, 3) := by decide +kernel
theorem dX11_owed_26 : decode cX11_owed 26 = .ok (.getfield 102, 3) := by decide +kernel
theorem dX11_owed_29 : decode cX11_owed 29 = .ok (.if_icmp .ge 30, 3) := by decide +kernel
theorem dX11_owed_32 : decode cX11_owed 32 = .ok (.aload_n 0, 1) := by decide +kernel
theorem dX11_owed_33 : decode cX11_owed 33 = .ok (.getfield 10, 3) := by decide +kernel
theorem dX11_owed_36 : decode cX11_owed 36 = .ok (.getfield 63, 3) := by decide +kernel
theorem dX11_owed_39 : decode cX11_owed 39 = .ok (.iload_n 3, 1) := by decide +kernel
theorem dX11_owed_40 : decode cX11_owed 40 = .ok (.iload_n 1, 1) := by decide +kernel
theorem dX11_owed_41 : decode cX11_owed 41 = .ok (.invokevirtual 210, 3) := by decide +kernel
theorem dX11_owed_44 : decode cX11_owed 44 = .ok (.ifCond .eq 9, 3) := by decide +kernel
theorem dX11_owed_47 : decode cX11_owed 47 = .ok (.iload_n 2, 1) := by decide +kernel
theorem dX11_owed_48 : decode cX11_owed 48 = .ok (.iconst 1, 1) := by decide +kernel
theorem dX11_owed_49 : decode cX11_owed 49 = .ok (.iload_n 3, 1) := by decide +kernel
theorem dX11_owed_50 : decode cX11_owed 50 = .ok (.ishl, 1) := by decide +kernel
theorem dX11_owed_51 : decode cX11_owed 51 = .ok (.ior, 1) := by decide +kernel
theorem dX11_owed_52 : decode cX11_owed 52 = .ok (.istore_n 2, 1) := by decide +kernel
theorem dX11_owed_53 : decode cX11_owed 53 = .ok (.iinc 3 1, 3) := by decide +kernel
theorem dX11_owed_56 : decode cX11_owed 56 = .ok (.goto (-38), 3) := by decide +kernel
theorem dX11_owed_59 : decode cX11_owed 59 = .ok (.iload_n 2, 1) := by decide +kernel
theorem dX11_owed_60 : decode cX11_owed 60 = .ok (.ireturn, 1) := by decide +kernel
theorem dX11_took_0 : decode cX11_took 0 = .ok (.aload_n 0, 1) := by decide +kernel
theorem dX11_took_1 : decode cX11_took 1 = .ok (.iload_n 1, 1) := by decide +kernel
theorem dX11_took_2 : decode cX11_took 2 = .ok (.invokevirtual 108, 3) := by decide +kernel
theorem dX11_took_5 : decode cX11_took 5 = .ok (.ifCond .eq 17, 3) := by decide +kernel
theorem dX11_took_8 : decode cX11_took 8 = .ok (.aload_n 0, 1) := by decide +kernel
theorem dX11_took_9 : decode cX11_took 9 = .ok (.getfield 10, 3) := by decide +kernel
theorem dX11_took_12 : decode cX11_took 12 = .ok (.getfield 63, 3) := by decide +kernel
theorem dX11_took_15 : decode cX11_took 15 = .ok (.iload_n 1, 1) := by decide +kernel
theorem dX11_took_16 : decode cX11_took 16 = .ok (.invokevirtual 114, 3) := by decide +kernel
theorem dX11_took_19 : decode cX11_took 19 = .ok (.goto 9, 3) := by decide +kernel
theorem dX11_took_22 : decode cX11_took 22 = .ok (.aload_n 0, 1) := by decide +kernel
theorem dX11_took_23 : decode cX11_took 23 = .ok (.bipush (-2), 2) := by decide +kernel
theorem dX11_took_25 : decode cX11_took 25 = .ok (.invokevirtual 84, 3) := by decide +kernel
theorem dX11_took_28 : decode cX11_took 28 = .ok (.ireturn, 1) := by decide +kernel
theorem dX11_canNot_0 : decode cX11_canNot 0 = .ok (.aload_n 0, 1) := by decide +kernel
theorem dX11_canNot_1 : decode cX11_canNot 1 = .ok (.getfield 41, 3) := by decide +kernel
theorem dX11_canNot_4 : decode cX11_canNot 4 = .ok (.aload_n 0, 1) := by decide +kernel
theorem dX11_canNot_5 : decode cX11_canNot 5 = .ok (.getfield 10, 3) := by decide +kernel
theorem dX11_canNot_8 : decode cX11_canNot 8 = .ok (.getfield 63, 3) := by decide +kernel
theorem dX11_canNot_11 : decode cX11_canNot 11 = .ok (.invokevirtual 213, 3) := by decide +kernel
theorem dX11_canNot_14 : decode cX11_canNot 14 = .ok (.istore_n 1, 1) := by decide +kernel
theorem dX11_canNot_15 : decode cX11_canNot 15 = .ok (.iconst 0, 1) := by decide +kernel
theorem dX11_canNot_16 : decode cX11_canNot 16 = .ok (.istore_n 2, 1) := by decide +kernel
theorem dX11_canNot_17 : decode cX11_canNot 17 = .ok (.iconst 0, 1) := by decide +kernel
theorem dX11_canNot_18 : decode cX11_canNot 18 = .ok (.istore_n 3, 1) := by decide +kernel
theorem dX11_canNot_19 : decode cX11_canNot 19 = .ok (.iload_n 3, 1) := by decide +kernel
theorem dX11_canNot_20 : decode cX11_canNot 20 = .ok (.aload_n 0, 1) := by decide +kernel
theorem dX11_canNot_21 : decode cX11_canNot 21 = .ok (.getfield 10, 3) := by decide +kernel
theorem dX11_canNot_24 : decode cX11_canNot 24 = .ok (.getfield 63, 3) := by decide +kernel
theorem dX11_canNot_27 : decode cX11_canNot 27 = .ok (.getfield 102, 3) := by decide +kernel
theorem dX11_canNot_30 : decode cX11_canNot 30 = .ok (.if_icmp .ge 34, 3) := by decide +kernel
theorem dX11_canNot_33 : decode cX11_canNot 33 = .ok (.iload_n 1, 1) := by decide +kernel
theorem dX11_canNot_34 : decode cX11_canNot 34 = .ok (.aload_n 0, 1) := by decide +kernel
theorem dX11_canNot_35 : decode cX11_canNot 35 = .ok (.getfield 10, 3) := by decide +kernel
theorem dX11_canNot_38 : decode cX11_canNot 38 = .ok (.getfield 63, 3) := by decide +kernel
theorem dX11_canNot_41 : decode cX11_canNot 41 = .ok (.getfield 216, 3) := by decide +kernel
theorem dX11_canNot_44 : decode cX11_canNot 44 = .ok (.iload_n 3, 1) := by decide +kernel
theorem dX11_canNot_45 : decode cX11_canNot 45 = .ok (.iaload, 1) := by decide +kernel
theorem dX11_canNot_46 : decode cX11_canNot 46 = .ok (.invokestatic 183, 3) := by decide +kernel
theorem dX11_canNot_49 : decode cX11_canNot 49 = .ok (.ifCond .ne 9, 3) := by decide +kernel
theorem dX11_canNot_52 : decode cX11_canNot 52 = .ok (.iload_n 2, 1) := by decide +kernel
theorem dX11_canNot_53 : decode cX11_canNot 53 = .ok (.iconst 1, 1) := by decide +kernel
theorem dX11_canNot_54 : decode cX11_canNot 54 = .ok (.iload_n 3, 1) := by decide +kernel
theorem dX11_canNot_55 : decode cX11_canNot 55 = .ok (.ishl, 1) := by decide +kernel
theorem dX11_canNot_56 : decode cX11_canNot 56 = .ok (.ior, 1) := by decide +kernel
theorem dX11_canNot_57 : decode cX11_canNot 57 = .ok (.istore_n 2, 1) := by decide +kernel
theorem dX11_canNot_58 : decode cX11_canNot 58 = .ok (.iinc 3 1, 3) := by decide +kernel
theorem dX11_canNot_61 : decode cX11_canNot 61 = .ok (.goto (-42), 3) := by decide +kernel
theorem dX11_canNot_64 : decode cX11_canNot 64 = .ok (.iload_n 2, 1) := by decide +kernel
theorem dX11_canNot_65 : decode cX11_canNot 65 = .ok (.ireturn, 1) := by decide +kernel
theorem dX11_heard_0 : decode cX11_heard 0 = .ok (.aload_n 0, 1) := by decide +kernel
theorem dX11_heard_1 : decode cX11_heard 1 = .ok (.iload_n 1, 1) := by decide +kernel
theorem dX11_heard_2 : decode cX11_heard 2 = .ok (.invokevirtual 168, 3) := by decide +kernel
theorem dX11_heard_5 : decode cX11_heard 5 = .ok (.ifCond .eq 20, 3) := by decide +kernel
theorem dX11_heard_8 : decode cX11_heard 8 = .ok (.iload_n 2, 1) := by decide +kernel
theorem dX11_heard_9 : decode cX11_heard 9 = .ok (.bipush 12, 2) := by decide +kernel
theorem dX11_heard_11 : decode cX11_heard 11 = .ok (.invokestatic 80, 3) := by decide +kernel
theorem dX11_heard_14 : decode cX11_heard 14 = .ok (.ifCond .eq 11, 3) := by decide +kernel
theorem dX11_heard_17 : decode cX11_heard 17 = .ok (.iload_n 3, 1) := by decide +kernel
theorem dX11_heard_18 : decode cX11_heard 18 = .ok (.iconst 1, 1) := by decide +kernel
theorem dX11_heard_19 : decode cX11_heard 19 = .ok (.invokestatic 80, 3) := by decide +kernel
theorem dX11_heard_22 : decode cX11_heard 22 = .ok (.ifCond .ne 10, 3) := by decide +kernel
theorem dX11_heard_25 : decode cX11_heard 25 = .ok (.aload_n 0, 1) := by decide +kernel
theorem dX11_heard_26 : decode cX11_heard 26 = .ok (.bipush (-2), 2) := by decide +kernel
theorem dX11_heard_28 : decode cX11_heard 28 = .ok (.invokevirtual 84, 3) := by decide +kernel
theorem dX11_heard_31 : decode cX11_heard 31 = .ok (.ireturn, 1) := by decide +kernel
theorem dX11_heard_32 : decode cX11_heard 32 = .ok (.aload_n 0, 1) := by decide +kernel
theorem dX11_heard_33 : decode cX11_heard 33 = .ok (.getfield 10, 3) := by decide +kernel
theorem dX11_heard_36 : decode cX11_heard 36 = .ok (.getfield 219, 3) := by decide +kernel
theorem dX11_heard_39 : decode cX11_heard 39 = .ok (.bipush 6, 2) := by decide +kernel
theorem dX11_heard_41 : decode cX11_heard 41 = .ok (.if_icmp .lt 8, 3) := by decide +kernel
theorem dX11_heard_44 : decode cX11_heard 44 = .ok (.aload_n 0, 1) := by decide +kernel
theorem dX11_heard_45 : decode cX11_heard 45 = .ok (.invokevirtual 92, 3) := by decide +kernel
theorem dX11_heard_48 : decode cX11_heard 48 = .ok (.ireturn, 1) := by decide +kernel
theorem dX11_heard_49 : decode cX11_heard 49 = .ok (.aload_n 0, 1) := by decide +kernel
theorem dX11_heard_50 : decode cX11_heard 50 = .ok (.getfield 10, 3) := by decide +kernel
theorem dX11_heard_53 : decode cX11_heard 53 = .ok (.iload_n 1, 1) := by decide +kernel
theorem dX11_heard_54 : decode cX11_heard 54 = .ok (.iload_n 2, 1) := by decide +kernel
theorem dX11_heard_55 : decode cX11_heard 55 = .ok (.iload_n 3, 1) := by decide +kernel
theorem dX11_heard_56 : decode cX11_heard 56 = .ok (.invokevirtual 222, 3) := by decide +kernel
theorem dX11_heard_59 : decode cX11_heard 59 = .ok (.ireturn, 1) := by decide +kernel
theorem dX11_forget_0 : decode cX11_forget 0 = .ok (.aload_n 0, 1) := by decide +kernel
theorem dX11_forget_1 : decode cX11_forget 1 = .ok (.getfield 10, 3) := by decide +kernel
theorem dX11_forget_4 : decode cX11_forget 4 = .ok (.getfield 219, 3) := by decide +kernel
theorem dX11_forget_7 : decode cX11_forget 7 = .ok (.istore_n 1, 1) := by decide +kernel
theorem dX11_forget_8 : decode cX11_forget 8 = .ok (.aload_n 0, 1) := by decide +kernel
theorem dX11_forget_9 : decode cX11_forget 9 = .ok (.getfield 10, 3) := by decide +kernel
theorem dX11_forget_12 : decode cX11_forget 12 = .ok (.iconst 0, 1) := by decide +kernel
theorem dX11_forget_13 : decode cX11_forget 13 = .ok (.putfield 219, 3) := by decide +kernel
theorem dX11_forget_16 : decode cX11_forget 16 = .ok (.iload_n 1, 1) := by decide +kernel
theorem dX11_forget_17 : decode cX11_forget 17 = .ok (.ireturn, 1) := by decide +kernel
theorem dX11_may_0 : decode cX11_may 0 = .ok (.iload_n 1, 1) := by decide +kernel
theorem dX11_may_1 : decode cX11_may 1 = .ok (.bipush 12, 2) := by decide +kernel
theorem dX11_may_3 : decode cX11_may 3 = .ok (.invokestatic 80, 3) := by decide +kernel
theorem dX11_may_6 : decode cX11_may 6 = .ok (.ifCond .ne 10, 3) := by decide +kernel
theorem dX11_may_9 : decode cX11_may 9 = .ok (.aload_n 0, 1) := by decide +kernel
theorem dX11_may_10 : decode cX11_may 10 = .ok (.bipush (-2), 2) := by decide +kernel
theorem dX11_may_12 : decode cX11_may 12 = .ok (.invokevirtual 84, 3) := by decide +kernel
theorem dX11_may_15 : decode cX11_may 15 = .ok (.ireturn, 1) := by decide +kernel
theorem dX11_may_16 : decode cX11_may 16 = .ok (.aload_n 0, 1) := by decide +kernel
theorem dX11_may_17 : decode cX11_may 17 = .ok (.getfield 48, 3) := by decide +kernel
theorem dX11_may_20 : decode cX11_may 20 = .ok (.aload_n 0, 1) := by decide +kernel
theorem dX11_may_21 : decode cX11_may 21 = .ok (.getfield 10, 3) := by decide +kernel
theorem dX11_may_24 : decode cX11_may 24 = .ok (.invokevirtual 225, 3) := by decide +kernel
theorem dX11_may_27 : decode cX11_may 27 = .ok (.aload_n 0, 1) := by decide +kernel
theorem dX11_may_28 : decode cX11_may 28 = .ok (.getfield 48, 3) := by decide +kernel
theorem dX11_may_31 : decode cX11_may 31 = .ok (.iload_n 1, 1) := by decide +kernel
theorem dX11_may_32 : decode cX11_may 32 = .ok (.invokevirtual 229, 3) := by decide +kernel
theorem dX11_may_35 : decode cX11_may 35 = .ok (.ireturn, 1) := by decide +kernel
theorem dX11_ways_0 : decode cX11_ways 0 = .ok (.aload_n 0, 1) := by decide +kernel
theorem dX11_ways_1 : decode cX11_ways 1 = .ok (.getfield 48, 3) := by decide +kernel
theorem dX11_ways_4 : decode cX11_ways 4 = .ok (.aload_n 0, 1) := by decide +kernel
theorem dX11_ways_5 : decode cX11_ways 5 = .ok (.getfield 10, 3) := by decide +kernel
theorem dX11_ways_8 : decode cX11_ways 8 = .ok (.invokevirtual 225, 3) := by decide +kernel
theorem dX11_ways_11 : decode cX11_ways 11 = .ok (.aload_n 0, 1) := by decide +kernel
theorem dX11_ways_12 : decode cX11_ways 12 = .ok (.getfield 48, 3) := by decide +kernel
theorem dX11_ways_15 : decode cX11_ways 15 = .ok (.invokevirtual 232, 3) := by decide +kernel
theorem dX11_ways_18 : decode cX11_ways 18 = .ok (.lreturn, 1) := by decide +kernel
theorem dX11_listen_0 : decode cX11_listen 0 = .ok (.iload_n 1, 1) := by decide +kernel
theorem dX11_listen_1 : decode cX11_listen 1 = .ok (.bipush 11, 2) := by decide +kernel
theorem dX11_listen_3 : decode cX11_listen 3 = .ok (.invokestatic 80, 3) := by decide +kernel
theorem dX11_listen_6 : decode cX11_listen 6 = .ok (.ifCond .ne 10, 3) := by decide +kernel
theorem dX11_listen_9 : decode cX11_listen 9 = .ok (.aload_n 0, 1) := by decide +kernel
theorem dX11_listen_10 : decode cX11_listen 10 = .ok (.bipush (-2), 2) := by decide +kernel
theorem dX11_listen_12 : decode cX11_listen 12 = .ok (.invokevirtual 84, 3) := by decide +kernel
theorem dX11_listen_15 : decode cX11_listen 15 = .ok (.ireturn, 1) := by decide +kernel
theorem dX11_listen_16 : decode cX11_listen 16 = .ok (.aload_n 0, 1) := by decide +kernel
theorem dX11_listen_17 : decode cX11_listen 17 = .ok (.getfield 48, 3) := by decide +kernel
theorem dX11_listen_20 : decode cX11_listen 20 = .ok (.aload_n 0, 1) := by decide +kernel
theorem dX11_listen_21 : decode cX11_listen 21 = .ok (.getfield 10, 3) := by decide +kernel
theorem dX11_listen_24 : decode cX11_listen 24 = .ok (.invokevirtual 225, 3) := by decide +kernel
theorem dX11_listen_27 : decode cX11_listen 27 = .ok (.aload_n 0, 1) := by decide +kernel
theorem dX11_listen_28 : decode cX11_listen 28 = .ok (.getfield 48, 3) := by decide +kernel
theorem dX11_listen_31 : decode cX11_listen 31 = .ok (.aload_n 0, 1) := by decide +kernel
theorem dX11_listen_32 : decode cX11_listen 32 = .ok (.getfield 10, 3) := by decide +kernel
theorem dX11_listen_35 : decode cX11_listen 35 = .ok (.getfield 63, 3) := by decide +kernel
theorem dX11_listen_38 : decode cX11_listen 38 = .ok (.iload_n 1, 1) := by decide +kernel
theorem dX11_listen_39 : decode cX11_listen 39 = .ok (.invokevirtual 236, 3) := by decide +kernel
theorem dX11_listen_42 : decode cX11_listen 42 = .ok (.ireturn, 1) := by decide +kernel
theorem dX11_clocks_0 : decode cX11_clocks 0 = .ok (.iload_n 1, 1) := by decide +kernel
theorem dX11_clocks_1 : decode cX11_clocks 1 = .ok (.invokestatic 76, 3) := by decide +kernel
theorem dX11_clocks_4 : decode cX11_clocks 4 = .ok (.ifCond .eq 20, 3) := by decide +kernel
theorem dX11_clocks_7 : decode cX11_clocks 7 = .ok (.iload_n 2, 1) := by decide +kernel
theorem dX11_clocks_8 : decode cX11_clocks 8 = .ok (.bipush 10, 2) := by decide +kernel
theorem dX11_clocks_10 : decode cX11_clocks 10 = .ok (.invokestatic 80, 3) := by decide +kernel
theorem dX11_clocks_13 : decode cX11_clocks 13 = .ok (.ifCond .eq 11, 3) := by decide +kernel
theorem dX11_clocks_16 : decode cX11_clocks 16 = .ok (.iload_n 3, 1) := by decide +kernel
theorem dX11_clocks_17 : decode cX11_clocks 17 = .ok (.iconst 5, 1) := by decide +kernel
theorem dX11_clocks_18 : decode cX11_clocks 18 = .ok (.invokestatic 80, 3) := by decide +kernel
theorem dX11_clocks_21 : decode cX11_clocks 21 = .ok (.ifCond .ne 10, 3) := by decide +kernel
theorem dX11_clocks_24 : decode cX11_clocks 24 = .ok (.aload_n 0, 1) := by decide +kernel
theorem dX11_clocks_25 : decode cX11_clocks 25 = .ok (.bipush (-2), 2) := by decide +kernel
theorem dX11_clocks_27 : decode cX11_clocks 27 = .ok (.invokevirtual 84, 3) := by decide +kernel
theorem dX11_clocks_30 : decode cX11_clocks 30 = .ok (.ireturn, 1) := by decide +kernel
theorem dX11_clocks_31 : decode cX11_clocks 31 = .ok (.aload_n 0, 1) := by decide +kernel
theorem dX11_clocks_32 : decode cX11_clocks 32 = .ok (.getfield 10, 3) := by decide +kernel
theorem dX11_clocks_35 : decode cX11_clocks 35 = .ok (.getfield 180, 3) := by decide +kernel
theorem dX11_clocks_38 : decode cX11_clocks 38 = .ok (.aload_n 0, 1) := by decide +kernel
theorem dX11_clocks_39 : decode cX11_clocks 39 = .ok (.getfield 10, 3) := by decide +kernel
theorem dX11_clocks_42 : decode cX11_clocks 42 = .ok (.getfield 63, 3) := by decide +kernel
theorem dX11_clocks_45 : decode cX11_clocks 45 = .ok (.bipush 9, 2) := by decide +kernel
theorem dX11_clocks_47 : decode cX11_clocks 47 = .ok (.iload_n 1, 1) := by decide +kernel
theorem dX11_clocks_48 : decode cX11_clocks 48 = .ok (.aload_n 0, 1) := by decide +kernel
theorem dX11_clocks_49 : decode cX11_clocks 49 = .ok (.getfield 10, 3) := by decide +kernel
theorem dX11_clocks_52 : decode cX11_clocks 52 = .ok (.getfield 157, 3) := by decide +kernel
theorem dX11_clocks_55 : decode cX11_clocks 55 = .ok (.invokevirtual 189, 3) := by decide +kernel
theorem dX11_clocks_58 : decode cX11_clocks 58 = .ok (.ior, 1) := by decide +kernel
theorem dX11_clocks_59 : decode cX11_clocks 59 = .ok (.istore 4, 2) := by decide +kernel
theorem dX11_clocks_61 : decode cX11_clocks 61 = .ok (.aload_n 0, 1) := by decide +kernel
theorem dX11_clocks_62 : decode cX11_clocks 62 = .ok (.iload 4, 2) := by decide +kernel
theorem dX11_clocks_64 : decode cX11_clocks 64 = .ok (.iload_n 2, 1) := by decide +kernel
theorem dX11_clocks_65 : decode cX11_clocks 65 = .ok (.invokevirtual 240, 3) := by decide +kernel
theorem dX11_clocks_68 : decode cX11_clocks 68 = .ok (.lconst 0, 1) := by decide +kernel
theorem dX11_clocks_69 : decode cX11_clocks 69 = .ok (.lstore 5, 2) := by decide +kernel
theorem dX11_clocks_71 : decode cX11_clocks 71 = .ok (.iconst 0, 1) := by decide +kernel
theorem dX11_clocks_72 : decode cX11_clocks 72 = .ok (.istore 7, 2) := by decide +kernel
theorem dX11_clocks_74 : decode cX11_clocks 74 = .ok (.iload 7, 2) := by decide +kernel
theorem dX11_clocks_76 : decode cX11_clocks 76 = .ok (.iload_n 3, 1) := by decide +kernel
theorem dX11_clocks_77 : decode cX11_clocks 77 = .ok (.if_icmp .gt 21, 3) := by decide +kernel
theorem dX11_clocks_80 : decode cX11_clocks 80 = .ok (.lload 5, 2) := by decide +kernel
theorem dX11_clocks_82 : decode cX11_clocks 82 = .ok (.aload_n 0, 1) := by decide +kernel
theorem dX11_clocks_83 : decode cX11_clocks 83 = .ok (.getfield 52, 3) := by decide +kernel
theorem dX11_clocks_86 : decode cX11_clocks 86 = .ok (.iload 7, 2) := by decide +kernel
theorem dX11_clocks_88 : decode cX11_clocks 88 = .ok (.laload, 1) := by decide +kernel
theorem dX11_clocks_89 : decode cX11_clocks 89 = .ok (.ladd, 1) := by decide +kernel
theorem dX11_clocks_90 : decode cX11_clocks 90 = .ok (.lstore 5, 2) := by decide +kernel
theorem dX11_clocks_92 : decode cX11_clocks 92 = .ok (.iinc 7 1, 3) := by decide +kernel
theorem dX11_clocks_95 : decode cX11_clocks 95 = .ok (.goto (-21), 3) := by decide +kernel
theorem dX11_clocks_98 : decode cX11_clocks 98 = .ok (.lconst 1, 1) := by decide +kernel
theorem dX11_clocks_99 : decode cX11_clocks 99 = .ok (.lstore 7, 2) := by decide +kernel
theorem dX11_clocks_101 : decode cX11_clocks 101 = .ok (.iload 4, 2) := by decide +kernel
theorem dX11_clocks_103 : decode cX11_clocks 103 = .ok (.invokestatic 244, 3) := by decide +kernel
theorem dX11_clocks_106 : decode cX11_clocks 106 = .ok (.istore 9, 2) := by decide +kernel
theorem dX11_clocks_108 : decode cX11_clocks 108 = .ok (.iload 9, 2) := by decide +kernel
theorem dX11_clocks_110 : decode cX11_clocks 110 = .ok (.aload_n 0, 1) := by decide +kernel
theorem dX11_clocks_111 : decode cX11_clocks 111 = .ok (.getfield 10, 3) := by decide +kernel
theorem dX11_clocks_114 : decode cX11_clocks 114 = .ok (.getfield 63, 3) := by decide +kernel
theorem dX11_clocks_117 : decode cX11_clocks 117 = .ok (.getfield 66, 3) := by decide +kernel
theorem dX11_clocks_120 : decode cX11_clocks 120 = .ok (.if_icmp .ge 17, 3) := by decide +kernel
theorem dX11_clocks_123 : decode cX11_clocks 123 = .ok (.lload 7, 2) := by decide +kernel
theorem dX11_clocks_125 : decode cX11_clocks 125 = .ok (.ldc2_w 249, 3) := by decide +kernel
theorem dX11_clocks_128 : decode cX11_clocks 128 = .ok (.lmul, 1) := by decide +kernel
theorem dX11_clocks_129 : decode cX11_clocks 129 = .ok (.lstore 7, 2) := by decide +kernel
theorem dX11_clocks_131 : decode cX11_clocks 131 = .ok (.iinc 9 1, 3) := by decide +kernel
theorem dX11_clocks_134 : decode cX11_clocks 134 = .ok (.goto (-26), 3) := by decide +kernel
theorem dX11_clocks_137 : decode cX11_clocks 137 = .ok (.aload_n 0, 1) := by decide +kernel
theorem dX11_clocks_138 : decode cX11_clocks 138 = .ok (.lload 5, 2) := by decide +kernel
theorem dX11_clocks_140 : decode cX11_clocks 140 = .ok (.lload 7, 2) := by decide +kernel
theorem dX11_clocks_142 : decode cX11_clocks 142 = .ok (.invokevirtual 251, 3) := by decide +kernel
theorem dX11_clocks_145 : decode cX11_clocks 145 = .ok (.iconst 1, 1) := by decide +kernel
theorem dX11_clocks_146 : decode cX11_clocks 146 = .ok (.ireturn, 1) := by decide +kernel
theorem dX11_nights_0 : decode cX11_nights 0 = .ok (.iload_n 1, 1) := by decide +kernel
theorem dX11_nights_1 : decode cX11_nights 1 = .ok (.ldc 255, 2) := by decide +kernel
theorem dX11_nights_3 : decode cX11_nights 3 = .ok (.invokestatic 80, 3) := by decide +kernel
theorem dX11_nights_6 : decode cX11_nights 6 = .ok (.ifCond .eq 12, 3) := by decide +kernel
theorem dX11_nights_9 : decode cX11_nights 9 = .ok (.iload_n 2, 1) := by decide +kernel
theorem dX11_nights_10 : decode cX11_nights 10 = .ok (.bipush 59, 2) := by decide +kernel
theorem dX11_nights_12 : decode cX11_nights 12 = .ok (.invokestatic 80, 3) := by decide +kernel
theorem dX11_nights_15 : decode cX11_nights 15 = .ok (.ifCond .ne 10, 3) := by decide +kernel
theorem dX11_nights_18 : decode cX11_nights 18 = .ok (.aload_n 0, 1) := by decide +kernel
theorem dX11_nights_19 : decode cX11_nights 19 = .ok (.bipush (-2), 2) := by decide +kernel
theorem dX11_nights_21 : decode cX11_nights 21 = .ok (.invokevirtual 84, 3) := by decide +kernel
theorem dX11_nights_24 : decode cX11_nights 24 = .ok (.ireturn, 1) := by decide +kernel
theorem dX11_nights_25 : decode cX11_nights 25 = .ok (.aload_n 0, 1) := by decide +kernel
theorem dX11_nights_26 : decode cX11_nights 26 = .ok (.getfield 10, 3) := by decide +kernel
theorem dX11_nights_29 : decode cX11_nights 29 = .ok (.iload_n 1, 1) := by decide +kernel
theorem dX11_nights_30 : decode cX11_nights 30 = .ok (.iload_n 2, 1) := by decide +kernel
theorem dX11_nights_31 : decode cX11_nights 31 = .ok (.invokevirtual 256, 3) := by decide +kernel
theorem dX11_nights_34 : decode cX11_nights 34 = .ok (.ireturn, 1) := by decide +kernel
theorem dX11_part_0 : decode cX11_part 0 = .ok (.iload_n 1, 1) := by decide +kernel
theorem dX11_part_1 : decode cX11_part 1 = .ok (.iconst 1, 1) := by decide +kernel
theorem dX11_part_2 : decode cX11_part 2 = .ok (.invokestatic 80, 3) := by decide +kernel
theorem dX11_part_5 : decode cX11_part 5 = .ok (.ifCond .ne 11, 3) := by decide +kernel
theorem dX11_part_8 : decode cX11_part 8 = .ok (.aload_n 0, 1) := by decide +kernel
theorem dX11_part_9 : decode cX11_part 9 = .ok (.bipush (-2), 2) := by decide +kernel
theorem dX11_part_11 : decode cX11_part 11 = .ok (.invokevirtual 84, 3) := by decide +kernel
theorem dX11_part_14 : decode cX11_part 14 = .ok (.i2l, 1) := by decide +kernel
theorem dX11_part_15 : decode cX11_part 15 = .ok (.lreturn, 1) := by decide +kernel
theorem dX11_part_16 : decode cX11_part 16 = .ok (.iload_n 1, 1) := by decide +kernel
theorem dX11_part_17 : decode cX11_part 17 = .ok (.ifCond .ne 10, 3) := by decide +kernel
theorem dX11_part_20 : decode cX11_part 20 = .ok (.aload_n 0, 1) := by decide +kernel
theorem dX11_part_21 : decode cX11_part 21 = .ok (.getfield 56, 3) := by decide +kernel
theorem dX11_part_24 : decode cX11_part 24 = .ok (.goto 7, 3) := by decide +kernel
theorem dX11_part_27 : decode cX11_part 27 = .ok (.aload_n 0, 1) := by decide +kernel
theorem dX11_part_28 : decode cX11_part 28 = .ok (.getfield 60, 3) := by decide +kernel
theorem dX11_part_31 : decode cX11_part 31 = .ok (.lreturn, 1) := by decide +kernel
theorem dX11_image_0 : decode cX11_image 0 = .ok (.iload_n 1, 1) := by decide +kernel
theorem dX11_image_1 : decode cX11_image 1 = .ok (.iconst 1, 1) := by decide +kernel
theorem dX11_image_2 : decode cX11_image 2 = .ok (.invokestatic 80, 3) := by decide +kernel
theorem dX11_image_5 : decode cX11_image 5 = .ok (.ifCond .ne 10, 3) := by decide +kernel
theorem dX11_image_8 : decode cX11_image 8 = .ok (.aload_n 0, 1) := by decide +kernel
theorem dX11_image_9 : decode cX11_image 9 = .ok (.bipush (-2), 2) := by decide +kernel
theorem dX11_image_11 : decode cX11_image 11 = .ok (.invokevirtual 84, 3) := by decide +kernel
theorem dX11_image_14 : decode cX11_image 14 = .ok (.ireturn, 1) := by decide +kernel
theorem dX11_image_15 : decode cX11_image 15 = .ok (.aload_n 0, 1) := by decide +kernel
theorem dX11_image_16 : decode cX11_image 16 = .ok (.getfield 16, 3) := by decide +kernel
theorem dX11_image_19 : decode cX11_image 19 = .ok (.iload_n 1, 1) := by decide +kernel
theorem dX11_image_20 : decode cX11_image 20 = .ok (.aaload, 1) := by decide +kernel
theorem dX11_image_21 : decode cX11_image 21 = .ok (.aload_n 0, 1) := by decide +kernel
theorem dX11_image_22 : decode cX11_image 22 = .ok (.getfield 10, 3) := by decide +kernel
theorem dX11_image_25 : decode cX11_image 25 = .ok (.invokevirtual 259, 3) := by decide +kernel
theorem dX11_image_28 : decode cX11_image 28 = .ok (.aload_n 0, 1) := by decide +kernel
theorem dX11_image_29 : decode cX11_image 29 = .ok (.getfield 20, 3) := by decide +kernel
theorem dX11_image_32 : decode cX11_image 32 = .ok (.iload_n 1, 1) := by decide +kernel
theorem dX11_image_33 : decode cX11_image 33 = .ok (.iconst 1, 1) := by decide +kernel
theorem dX11_image_34 : decode cX11_image 34 = .ok (.bastore, 1) := by decide +kernel
theorem dX11_image_35 : decode cX11_image 35 = .ok (.iconst 1, 1) := by decide +kernel
theorem dX11_image_36 : decode cX11_image 36 = .ok (.ireturn, 1) := by decide +kernel
theorem dX11_from_0 : decode cX11_from 0 = .ok (.iload_n 1, 1) := by decide +kernel
theorem dX11_from_1 : decode cX11_from 1 = .ok (.iconst 1, 1) := by decide +kernel
theorem dX11_from_2 : decode cX11_from 2 = .ok (.invokestatic 80, 3) := by decide +kernel
theorem dX11_from_5 : decode cX11_from 5 = .ok (.ifCond .ne 10, 3) := by decide +kernel
theorem dX11_from_8 : decode cX11_from 8 = .ok (.aload_n 0, 1) := by decide +kernel
theorem dX11_from_9 : decode cX11_from 9 = .ok (.bipush (-2), 2) := by decide +kernel
theorem dX11_from_11 : decode cX11_from 11 = .ok (.invokevirtual 84, 3) := by decide +kernel
theorem dX11_from_14 : decode cX11_from 14 = .ok (.ireturn, 1) := by decide +kernel
theorem dX11_from_15 : decode cX11_from 15 = .ok (.aload_n 0, 1) := by decide +kernel
theorem dX11_from_16 : decode cX11_from 16 = .ok (.getfield 20, 3) := by decide +kernel
theorem dX11_from_19 : decode cX11_from 19 = .ok (.iload_n 1, 1) := by decide +kernel
theorem dX11_from_20 : decode cX11_from 20 = .ok (.baload, 1) := by decide +kernel
theorem dX11_from_21 : decode cX11_from 21 = .ok (.ifCond .ne 8, 3) := by decide +kernel
theorem dX11_from_24 : decode cX11_from 24 = .ok (.aload_n 0, 1) := by decide +kernel
theorem dX11_from_25 : decode cX11_from 25 = .ok (.invokevirtual 148, 3) := by decide +kernel
theorem dX11_from_28 : decode cX11_from 28 = .ok (.ireturn, 1) := by decide +kernel
theorem dX11_from_29 : decode cX11_from 29 = .ok (.aload_n 0, 1) := by decide +kernel
theorem dX11_from_30 : decode cX11_from 30 = .ok (.getfield 10, 3) := by decide +kernel
theorem dX11_from_33 : decode cX11_from 33 = .ok (.aload_n 0, 1) := by decide +kernel
theorem dX11_from_34 : decode cX11_from 34 = .ok (.getfield 16, 3) := by decide +kernel
theorem dX11_from_37 : decode cX11_from 37 = .ok (.iload_n 1, 1) := by decide +kernel
theorem dX11_from_38 : decode cX11_from 38 = .ok (.aaload, 1) := by decide +kernel
theorem dX11_from_39 : decode cX11_from 39 = .ok (.invokevirtual 259, 3) := by decide +kernel
theorem dX11_from_42 : decode cX11_from 42 = .ok (.iconst 1, 1) := by decide +kernel
theorem dX11_from_43 : decode cX11_from 43 = .ok (.ireturn, 1) := by decide +kernel
theorem dX11_status_0 : decode cX11_status 0 = .ok (.iload_n 1, 1) := by decide +kernel
theorem dX11_status_1 : decode cX11_status 1 = .ok (.tableswitch 42 0 2 #[27, 32, 37], 27) := by decide +kernel
theorem dX11_status_28 : decode cX11_status 28 = .ok (.aload_n 0, 1) := by decide +kernel
theorem dX11_status_29 : decode cX11_status 29 = .ok (.getfield 261, 3) := by decide +kernel
theorem dX11_status_32 : decode cX11_status 32 = .ok (.ireturn, 1) := by decide +kernel
theorem dX11_status_33 : decode cX11_status 33 = .ok (.aload_n 0, 1) := by decide +kernel
theorem dX11_status_34 : decode cX11_status 34 = .ok (.getfield 264, 3) := by decide +kernel
theorem dX11_status_37 : decode cX11_status 37 = .ok (.ireturn, 1) := by decide +kernel
theorem dX11_status_38 : decode cX11_status 38 = .ok (.aload_n 0, 1) := by decide +kernel
theorem dX11_status_39 : decode cX11_status 39 = .ok (.getfield 267, 3) := by decide +kernel
theorem dX11_status_42 : decode cX11_status 42 = .ok (.ireturn, 1) := by decide +kernel
theorem dX11_status_43 : decode cX11_status 43 = .ok (.aload_n 0, 1) := by decide +kernel
theorem dX11_status_44 : decode cX11_status 44 = .ok (.iconst (-1), 1) := by decide +kernel
theorem dX11_status_45 : decode cX11_status 45 = .ok (.invokevirtual 84, 3) := by decide +kernel
theorem dX11_status_48 : decode cX11_status 48 = .ok (.ireturn, 1) := by decide +kernel
theorem dX11_count_0 : decode cX11_count 0 = .ok (.iload_n 1, 1) := by decide +kernel
theorem dX11_count_1 : decode cX11_count 1 = .ok (.tableswitch 108 0 6 #[43, 54, 65, 73, 84, 92, 100], 43) := by decide +kernel
theorem dX11_count_44 : decode cX11_count 44 = .ok (.aload_n 0, 1) := by decide +kernel
theorem dX11_count_45 : decode cX11_count 45 = .ok (.getfield 10, 3) := by decide +kernel
theorem dX11_count_48 : decode cX11_count 48 = .ok (.getfield 63, 3) := by decide +kernel
theorem dX11_count_51 : decode cX11_count 51 = .ok (.getfield 66, 3) := by decide +kernel
theorem dX11_count_54 : decode cX11_count 54 = .ok (.ireturn, 1) := by decide +kernel
theorem dX11_count_55 : decode cX11_count 55 = .ok (.aload_n 0, 1) := by decide +kernel
theorem dX11_count_56 : decode cX11_count 56 = .ok (.getfield 10, 3) := by decide +kernel
theorem dX11_count_59 : decode cX11_count 59 = .ok (.getfield 63, 3) := by decide +kernel
theorem dX11_count_62 : decode cX11_count 62 = .ok (.getfield 102, 3) := by decide +kernel
theorem dX11_count_65 : decode cX11_count 65 = .ok (.ireturn, 1) := by decide +kernel
theorem dX11_count_66 : decode cX11_count 66 = .ok (.aload_n 0, 1) := by decide +kernel
theorem dX11_count_67 : decode cX11_count 67 = .ok (.getfield 10, 3) := by decide +kernel
theorem dX11_count_70 : decode cX11_count 70 = .ok (.getfield 157, 3) := by decide +kernel
theorem dX11_count_73 : decode cX11_count 73 = .ok (.ireturn, 1) := by decide +kernel
theorem dX11_count_74 : decode cX11_count 74 = .ok (.aload_n 0, 1) := by decide +kernel
theorem dX11_count_75 : decode cX11_count 75 = .ok (.getfield 10, 3) := by decide +kernel
theorem dX11_count_78 : decode cX11_count 78 = .ok (.getfield 180, 3) := by decide +kernel
theorem dX11_count_81 : decode cX11_count 81 = .ok (.invokestatic 244, 3) := by decide +kernel
theorem dX11_count_84 : decode cX11_count 84 = .ok (.ireturn, 1) := by decide +kernel
theorem dX11_count_85 : decode cX11_count 85 = .ok (.aload_n 0, 1) := by decide +kernel
theorem dX11_count_86 : decode cX11_count 86 = .ok (.getfield 10, 3) := by decide +kernel
theorem dX11_count_89 : decode cX11_count 89 = .ok (.getfield 219, 3) := by decide +kernel
theorem dX11_count_92 : decode cX11_count 92 = .ok (.ireturn, 1) := by decide +kernel
theorem dX11_count_93 : decode cX11_count 93 = .ok (.aload_n 0, 1) := by decide +kernel
theorem dX11_count_94 : decode cX11_count 94 = .ok (.getfield 10, 3) := by decide +kernel
theorem dX11_count_97 : decode cX11_count 97 = .ok (.getfield 96, 3) := by decide +kernel
theorem dX11_count_100 : decode cX11_count 100 = .ok (.ireturn, 1) := by decide +kernel
theorem dX11_count_101 : decode cX11_count 101 = .ok (.aload_n 0, 1) := by decide +kernel
theorem dX11_count_102 : decode cX11_count 102 = .ok (.getfield 27, 3) := by decide +kernel
theorem dX11_count_105 : decode cX11_count 105 = .ok (.getfield 125, 3) := by decide +kernel
theorem dX11_count_108 : decode cX11_count 108 = .ok (.ireturn, 1) := by decide +kernel
theorem dX11_count_109 : decode cX11_count 109 = .ok (.aload_n 0, 1) := by decide +kernel
theorem dX11_count_110 : decode cX11_count 110 = .ok (.bipush (-2), 2) := by decide +kernel
theorem dX11_count_112 : decode cX11_count 112 = .ok (.invokevirtual 84, 3) := by decide +kernel
theorem dX11_count_115 : decode cX11_count 115 = .ok (.ireturn, 1) := by decide +kernel
theorem dX11_digest_0 : decode cX11_digest 0 = .ok (.ldc2_w 270, 3) := by decide +kernel
theorem dX11_digest_3 : decode cX11_digest 3 = .ok (.lstore_n 1, 1) := by decide +kernel
theorem dX11_digest_4 : decode cX11_digest 4 = .ok (.iconst 0, 1) := by decide +kernel
theorem dX11_digest_5 : decode cX11_digest 5 = .ok (.istore_n 3, 1) := by decide +kernel
theorem dX11_digest_6 : decode cX11_digest 6 = .ok (.iload_n 3, 1) := by decide +kernel
theorem dX11_digest_7 : decode cX11_digest 7 = .ok (.bipush 6, 2) := by decide +kernel
theorem dX11_digest_9 : decode cX11_digest 9 = .ok (.if_icmp .gt 22, 3) := by decide +kernel
theorem dX11_digest_12 : decode cX11_digest 12 = .ok (.ldc2_w 272, 3) := by decide +kernel
theorem dX11_digest_15 : decode cX11_digest 15 = .ok (.lload_n 1, 1) := by decide +kernel
theorem dX11_digest_16 : decode cX11_digest 16 = .ok (.lmul, 1) := by decide +kernel
theorem dX11_digest_17 : decode cX11_digest 17 = .ok (.aload_n 0, 1) := by decide +kernel
theorem dX11_digest_18 : decode cX11_digest 18 = .ok (.iload_n 3, 1) := by decide +kernel
theorem dX11_digest_19 : decode cX11_digest 19 = .ok (.invokevirtual 274, 3) := by decide +kernel
theorem dX11_digest_22 : decode cX11_digest 22 = .ok (.i2l, 1) := by decide +kernel
theorem dX11_digest_23 : decode cX11_digest 23 = .ok (.ladd, 1) := by decide +kernel
theorem dX11_digest_24 : decode cX11_digest 24 = .ok (.lstore_n 1, 1) := by decide +kernel
theorem dX11_digest_25 : decode cX11_digest 25 = .ok (.iinc 3 1, 3) := by decide +kernel
theorem dX11_digest_28 : decode cX11_digest 28 = .ok (.goto (-22), 3) := by decide +kernel
theorem dX11_digest_31 : decode cX11_digest 31 = .ok (.aload_n 0, 1) := by decide +kernel
theorem dX11_digest_32 : decode cX11_digest 32 = .ok (.getfield 10, 3) := by decide +kernel
theorem dX11_digest_35 : decode cX11_digest 35 = .ok (.getfield 63, 3) := by decide +kernel
theorem dX11_digest_38 : decode cX11_digest 38 = .ok (.lload_n 1, 1) := by decide +kernel
theorem dX11_digest_39 : decode cX11_digest 39 = .ok (.invokevirtual 277, 3) := by decide +kernel
theorem dX11_digest_42 : decode cX11_digest 42 = .ok (.lstore_n 1, 1) := by decide +kernel
theorem dX11_digest_43 : decode cX11_digest 43 = .ok (.aload_n 0, 1) := by decide +kernel
theorem dX11_digest_44 : decode cX11_digest 44 = .ok (.getfield 10, 3) := by decide +kernel
theorem dX11_digest_47 : decode cX11_digest 47 = .ok (.lload_n 1, 1) := by decide +kernel
theorem dX11_digest_48 : decode cX11_digest 48 = .ok (.invokevirtual 281, 3) := by decide +kernel
theorem dX11_digest_51 : decode cX11_digest 51 = .ok (.lstore_n 1, 1) := by decide +kernel
theorem dX11_digest_52 : decode cX11_digest 52 = .ok (.aload_n 0, 1) := by decide +kernel
theorem dX11_digest_53 : decode cX11_digest 53 = .ok (.getfield 10, 3) := by decide +kernel
theorem dX11_digest_56 : decode cX11_digest 56 = .ok (.getfield 63, 3) := by decide +kernel
theorem dX11_digest_59 : decode cX11_digest 59 = .ok (.lload_n 1, 1) := by decide +kernel
theorem dX11_digest_60 : decode cX11_digest 60 = .ok (.invokevirtual 284, 3) := by decide +kernel
theorem dX11_digest_63 : decode cX11_digest 63 = .ok (.lstore_n 1, 1) := by decide +kernel
theorem dX11_digest_64 : decode cX11_digest 64 = .ok (.aload_n 0, 1) := by decide +kernel
theorem dX11_digest_65 : decode cX11_digest 65 = .ok (.getfield 10, 3) := by decide +kernel
theorem dX11_digest_68 : decode cX11_digest 68 = .ok (.lload_n 1, 1) := by decide +kernel
theorem dX11_digest_69 : decode cX11_digest 69 = .ok (.invokevirtual 287, 3) := by decide +kernel
theorem dX11_digest_72 : decode cX11_digest 72 = .ok (.lstore_n 1, 1) := by decide +kernel
theorem dX11_digest_73 : decode cX11_digest 73 = .ok (.ldc2_w 272, 3) := by decide +kernel
theorem dX11_digest_76 : decode cX11_digest 76 = .ok (.lload_n 1, 1) := by decide +kernel
theorem dX11_digest_77 : decode cX11_digest 77 = .ok (.lmul, 1) := by decide +kernel
theorem dX11_digest_78 : decode cX11_digest 78 = .ok (.aload_n 0, 1) := by decide +kernel
theorem dX11_digest_79 : decode cX11_digest 79 = .ok (.getfield 56, 3) := by decide +kernel
theorem dX11_digest_82 : decode cX11_digest 82 = .ok (.ladd, 1) := by decide +kernel
theorem dX11_digest_83 : decode cX11_digest 83 = .ok (.lstore_n 1, 1) := by decide +kernel
theorem dX11_digest_84 : decode cX11_digest 84 = .ok (.ldc2_w 272, 3) := by decide +kernel
theorem dX11_digest_87 : decode cX11_digest 87 = .ok (.lload_n 1, 1) := by decide +kernel
theorem dX11_digest_88 : decode cX11_digest 88 = .ok (.lmul, 1) := by decide +kernel
theorem dX11_digest_89 : decode cX11_digest 89 = .ok (.aload_n 0, 1) := by decide +kernel
theorem dX11_digest_90 : decode cX11_digest 90 = .ok (.getfield 60, 3) := by decide +kernel
theorem dX11_digest_93 : decode cX11_digest 93 = .ok (.ladd, 1) := by decide +kernel
theorem dX11_digest_94 : decode cX11_digest 94 = .ok (.lreturn, 1) := by decide +kernel
theorem dX11_refuseBad_0 : decode cX11_refuseBad 0 = .ok (.aload_n 0, 1) := by decide +kernel
theorem dX11_refuseBad_1 : decode cX11_refuseBad 1 = .ok (.dup, 1) := by decide +kernel
theorem dX11_refuseBad_2 : decode cX11_refuseBad 2 = .ok (.getfield 261, 3) := by decide +kernel
theorem dX11_refuseBad_5 : decode cX11_refuseBad 5 = .ok (.iconst 1, 1) := by decide +kernel
theorem dX11_refuseBad_6 : decode cX11_refuseBad 6 = .ok (.iadd, 1) := by decide +kernel
theorem dX11_refuseBad_7 : decode cX11_refuseBad 7 = .ok (.putfield 261, 3) := by decide +kernel
theorem dX11_refuseBad_10 : decode cX11_refuseBad 10 = .ok (.iload_n 1, 1) := by decide +kernel
theorem dX11_refuseBad_11 : decode cX11_refuseBad 11 = .ok (.ireturn, 1) := by decide +kernel
theorem dX11_refuseNo_0 : decode cX11_refuseNo 0 = .ok (.aload_n 0, 1) := by decide +kernel
theorem dX11_refuseNo_1 : decode cX11_refuseNo 1 = .ok (.dup, 1) := by decide +kernel
theorem dX11_refuseNo_2 : decode cX11_refuseNo 2 = .ok (.getfield 264, 3) := by decide +kernel
theorem dX11_refuseNo_5 : decode cX11_refuseNo 5 = .ok (.iconst 1, 1) := by decide +kernel
theorem dX11_refuseNo_6 : decode cX11_refuseNo 6 = .ok (.iadd, 1) := by decide +kernel
theorem dX11_refuseNo_7 : decode cX11_refuseNo 7 = .ok (.putfield 264, 3) := by decide +kernel
theorem dX11_refuseNo_10 : decode cX11_refuseNo 10 = .ok (.bipush (-3), 2) := by decide +kernel
theorem dX11_refuseNo_12 : decode cX11_refuseNo 12 = .ok (.ireturn, 1) := by decide +kernel
theorem dX11_refuseFull_0 : decode cX11_refuseFull 0 = .ok (.aload_n 0, 1) := by decide +kernel
theorem dX11_refuseFull_1 : decode cX11_refuseFull 1 = .ok (.dup, 1) := by decide +kernel
theorem dX11_refuseFull_2 : decode cX11_refuseFull 2 = .ok (.getfield 267, 3) := by decide +kernel
theorem dX11_refuseFull_5 : decode cX11_refuseFull 5 = .ok (.iconst 1, 1) := by decide +kernel
theorem dX11_refuseFull_6 : decode cX11_refuseFull 6 = .ok (.iadd, 1) := by decide +kernel
theorem dX11_refuseFull_7 : decode cX11_refuseFull 7 = .ok (.putfield 267, 3) := by decide +kernel
theorem dX11_refuseFull_10 : decode cX11_refuseFull 10 = .ok (.bipush (-4), 2) := by decide +kernel
theorem dX11_refuseFull_12 : decode cX11_refuseFull 12 = .ok (.ireturn, 1) := by decide +kernel
theorem dX11_isSleeper_0 : decode cX11_isSleeper 0 = .ok (.iload_n 1, 1) := by decide +kernel
theorem dX11_isSleeper_1 : decode cX11_isSleeper 1 = .ok (.aload_n 0, 1) := by decide +kernel
theorem dX11_isSleeper_2 : decode cX11_isSleeper 2 = .ok (.getfield 10, 3) := by decide +kernel
theorem dX11_isSleeper_5 : decode cX11_isSleeper 5 = .ok (.getfield 63, 3) := by decide +kernel
theorem dX11_isSleeper_8 : decode cX11_isSleeper 8 = .ok (.getfield 66, 3) := by decide +kernel
theorem dX11_isSleeper_11 : decode cX11_isSleeper 11 = .ok (.iconst 1, 1) := by decide +kernel
theorem dX11_isSleeper_12 : decode cX11_isSleeper 12 = .ok (.isub, 1) := by decide +kernel
theorem dX11_isSleeper_13 : decode cX11_isSleeper 13 = .ok (.invokestatic 80, 3) := by decide +kernel
theorem dX11_isSleeper_16 : decode cX11_isSleeper 16 = .ok (.ireturn, 1) := by decide +kernel
theorem dX11_isThing_0 : decode cX11_isThing 0 = .ok (.iload_n 1, 1) := by decide +kernel
theorem dX11_isThing_1 : decode cX11_isThing 1 = .ok (.aload_n 0, 1) := by decide +kernel
theorem dX11_isThing_2 : decode cX11_isThing 2 = .ok (.getfield 10, 3) := by decide +kernel
theorem dX11_isThing_5 : decode cX11_isThing 5 = .ok (.getfield 63, 3) := by decide +kernel
theorem dX11_isThing_8 : decode cX11_isThing 8 = .ok (.getfield 102, 3) := by decide +kernel
theorem dX11_isThing_11 : decode cX11_isThing 11 = .ok (.iconst 1, 1) := by decide +kernel
theorem dX11_isThing_12 : decode cX11_isThing 12 = .ok (.isub, 1) := by decide +kernel
theorem dX11_isThing_13 : decode cX11_isThing 13 = .ok (.invokestatic 80, 3) := by decide +kernel
theorem dX11_isThing_16 : decode cX11_isThing 16 = .ok (.ireturn, 1) := by decide +kernel
theorem dX11_isRoom_0 : decode cX11_isRoom 0 = .ok (.iload_n 0, 1) := by decide +kernel
theorem dX11_isRoom_1 : decode cX11_isRoom 1 = .ok (.bipush 7, 2) := by decide +kernel
theorem dX11_isRoom_3 : decode cX11_isRoom 3 = .ok (.invokestatic 80, 3) := by decide +kernel
theorem dX11_isRoom_6 : decode cX11_isRoom 6 = .ok (.ireturn, 1) := by decide +kernel
theorem dX11_isPupil_0 : decode cX11_isPupil 0 = .ok (.iload_n 0, 1) := by decide +kernel
theorem dX11_isPupil_1 : decode cX11_isPupil 1 = .ok (.iconst 2, 1) := by decide +kernel
theorem dX11_isPupil_2 : decode cX11_isPupil 2 = .ok (.invokestatic 80, 3) := by decide +kernel
theorem dX11_isPupil_5 : decode cX11_isPupil 5 = .ok (.ireturn, 1) := by decide +kernel
theorem dX11_within_0 : decode cX11_within 0 = .ok (.iload_n 0, 1) := by decide +kernel
theorem dX11_within_1 : decode cX11_within 1 = .ok (.ifCond .lt 12, 3) := by decide +kernel
theorem dX11_within_4 : decode cX11_within 4 = .ok (.iload_n 0, 1) := by decide +kernel
theorem dX11_within_5 : decode cX11_within 5 = .ok (.iload_n 1, 1) := by decide +kernel
theorem dX11_within_6 : decode cX11_within 6 = .ok (.if_icmp .gt 7, 3) := by decide +kernel
theorem dX11_within_9 : decode cX11_within 9 = .ok (.iconst 1, 1) := by decide +kernel
theorem dX11_within_10 : decode cX11_within 10 = .ok (.goto 4, 3) := by decide +kernel
theorem dX11_within_13 : decode cX11_within 13 = .ok (.iconst 0, 1) := by decide +kernel
theorem dX11_within_14 : decode cX11_within 14 = .ok (.ireturn, 1) := by decide +kernel
theorem dX11_bit_0 : decode cX11_bit 0 = .ok (.iload_n 0, 1) := by decide +kernel
theorem dX11_bit_1 : decode cX11_bit 1 = .ok (.iload_n 1, 1) := by decide +kernel
theorem dX11_bit_2 : decode cX11_bit 2 = .ok (.ishr, 1) := by decide +kernel
theorem dX11_bit_3 : decode cX11_bit 3 = .ok (.iconst 1, 1) := by decide +kernel
theorem dX11_bit_4 : decode cX11_bit 4 = .ok (.iand, 1) := by decide +kernel
theorem dX11_bit_5 : decode cX11_bit 5 = .ok (.ireturn, 1) := by decide +kernel
theorem dX11_pair_0 : decode cX11_pair 0 = .ok (.iload_n 0, 1) := by decide +kernel
theorem dX11_pair_1 : decode cX11_pair 1 = .ok (.bipush 8, 2) := by decide +kernel
theorem dX11_pair_3 : decode cX11_pair 3 = .ok (.imul, 1) := by decide +kernel
theorem dX11_pair_4 : decode cX11_pair 4 = .ok (.iload_n 1, 1) := by decide +kernel
theorem dX11_pair_5 : decode cX11_pair 5 = .ok (.iadd, 1) := by decide +kernel
theorem dX11_pair_6 : decode cX11_pair 6 = .ok (.ireturn, 1) := by decide +kernel
theorem dX11_weighClocks_0 : decode cX11_weighClocks 0 = .ok (.iconst 0, 1) := by decide +kernel
theorem dX11_weighClocks_1 : decode cX11_weighClocks 1 = .ok (.istore_n 3, 1) := by decide +kernel
theorem dX11_weighClocks_2 : decode cX11_weighClocks 2 = .ok (.iload_n 3, 1) := by decide +kernel
theorem dX11_weighClocks_3 : decode cX11_weighClocks 3 = .ok (.iconst 5, 1) := by decide +kernel
theorem dX11_weighClocks_4 : decode cX11_weighClocks 4 = .ok (.if_icmp .gt 28, 3) := by decide +kernel
theorem dX11_weighClocks_7 : decode cX11_weighClocks 7 = .ok (.aload_n 0, 1) := by decide +kernel
theorem dX11_weighClocks_8 : decode cX11_weighClocks 8 = .ok (.getfield 52, 3) := by decide +kernel
theorem dX11_weighClocks_11 : decode cX11_weighClocks 11 = .ok (.iload_n 3, 1) := by decide +kernel
theorem dX11_weighClocks_12 : decode cX11_weighClocks 12 = .ok (.iload_n 3, 1) := by decide +kernel
theorem dX11_weighClocks_13 : decode cX11_weighClocks 13 = .ok (.iload_n 1, 1) := by decide +kernel
theorem dX11_weighClocks_14 : decode cX11_weighClocks 14 = .ok (.invokestatic 244, 3) := by decide +kernel
theorem dX11_weighClocks_17 : decode cX11_weighClocks 17 = .ok (.if_icmp .ne 7, 3) := by decide +kernel
theorem dX11_weighClocks_20 : decode cX11_weighClocks 20 = .ok (.lconst 1, 1) := by decide +kernel
theorem dX11_weighClocks_21 : decode cX11_weighClocks 21 = .ok (.goto 4, 3) := by decide +kernel
theorem dX11_weighClocks_24 : decode cX11_weighClocks 24 = .ok (.lconst 0, 1) := by decide +kernel
theorem dX11_weighClocks_25 : decode cX11_weighClocks 25 = .ok (.lastore, 1) := by decide +kernel
theorem dX11_weighClocks_26 : decode cX11_weighClocks 26 = .ok (.iinc 3 1, 3) := by decide +kernel
theorem dX11_weighClocks_29 : decode cX11_weighClocks 29 = .ok (.goto (-27), 3) := by decide +kernel
theorem dX11_weighClocks_32 : decode cX11_weighClocks 32 = .ok (.iconst 0, 1) := by decide +kernel
theorem dX11_weighClocks_33 : decode cX11_weighClocks 33 = .ok (.istore_n 3, 1) := by decide +kernel
theorem dX11_weighClocks_34 : decode cX11_weighClocks 34 = .ok (.iload_n 3, 1) := by decide +kernel
theorem dX11_weighClocks_35 : decode cX11_weighClocks 35 = .ok (.aload_n 0, 1) := by decide +kernel
theorem dX11_weighClocks_36 : decode cX11_weighClocks 36 = .ok (.getfield 10, 3) := by decide +kernel
theorem dX11_weighClocks_39 : decode cX11_weighClocks 39 = .ok (.getfield 63, 3) := by decide +kernel
theorem dX11_weighClocks_42 : decode cX11_weighClocks 42 = .ok (.getfield 66, 3) := by decide +kernel
theorem dX11_weighClocks_45 : decode cX11_weighClocks 45 = .ok (.if_icmp .ge 78, 3) := by decide +kernel
theorem dX11_weighClocks_48 : decode cX11_weighClocks 48 = .ok (.iload_n 1, 1) := by decide +kernel
theorem dX11_weighClocks_49 : decode cX11_weighClocks 49 = .ok (.iload_n 3, 1) := by decide +kernel
theorem dX11_weighClocks_50 : decode cX11_weighClocks 50 = .ok (.invokestatic 183, 3) := by decide +kernel
theorem dX11_weighClocks_53 : decode cX11_weighClocks 53 = .ok (.ifCond .ne 64, 3) := by decide +kernel
theorem dX11_weighClocks_56 : decode cX11_weighClocks 56 = .ok (.iconst 5, 1) := by decide +kernel
theorem dX11_weighClocks_57 : decode cX11_weighClocks 57 = .ok (.istore 4, 2) := by decide +kernel
theorem dX11_weighClocks_59 : decode cX11_weighClocks 59 = .ok (.iload 4, 2) := by decide +kernel
theorem dX11_weighClocks_61 : decode cX11_weighClocks 61 = .ok (.ifCond .le 42, 3) := by decide +kernel
theorem dX11_weighClocks_64 : decode cX11_weighClocks 64 = .ok (.aload_n 0, 1) := by decide +kernel
theorem dX11_weighClocks_65 : decode cX11_weighClocks 65 = .ok (.getfield 52, 3) := by decide +kernel
theorem dX11_weighClocks_68 : decode cX11_weighClocks 68 = .ok (.iload 4, 2) := by decide +kernel
theorem dX11_weighClocks_70 : decode cX11_weighClocks 70 = .ok (.aload_n 0, 1) := by decide +kernel
theorem dX11_weighClocks_71 : decode cX11_weighClocks 71 = .ok (.getfield 52, 3) := by decide +kernel
theorem dX11_weighClocks_74 : decode cX11_weighClocks 74 = .ok (.iload 4, 2) := by decide +kernel
theorem dX11_weighClocks_76 : decode cX11_weighClocks 76 = .ok (.laload, 1) := by decide +kernel
theorem dX11_weighClocks_77 : decode cX11_weighClocks 77 = .ok (.bipush 10, 2) := by decide +kernel
theorem dX11_weighClocks_79 : decode cX11_weighClocks 79 = .ok (.iload_n 2, 1) := by decide +kernel
theorem dX11_weighClocks_80 : decode cX11_weighClocks 80 = .ok (.isub, 1) := by decide +kernel
theorem dX11_weighClocks_81 : decode cX11_weighClocks 81 = .ok (.i2l, 1) := by decide +kernel
theorem dX11_weighClocks_82 : decode cX11_weighClocks 82 = .ok (.lmul, 1) := by decide +kernel
theorem dX11_weighClocks_83 : decode cX11_weighClocks 83 = .ok (.aload_n 0, 1) := by decide +kernel
theorem dX11_weighClocks_84 : decode cX11_weighClocks 84 = .ok (.getfield 52, 3) := by decide +kernel
theorem dX11_weighClocks_87 : decode cX11_weighClocks 87 = .ok (.iload 4, 2) := by decide +kernel
theorem dX11_weighClocks_89 : decode cX11_weighClocks 89 = .ok (.iconst 1, 1) := by decide +kernel
theorem dX11_weighClocks_90 : decode cX11_weighClocks 90 = .ok (.isub, 1) := by decide +kernel
theorem dX11_weighClocks_91 : decode cX11_weighClocks 91 = .ok (.laload, 1) := by decide +kernel
theorem dX11_weighClocks_92 : decode cX11_weighClocks 92 = .ok (.iload_n 2, 1) := by decide +kernel
theorem dX11_weighClocks_93 : decode cX11_weighClocks 93 = .ok (.i2l, 1) := by decide +kernel
theorem dX11_weighClocks_94 : decode cX11_weighClocks 94 = .ok (.lmul, 1) := by decide +kernel
theorem dX11_weighClocks_95 : decode cX11_weighClocks 95 = .ok (.ladd, 1) := by decide +kernel
theorem dX11_weighClocks_96 : decode cX11_weighClocks 96 = .ok (.lastore, 1) := by decide +kernel
theorem dX11_weighClocks_97 : decode cX11_weighClocks 97 = .ok (.iinc 4 (-1), 3) := by decide +kernel
theorem dX11_weighClocks_100 : decode cX11_weighClocks 100 = .ok (.goto (-41), 3) := by decide +kernel
theorem dX11_weighClocks_103 : decode cX11_weighClocks 103 = .ok (.aload_n 0, 1) := by decide +kernel
theorem dX11_weighClocks_104 : decode cX11_weighClocks 104 = .ok (.getfield 52, 3) := by decide +kernel
theorem dX11_weighClocks_107 : decode cX11_weighClocks 107 = .ok (.iconst 0, 1) := by decide +kernel
theorem dX11_weighClocks_108 : decode cX11_weighClocks 108 = .ok (.dup2, 1) := by decide +kernel
theorem dX11_weighClocks_109 : decode cX11_weighClocks 109 = .ok (.laload, 1) := by decide +kernel
theorem dX11_weighClocks_110 : decode cX11_weighClocks 110 = .ok (.bipush 10, 2) := by decide +kernel
theorem dX11_weighClocks_112 : decode cX11_weighClocks 112 = .ok (.iload_n 2, 1) := by decide +kernel
theorem dX11_weighClocks_113 : decode cX11_weighClocks 113 = .ok (.isub, 1) := by decide +kernel
theorem dX11_weighClocks_114 : decode cX11_weighClocks 114 = .ok (.i2l, 1) := by decide +kernel
theorem dX11_weighClocks_115 : decode cX11_weighClocks 115 = .ok (.lmul, 1) := by decide +kernel
theorem dX11_weighClocks_116 : decode cX11_weighClocks 116 = .ok (.lastore, 1) := by decide +kernel
theorem dX11_weighClocks_117 : decode cX11_weighClocks 117 = .ok (.iinc 3 1, 3) := by decide +kernel
theorem dX11_weighClocks_120 : decode cX11_weighClocks 120 = .ok (.goto (-86), 3) := by decide +kernel
theorem dX11_weighClocks_123 : decode cX11_weighClocks 123 = .ok (.return_, 1) := by decide +kernel
theorem dX11_keepFraction_0 : decode cX11_keepFraction 0 = .ok (.lload_n 1, 1) := by decide +kernel
theorem dX11_keepFraction_1 : decode cX11_keepFraction 1 = .ok (.lload_n 3, 1) := by decide +kernel
theorem dX11_keepFraction_2 : decode cX11_keepFraction 2 = .ok (.invokestatic 290, 3) := by decide +kernel
theorem dX11_keepFraction_5 : decode cX11_keepFraction 5 = .ok (.lstore 5, 2) := by decide +kernel
theorem dX11_keepFraction_7 : decode cX11_keepFraction 7 = .ok (.lload 5, 2) := by decide +kernel
theorem dX11_keepFraction_9 : decode cX11_keepFraction 9 = .ok (.lconst 0, 1) := by decide +kernel
theorem dX11_keepFraction_10 : decode cX11_keepFraction 10 = .ok (.lcmp, 1) := by decide +kernel
theorem dX11_keepFraction_11 : decode cX11_keepFraction 11 = .ok (.ifCond .le 19, 3) := by decide +kernel
theorem dX11_keepFraction_14 : decode cX11_keepFraction 14 = .ok (.aload_n 0, 1) := by decide +kernel
theorem dX11_keepFraction_15 : decode cX11_keepFraction 15 = .ok (.lload_n 1, 1) := by decide +kernel
theorem dX11_keepFraction_16 : decode cX11_keepFraction 16 = .ok (.lload 5, 2) := by decide +kernel
theorem dX11_keepFraction_18 : decode cX11_keepFraction 18 = .ok (.ldiv, 1) := by decide +kernel
theorem dX11_keepFraction_19 : decode cX11_keepFraction 19 = .ok (.putfield 56, 3) := by decide +kernel
theorem dX11_keepFraction_22 : decode cX11_keepFraction 22 = .ok (.aload_n 0, 1) := by decide +kernel
theorem dX11_keepFraction_23 : decode cX11_keepFraction 23 = .ok (.lload_n 3, 1) := by decide +kernel
theorem dX11_keepFraction_24 : decode cX11_keepFraction 24 = .ok (.lload 5, 2) := by decide +kernel
theorem dX11_keepFraction_26 : decode cX11_keepFraction 26 = .ok (.ldiv, 1) := by decide +kernel
theorem dX11_keepFraction_27 : decode cX11_keepFraction 27 = .ok (.putfield 60, 3) := by decide +kernel
theorem dX11_keepFraction_30 : decode cX11_keepFraction 30 = .ok (.return_, 1) := by decide +kernel
theorem dX11_commonDivisor_0 : decode cX11_commonDivisor 0 = .ok (.lload_n 0, 1) := by decide +kernel
theorem dX11_commonDivisor_1 : decode cX11_commonDivisor 1 = .ok (.lstore 4, 2) := by decide +kernel
theorem dX11_commonDivisor_3 : decode cX11_commonDivisor 3 = .ok (.lload_n 2, 1) := by decide +kernel
theorem dX11_commonDivisor_4 : decode cX11_commonDivisor 4 = .ok (.lstore 6, 2) := by decide +kernel
theorem dX11_commonDivisor_6 : decode cX11_commonDivisor 6 = .ok (.iconst 0, 1) := by decide +kernel
theorem dX11_commonDivisor_7 : decode cX11_commonDivisor 7 = .ok (.istore 8, 2) := by decide +kernel
theorem dX11_commonDivisor_9 : decode cX11_commonDivisor 9 = .ok (.iload 8, 2) := by decide +kernel
theorem dX11_commonDivisor_11 : decode cX11_commonDivisor 11 = .ok (.bipush 100, 2) := by decide +kernel
theorem dX11_commonDivisor_13 : decode cX11_commonDivisor 13 = .ok (.if_icmp .ge 31, 3) := by decide +kernel
theorem dX11_commonDivisor_16 : decode cX11_commonDivisor 16 = .ok (.lload 6, 2) := by decide +kernel
theorem dX11_commonDivisor_18 : decode cX11_commonDivisor 18 = .ok (.lconst 0, 1) := by decide +kernel
theorem dX11_commonDivisor_19 : decode cX11_commonDivisor 19 = .ok (.lcmp, 1) := by decide +kernel
theorem dX11_commonDivisor_20 : decode cX11_commonDivisor 20 = .ok (.ifCond .eq 24, 3) := by decide +kernel
theorem dX11_commonDivisor_23 : decode cX11_commonDivisor 23 = .ok (.lload 4, 2) := by decide +kernel
theorem dX11_commonDivisor_25 : decode cX11_commonDivisor 25 = .ok (.lload 6, 2) := by decide +kernel
theorem dX11_commonDivisor_27 : decode cX11_commonDivisor 27 = .ok (.lrem, 1) := by decide +kernel
theorem dX11_commonDivisor_28 : decode cX11_commonDivisor 28 = .ok (.lstore 9, 2) := by decide +kernel
theorem dX11_commonDivisor_30 : decode cX11_commonDivisor 30 = .ok (.lload 6, 2) := by decide +kernel
theorem dX11_commonDivisor_32 : decode cX11_commonDivisor 32 = .ok (.lstore 4, 2) := by decide +kernel
theorem dX11_commonDivisor_34 : decode cX11_commonDivisor 34 = .ok (.lload 9, 2) := by decide +kernel
theorem dX11_commonDivisor_36 : decode cX11_commonDivisor 36 = .ok (.lstore 6, 2) := by decide +kernel
theorem dX11_commonDivisor_38 : decode cX11_commonDivisor 38 = .ok (.iinc 8 1, 3) := by decide +kernel
theorem dX11_commonDivisor_41 : decode cX11_commonDivisor 41 = .ok (.goto (-32), 3) := by decide +kernel
theorem dX11_commonDivisor_44 : decode cX11_commonDivisor 44 = .ok (.lload 4, 2) := by decide +kernel
theorem dX11_commonDivisor_46 : decode cX11_commonDivisor 46 = .ok (.lreturn, 1) := by decide +kernel
theorem dL_law_0 : decode cL_law 0 = .ok (.new 7, 3) := by decide +kernel
theorem dL_law_3 : decode cL_law 3 = .ok (.dup, 1) := by decide +kernel
theorem dL_law_4 : decode cL_law 4 = .ok (.invokespecial 9, 3) := by decide +kernel
theorem dL_law_7 : decode cL_law 7 = .ok (.astore_n 1, 1) := by decide +kernel
theorem dL_law_8 : decode cL_law 8 = .ok (.new 10, 3) := by decide +kernel
theorem dL_law_11 : decode cL_law 11 = .ok (.dup, 1) := by decide +kernel
theorem dL_law_12 : decode cL_law 12 = .ok (.invokespecial 12, 3) := by decide +kernel
theorem dL_law_15 : decode cL_law 15 = .ok (.astore_n 2, 1) := by decide +kernel
theorem dL_law_16 : decode cL_law 16 = .ok (.iconst 0, 1) := by decide +kernel
theorem dL_law_17 : decode cL_law 17 = .ok (.istore_n 3, 1) := by decide +kernel
theorem dL_law_18 : decode cL_law 18 = .ok (.iload_n 3, 1) := by decide +kernel
theorem dL_law_19 : decode cL_law 19 = .ok (.aload_n 0, 1) := by decide +kernel
theorem dL_law_20 : decode cL_law 20 = .ok (.arraylength, 1) := by decide +kernel
theorem dL_law_21 : decode cL_law 21 = .ok (.iconst 5, 1) := by decide +kernel
theorem dL_law_22 : decode cL_law 22 = .ok (.isub, 1) := by decide +kernel
theorem dL_law_23 : decode cL_law 23 = .ok (.if_icmp .gt 1109, 3) := by decide +kernel
theorem dL_law_26 : decode cL_law 26 = .ok (.aload_n 0, 1) := by decide +kernel
theorem dL_law_27 : decode cL_law 27 = .ok (.iload_n 3, 1) := by decide +kernel
theorem dL_law_28 : decode cL_law 28 = .ok (.iaload, 1) := by decide +kernel
theorem dL_law_29 : decode cL_law 29 = .ok (.bipush 63, 2) := by decide +kernel
theorem dL_law_31 : decode cL_law 31 = .ok (.iand, 1) := by decide +kernel
theorem dL_law_32 : decode cL_law 32 = .ok (.tableswitch 1094 0 34 #[156, 169, 212, 255, 278, 311, 334, 347, 360, 393, 416, 429, 462, 485, 518, 561, 594, 647, 680, 713, 736, 759, 772, 815, 828, 851, 865, 888, 931, 964, 988, 1011, 1034, 1057, 1080], 156) := by decide +kernel
theorem dL_law_188 : decode cL_law 188 = .ok (.aload_n 1, 1) := by decide +kernel
theorem dL_law_189 : decode cL_law 189 = .ok (.invokevirtual 13, 3) := by decide +kernel
theorem dL_law_192 : decode cL_law 192 = .ok (.aload_n 2, 1) := by decide +kernel
theorem dL_law_193 : decode cL_law 193 = .ok (.invokevirtual 17, 3) := by decide +kernel
theorem dL_law_196 : decode cL_law 196 = .ok (.if_icmp .eq 930, 3) := by decide +kernel
theorem dL_law_199 : decode cL_law 199 = .ok (.iconst 0, 1) := by decide +kernel
theorem dL_law_200 : decode cL_law 200 = .ok (.ireturn, 1) := by decide +kernel
theorem dL_law_201 : decode cL_law 201 = .ok (.aload_n 1, 1) := by decide +kernel
theorem dL_law_202 : decode cL_law 202 = .ok (.aload_n 0, 1) := by decide +kernel
theorem dL_law_203 : decode cL_law 203 = .ok (.iload_n 3, 1) := by decide +kernel
theorem dL_law_204 : decode cL_law 204 = .ok (.iconst 1, 1) := by decide +kernel
theorem dL_law_205 : decode cL_law 205 = .ok (.iadd, 1) := by decide +kernel
theorem dL_law_206 : decode cL_law 206 = .ok (.iaload, 1) := by decide +kernel
theorem dL_law_207 : decode cL_law 207 = .ok (.aload_n 0, 1) := by decide +kernel
theorem dL_law_208 : decode cL_law 208 = .ok (.iload_n 3, 1) := by decide +kernel
theorem dL_law_209 : decode cL_law 209 = .ok (.iconst 2, 1) := by decide +kernel
theorem dL_law_210 : decode cL_law 210 = .ok (.iadd, 1) := by decide +kernel
theorem dL_law_211 : decode cL_law 211 = .ok (.iaload, 1) := by decide +kernel
theorem dL_law_212 : decode cL_law 212 = .ok (.aload_n 0, 1) := by decide +kernel
theorem dL_law_213 : decode cL_law 213 = .ok (.iload_n 3, 1) := by decide +kernel
theorem dL_law_214 : decode cL_law 214 = .ok (.iconst 3, 1) := by decide +kernel
theorem dL_law_215 : decode cL_law 215 = .ok (.iadd, 1) := by decide +kernel
theorem dL_law_216 : decode cL_law 216 = .ok (.iaload, 1) := by decide +kernel
theorem dL_law_217 : decode cL_law 217 = .ok (.invokevirtual 18, 3) := by decide +kernel
theorem dL_law_220 : decode cL_law 220 = .ok (.aload_n 2, 1) := by decide +kernel
theorem dL_law_221 : decode cL_law 221 = .ok (.aload_n 0, 1) := by decide +kernel
theorem dL_law_222 : decode cL_law 222 = .ok (.iload_n 3, 1) := by decide +kernel
theorem dL_law_223 : decode cL_law 223 = .ok (.iconst 1, 1) := by decide +kernel
theorem dL_law_224 : decode cL_law 224 = .ok (.iadd, 1) := by decide +kernel
theorem dL_law_225 : decode cL_law 225 = .ok (.iaload, 1) := by decide +kernel
theorem dL_law_226 : decode cL_law 226 = .ok (.aload_n 0, 1) := by decide +kernel
theorem dL_law_227 : decode cL_law 227 = .ok (.iload_n 3, 1) := by decide +kernel
theorem dL_law_228 : decode cL_law 228 = .ok (.iconst 2, 1) := by decide +kernel
theorem dL_law_229 : decode cL_law 229 = .ok (.iadd, 1) := by decide +kernel
theorem dL_law_230 : decode cL_law 230 = .ok (.iaload, 1) := by decide +kernel
theorem dL_law_231 : decode cL_law 231 = .ok (.aload_n 0, 1) := by decide +kernel
theorem dL_law_232 : decode cL_law 232 = .ok (.iload_n 3, 1) := by decide +kernel
theorem dL_law_233 : decode cL_law 233 = .ok (.iconst 3, 1) := by decide +kernel
theorem dL_law_234 : decode cL_law 234 = .ok (.iadd, 1) := by decide +kernel
theorem dL_law_235 : decode cL_law 235 = .ok (.iaload, 1) := by decide +kernel
theorem dL_law_236 : decode cL_law 236 = .ok (.invokevirtual 22, 3) := by decide +kernel
theorem dL_law_239 : decode cL_law 239 = .ok (.if_icmp .eq 887, 3) := by decide +kernel
theorem dL_law_242 : decode cL_law 242 = .ok (.iconst 0, 1) := by decide +kernel
theorem dL_law_243 : decode cL_law 243 = .ok (.ireturn, 1) := by decide +kernel
theorem dL_law_244 : decode cL_law 244 = .ok (.aload_n 1, 1) := by decide +kernel
theorem dL_law_245 : decode cL_law 245 = .ok (.aload_n 0, 1) := by decide +kernel
theorem dL_law_246 : decode cL_law 246 = .ok (.iload_n 3, 1) := by decide +kernel
theorem dL_law_247 : decode cL_law 247 = .ok (.iconst 1, 1) := by decide +kernel
theorem dL_law_248 : decode cL_law 248 = .ok (.iadd, 1) := by decide +kernel
theorem dL_law_249 : decode cL_law 249 = .ok (.iaload, 1) := by decide +kernel
theorem dL_law_250 : decode cL_law 250 = .ok (.aload_n 0, 1) := by decide +kernel
theorem dL_law_251 : decode cL_law 251 = .ok (.iload_n 3, 1) := by decide +kernel
theorem dL_law_252 : decode cL_law 252 = .ok (.iconst 2, 1) := by decide +kernel
theorem dL_law_253 : decode cL_law 253 = .ok (.iadd, 1) := by decide +kernel
theorem dL_law_254 : decode cL_law 254 = .ok (.iaload, 1) := by decide +kernel
theorem dL_law_255 : decode cL_law 255 = .ok (.aload_n 0, 1) := by decide +kernel
theorem dL_law_256 : decode cL_law 256 = .ok (.iload_n 3, 1) := by decide +kernel
theorem dL_law_257 : decode cL_law 257 = .ok (.iconst 3, 1) := by decide +kernel
theorem dL_law_258 : decode cL_law 258 = .ok (.iadd, 1) := by decide +kernel
theorem dL_law_259 : decode cL_law 259 = .ok (.iaload, 1) := by decide +kernel
theorem dL_law_260 : decode cL_law 260 = .ok (.invokevirtual 23, 3) := by decide +kernel
theorem dL_law_263 : decode cL_law 263 = .ok (.aload_n 2, 1) := by decide +kernel
theorem dL_law_264 : decode cL_law 264 = .ok (.aload_n 0, 1) := by decide +kernel
theorem dL_law_265 : decode cL_law 265 = .ok (.iload_n 3, 1) := by decide +kernel
theorem dL_law_266 : decode cL_law 266 = .ok (.iconst 1, 1) := by decide +kernel
theorem dL_law_267 : decode cL_law 267 = .ok (.iadd, 1) := by decide +kernel
theorem dL_law_268 : decode cL_law 268 = .ok (.iaload, 1) := by decide +kernel
theorem dL_law_269 : decode cL_law 269 = .ok (.aload_n 0, 1) := by decide +kernel
theorem dL_law_270 : decode cL_law 270 = .ok (.iload_n 3, 1) := by decide +kernel
theorem dL_law_271 : decode cL_law 271 = .ok (.iconst 2, 1) := by decide +kernel
theorem dL_law_272 : decode cL_law 272 = .ok (.iadd, 1) := by decide +kernel
theorem dL_law_273 : decode cL_law 273 = .ok (.iaload, 1) := by decide +kernel
theorem dL_law_274 : decode cL_law 274 = .ok (.aload_n 0, 1) := by decide +kernel
theorem dL_law_275 : decode cL_law 275 = .ok (.iload_n 3, 1) := by decide +kernel
theorem dL_law_276 : decode cL_law 276 = .ok (.iconst 3, 1) := by decide +kernel
theorem dL_law_277 : decode cL_law 277 = .ok (.iadd, 1) := by decide +kernel
theorem dL_law_278 : decode cL_law 278 = .ok (.iaload, 1) := by decide +kernel
theorem dL_law_279 : decode cL_law 279 = .ok (.invokevirtual 26, 3) := by decide +kernel
theorem dL_law_282 : decode cL_law 282 = .ok (.if_icmp .eq 844, 3) := by decide +kernel
theorem dL_law_285 : decode cL_law 285 = .ok (.iconst 0, 1) := by decide +kernel
theorem dL_law_286 : decode cL_law 286 = .ok (.ireturn, 1) := by decide +kernel
theorem dL_law_287 : decode cL_law 287 = .ok (.aload_n 1, 1) := by decide +kernel
theorem dL_law_288 : decode cL_law 288 = .ok (.aload_n 0, 1) := by decide +kernel
theorem dL_law_289 : decode cL_law 289 = .ok (.iload_n 3, 1) := by decide +kernel
theorem dL_law_290 : decode cL_law 290 = .ok (.iconst 1, 1) := by decide +kernel
theorem dL_law_291 : decode cL_law 291 = .ok (.iadd, 1) := by decide +kernel
theorem dL_law_292 : decode cL_law 292 = .ok (.iaload, 1) := by decide +kernel
theorem dL_law_293 : decode cL_law 293 = .ok (.invokevirtual 27, 3) := by decide +kernel
theorem dL_law_296 : decode cL_law 296 = .ok (.aload_n 2, 1) := by decide +kernel
theorem dL_law_297 : decode cL_law 297 = .ok (.aload_n 0, 1) := by decide +kernel
theorem dL_law_298 : decode cL_law 298 = .ok (.iload_n 3, 1) := by decide +kernel
theorem dL_law_299 : decode cL_law 299 = .ok (.iconst 1, 1) := by decide +kernel
theorem dL_law_300 : decode cL_law 300 = .ok (.iadd, 1) := by decide +kernel
theorem dL_law_301 : decode cL_law 301 = .ok (.iaload, 1) := by decide +kernel
theorem dL_law_302 : decode cL_law 302 = .ok (.invokevirtual 31, 3) := by decide +kernel
theorem dL_law_305 : decode cL_law 305 = .ok (.if_icmp .eq 821, 3) := by decide +kernel
theorem dL_law_308 : decode cL_law 308 = .ok (.iconst 0, 1) := by decide +kernel
theorem dL_law_309 : decode cL_law 309 = .ok (.ireturn, 1) := by decide +kernel
theorem dL_law_310 : decode cL_law 310 = .ok (.aload_n 1, 1) := by decide +kernel
theorem dL_law_311 : decode cL_law 311 = .ok (.aload_n 0, 1) := by decide +kernel
theorem dL_law_312 : decode cL_law 312 = .ok (.iload_n 3, 1) := by decide +kernel
theorem dL_law_313 : decode cL_law 313 = .ok (.iconst 1, 1) := by decide +kernel
theorem dL_law_314 : decode cL_law 314 = .ok (.iadd, 1) := by decide +kernel
theorem dL_law_315 : decode cL_law 315 = .ok (.iaload, 1) := by decide +kernel
theorem dL_law_316 : decode cL_law 316 = .ok (.aload_n 0, 1) := by decide +kernel
theorem dL_law_317 : decode cL_law 317 = .ok (.iload_n 3, 1) := by decide +kernel
theorem dL_law_318 : decode cL_law 318 = .ok (.iconst 2, 1) := by decide +kernel
theorem dL_law_319 : decode cL_law 319 = .ok (.iadd, 1) := by decide +kernel
theorem dL_law_320 : decode cL_law 320 = .ok (.iaload, 1) := by decide +kernel
theorem dL_law_321 : decode cL_law 321 = .ok (.invokevirtual 32, 3) := by decide +kernel
theorem dL_law_324 : decode cL_law 324 = .ok (.aload_n 2, 1) := by decide +kernel
theorem dL_law_325 : decode cL_law 325 = .ok (.aload_n 0, 1) := by decide +kernel
theorem dL_law_326 : decode cL_law 326 = .ok (.iload_n 3, 1) := by decide +kernel
theorem dL_law_327 : decode cL_law 327 = .ok (.iconst 1, 1) := by decide +kernel
theorem dL_law_328 : decode cL_law 328 = .ok (.iadd, 1) := by decide +kernel
theorem dL_law_329 : decode cL_law 329 = .ok (.iaload, 1) := by decide +kernel
theorem dL_law_330 : decode cL_law 330 = .ok (.aload_n 0, 1) := by decide +kernel
theorem dL_law_331 : decode cL_law 331 = .ok (.iload_n 3, 1) := by decide +kernel
theorem dL_law_332 : decode cL_law 332 = .ok (.iconst 2, 1) := by decide +kernel
theorem dL_law_333 : decode cL_law 333 = .ok (.iadd, 1) := by decide +kernel
theorem dL_law_334 : decode cL_law 334 = .ok (.iaload, 1) := by decide +kernel
theorem dL_law_335 : decode cL_law 335 = .ok (.invokevirtual 36, 3) := by decide +kernel
theorem dL_law_338 : decode cL_law 338 = .ok (.if_icmp .eq 788, 3) := by decide +kernel
theorem dL_law_341 : decode cL_law 341 = .ok (.iconst 0, 1) := by decide +kernel
theorem dL_law_342 : decode cL_law 342 = .ok (.ireturn, 1) := by decide +kernel
theorem dL_law_343 : decode cL_law 343 = .ok (.aload_n 1, 1) := by decide +kernel
theorem dL_law_344 : decode cL_law 344 = .ok (.aload_n 0, 1) := by decide +kernel
theorem dL_law_345 : decode cL_law 345 = .ok (.iload_n 3, 1) := by decide +kernel
theorem dL_law_346 : decode cL_law 346 = .ok (.iconst 1, 1) := by decide +kernel
theorem dL_law_347 : decode cL_law 347 = .ok (.iadd, 1) := by decide +kernel
theorem dL_law_348 : decode cL_law 348 = .ok (.iaload, 1) := by decide +kernel
theorem dL_law_349 : decode cL_law 349 = .ok (.invokevirtual 37, 3) := by decide +kernel
theorem dL_law_352 : decode cL_law 352 = .ok (.aload_n 2, 1) := by decide +kernel
theorem dL_law_353 : decode cL_law 353 = .ok (.aload_n 0, 1) := by decide +kernel
theorem dL_law_354 : decode cL_law 354 = .ok (.iload_n 3, 1) := by decide +kernel
theorem dL_law_355 : decode cL_law 355 = .ok (.iconst 1, 1) := by decide +kernel
theorem dL_law_356 : decode cL_law 356 = .ok (.iadd, 1) := by decide +kernel
theorem dL_law_357 : decode cL_law 357 = .ok (.iaload, 1) := by decide +kernel
theorem dL_law_358 : decode cL_law 358 = .ok (.invokevirtual 40, 3) := by decide +kernel
theorem dL_law_361 : decode cL_law 361 = .ok (.if_icmp .eq 765, 3) := by decide +kernel
theorem dL_law_364 : decode cL_law 364 = .ok (.iconst 0, 1) := by decide +kernel
theorem dL_law_365 : decode cL_law 365 = .ok (.ireturn, 1) := by decide +kernel
theorem dL_law_366 : decode cL_law 366 = .ok (.aload_n 1, 1) := by decide +kernel
theorem dL_law_367 : decode cL_law 367 = .ok (.invokevirtual 41, 3) := by decide +kernel
theorem dL_law_370 : decode cL_law 370 = .ok (.aload_n 2, 1) := by decide +kernel
theorem dL_law_371 : decode cL_law 371 = .ok (.invokevirtual 44, 3) := by decide +kernel
theorem dL_law_374 : decode cL_law 374 = .ok (.if_icmp .eq 752, 3) := by decide +kernel
theorem dL_law_377 : decode cL_law 377 = .ok (.iconst 0, 1) := by decide +kernel
theorem dL_law_378 : decode cL_law 378 = .ok (.ireturn, 1) := by decide +kernel
theorem dL_law_379 : decode cL_law 379 = .ok (.aload_n 1, 1) := by decide +kernel
theorem dL_law_380 : decode cL_law 380 = .ok (.invokevirtual 45, 3) := by decide +kernel
theorem dL_law_383 : decode cL_law 383 = .ok (.aload_n 2, 1) := by decide +kernel
theorem dL_law_384 : decode cL_law 384 = .ok (.invokevirtual 48, 3) := by decide +kernel
theorem dL_law_387 : decode cL_law 387 = .ok (.if_icmp .eq 739, 3) := by decide +kernel
theorem dL_law_390 : decode cL_law 390 = .ok (.iconst 0, 1) := by decide +kernel
theorem dL_law_391 : decode cL_law 391 = .ok (.ireturn, 1) := by decide +kernel
theorem dL_law_392 : decode cL_law 392 = .ok (.aload_n 1, 1) := by decide +kernel
theorem dL_law_393 : decode cL_law 393 = .ok (.aload_n 0, 1) := by decide +kernel
theorem dL_law_394 : decode cL_law 394 = .ok (.iload_n 3, 1) := by decide +kernel
theorem dL_law_395 : decode cL_law 395 = .ok (.iconst 1, 1) := by decide +kernel
theorem dL_law_396 : decode cL_law 396 = .ok (.iadd, 1) := by decide +kernel
theorem dL_law_397 : decode cL_law 397 = .ok (.iaload, 1) := by decide +kernel
theorem dL_law_398 : decode cL_law 398 = .ok (.aload_n 0, 1) := by decide +kernel
theorem dL_law_399 : decode cL_law 399 = .ok (.iload_n 3, 1) := by decide +kernel
theorem dL_law_400 : decode cL_law 400 = .ok (.iconst 2, 1) := by decide +kernel
theorem dL_law_401 : decode cL_law 401 = .ok (.iadd, 1) := by decide +kernel
theorem dL_law_402 : decode cL_law 402 = .ok (.iaload, 1) := by decide +kernel
theorem dL_law_403 : decode cL_law 403 = .ok (.invokevirtual 49, 3) := by decide +kernel
theorem dL_law_406 : decode cL_law 406 = .ok (.aload_n 2, 1) := by decide +kernel
theorem dL_law_407 : decode cL_law 407 = .ok (.aload_n 0, 1) := by decide +kernel
theorem dL_law_408 : decode cL_law 408 = .ok (.iload_n 3, 1) := by decide +kernel
theorem dL_law_409 : decode cL_law 409 = .ok (.iconst 1, 1) := by decide +kernel
theorem dL_law_410 : decode cL_law 410 = .ok (.iadd, 1) := by decide +kernel
theorem dL_law_411 : decode cL_law 411 = .ok (.iaload, 1) := by decide +kernel
theorem dL_law_412 : decode cL_law 412 = .ok (.aload_n 0, 1) := by decide +kernel
theorem dL_law_413 : decode cL_law 413 = .ok (.iload_n 3, 1) := by decide +kernel
theorem dL_law_414 : decode cL_law 414 = .ok (.iconst 2, 1) := by decide +kernel
theorem dL_law_415 : decode cL_law 415 = .ok (.iadd, 1) := by decide +kernel
theorem dL_law_416 : decode cL_law 416 = .ok (.iaload, 1) := by decide +kernel
theorem dL_law_417 : decode cL_law 417 = .ok (.invokevirtual 52, 3) := by decide +kernel
theorem dL_law_420 : decode cL_law 420 = .ok (.if_icmp .eq 706, 3) := by decide +kernel
theorem dL_law_423 : decode cL_law 423 = .ok (.iconst 0, 1) := by decide +kernel
theorem dL_law_424 : decode cL_law 424 = .ok (.ireturn, 1) := by decide +kernel
theorem dL_law_425 : decode cL_law 425 = .ok (.aload_n 1, 1) := by decide +kernel
theorem dL_law_426 : decode cL_law 426 = .ok (.aload_n 0, 1) := by decide +kernel
theorem dL_law_427 : decode cL_law 427 = .ok (.iload_n 3, 1) := by decide +kernel
theorem dL_law_428 : decode cL_law 428 = .ok (.iconst 1, 1) := by decide +kernel
theorem dL_law_429 : decode cL_law 429 = .ok (.iadd, 1) := by decide +kernel
theorem dL_law_430 : decode cL_law 430 = .ok (.iaload, 1) := by decide +kernel
theorem dL_law_431 : decode cL_law 431 = .ok (.invokevirtual 53, 3) := by decide +kernel
theorem dL_law_434 : decode cL_law 434 = .ok (.aload_n 2, 1) := by decide +kernel
theorem dL_law_435 : decode cL_law 435 = .ok (.aload_n 0, 1) := by decide +kernel
theorem dL_law_436 : decode cL_law 436 = .ok (.iload_n 3, 1) := by decide +kernel
theorem dL_law_437 : decode cL_law 437 = .ok (.iconst 1, 1) := by decide +kernel
theorem dL_law_438 : decode cL_law 438 = .ok (.iadd, 1) := by decide +kernel
theorem dL_law_439 : decode cL_law 439 = .ok (.iaload, 1) := by decide +kernel
theorem dL_law_440 : decode cL_law 440 = .ok (.invokevirtual 56, 3) := by decide +kernel
theorem dL_law_443 : decode cL_law 443 = .ok (.if_icmp .eq 683, 3) := by decide +kernel
theorem dL_law_446 : decode cL_law 446 = .ok (.iconst 0, 1) := by decide +kernel
theorem dL_law_447 : decode cL_law 447 = .ok (.ireturn, 1) := by decide +kernel
theorem dL_law_448 : decode cL_law 448 = .ok (.aload_n 1, 1) := by decide +kernel
theorem dL_law_449 : decode cL_law 449 = .ok (.invokevirtual 57, 3) := by decide +kernel
theorem dL_law_452 : decode cL_law 452 = .ok (.aload_n 2, 1) := by decide +kernel
theorem dL_law_453 : decode cL_law 453 = .ok (.invokevirtual 60, 3) := by decide +kernel
theorem dL_law_456 : decode cL_law 456 = .ok (.if_icmp .eq 670, 3) := by decide +kernel
theorem dL_law_459 : decode cL_law 459 = .ok (.iconst 0, 1) := by decide +kernel
theorem dL_law_460 : decode cL_law 460 = .ok (.ireturn, 1) := by decide +kernel
theorem dL_law_461 : decode cL_law 461 = .ok (.aload_n 1, 1) := by decide +kernel
theorem dL_law_462 : decode cL_law 462 = .ok (.aload_n 0, 1) := by decide +kernel
theorem dL_law_463 : decode cL_law 463 = .ok (.iload_n 3, 1) := by decide +kernel
theorem dL_law_464 : decode cL_law 464 = .ok (.iconst 1, 1) := by decide +kernel
theorem dL_law_465 : decode cL_law 465 = .ok (.iadd, 1) := by decide +kernel
theorem dL_law_466 : decode cL_law 466 = .ok (.iaload, 1) := by decide +kernel
theorem dL_law_467 : decode cL_law 467 = .ok (.aload_n 0, 1) := by decide +kernel
theorem dL_law_468 : decode cL_law 468 = .ok (.iload_n 3, 1) := by decide +kernel
theorem dL_law_469 : decode cL_law 469 = .ok (.iconst 2, 1) := by decide +kernel
theorem dL_law_470 : decode cL_law 470 = .ok (.iadd, 1) := by decide +kernel
theorem dL_law_471 : decode cL_law 471 = .ok (.iaload, 1) := by decide +kernel
theorem dL_law_472 : decode cL_law 472 = .ok (.invokevirtual 61, 3) := by decide +kernel
theorem dL_law_475 : decode cL_law 475 = .ok (.aload_n 2, 1) := by decide +kernel
theorem dL_law_476 : decode cL_law 476 = .ok (.aload_n 0, 1) := by decide +kernel
theorem dL_law_477 : decode cL_law 477 = .ok (.iload_n 3, 1) := by decide +kernel
theorem dL_law_478 : decode cL_law 478 = .ok (.iconst 1, 1) := by decide +kernel
theorem dL_law_479 : decode cL_law 479 = .ok (.iadd, 1) := by decide +kernel
theorem dL_law_480 : decode cL_law 480 = .ok (.iaload, 1) := by decide +kernel
theorem dL_law_481 : decode cL_law 481 = .ok (.aload_n 0, 1) := by decide +kernel
theorem dL_law_482 : decode cL_law 482 = .ok (.iload_n 3, 1) := by decide +kernel
theorem dL_law_483 : decode cL_law 483 = .ok (.iconst 2, 1) := by decide +kernel
theorem dL_law_484 : decode cL_law 484 = .ok (.iadd, 1) := by decide +kernel
theorem dL_law_485 : decode cL_law 485 = .ok (.iaload, 1) := by decide +kernel
theorem dL_law_486 : decode cL_law 486 = .ok (.invokevirtual 64, 3) := by decide +kernel
theorem dL_law_489 : decode cL_law 489 = .ok (.if_icmp .eq 637, 3) := by decide +kernel
theorem dL_law_492 : decode cL_law 492 = .ok (.iconst 0, 1) := by decide +kernel
theorem dL_law_493 : decode cL_law 493 = .ok (.ireturn, 1) := by decide +kernel
theorem dL_law_494 : decode cL_law 494 = .ok (.aload_n 1, 1) := by decide +kernel
theorem dL_law_495 : decode cL_law 495 = .ok (.aload_n 0, 1) := by decide +kernel
theorem dL_law_496 : decode cL_law 496 = .ok (.iload_n 3, 1) := by decide +kernel
theorem dL_law_497 : decode cL_law 497 = .ok (.iconst 1, 1) := by decide +kernel
theorem dL_law_498 : decode cL_law 498 = .ok (.iadd, 1) := by decide +kernel
theorem dL_law_499 : decode cL_law 499 = .ok (.iaload, 1) := by decide +kernel
theorem dL_law_500 : decode cL_law 500 = .ok (.invokevirtual 65, 3) := by decide +kernel
theorem dL_law_503 : decode cL_law 503 = .ok (.aload_n 2, 1) := by decide +kernel
theorem dL_law_504 : decode cL_law 504 = .ok (.aload_n 0, 1) := by decide +kernel
theorem dL_law_505 : decode cL_law 505 = .ok (.iload_n 3, 1) := by decide +kernel
theorem dL_law_506 : decode cL_law 506 = .ok (.iconst 1, 1) := by decide +kernel
theorem dL_law_507 : decode cL_law 507 = .ok (.iadd, 1) := by decide +kernel
theorem dL_law_508 : decode cL_law 508 = .ok (.iaload, 1) := by decide +kernel
theorem dL_law_509 : decode cL_law 509 = .ok (.invokevirtual 68, 3) := by decide +kernel
theorem dL_law_512 : decode cL_law 512 = .ok (.if_icmp .eq 614, 3) := by decide +kernel
theorem dL_law_515 : decode cL_law 515 = .ok (.iconst 0, 1) := by decide +kernel
theorem dL_law_516 : decode cL_law 516 = .ok (.ireturn, 1) := by decide +kernel
theorem dL_law_517 : decode cL_law 517 = .ok (.aload_n 1, 1) := by decide +kernel
theorem dL_law_518 : decode cL_law 518 = .ok (.aload_n 0, 1) := by decide +kernel
theorem dL_law_519 : decode cL_law 519 = .ok (.iload_n 3, 1) := by decide +kernel
theorem dL_law_520 : decode cL_law 520 = .ok (.iconst 1, 1) := by decide +kernel
theorem dL_law_521 : decode cL_law 521 = .ok (.iadd, 1) := by decide +kernel
theorem dL_law_522 : decode cL_law 522 = .ok (.iaload, 1) := by decide +kernel
theorem dL_law_523 : decode cL_law 523 = .ok (.aload_n 0, 1) := by decide +kernel
theorem dL_law_524 : decode cL_law 524 = .ok (.iload_n 3, 1) := by decide +kernel
theorem dL_law_525 : decode cL_law 525 = .ok (.iconst 2, 1) := by decide +kernel
theorem dL_law_526 : decode cL_law 526 = .ok (.iadd, 1) := by decide +kernel
theorem dL_law_527 : decode cL_law 527 = .ok (.iaload, 1) := by decide +kernel
theorem dL_law_528 : decode cL_law 528 = .ok (.invokevirtual 69, 3) := by decide +kernel
theorem dL_law_531 : decode cL_law 531 = .ok (.aload_n 2, 1) := by decide +kernel
theorem dL_law_532 : decode cL_law 532 = .ok (.aload_n 0, 1) := by decide +kernel
theorem dL_law_533 : decode cL_law 533 = .ok (.iload_n 3, 1) := by decide +kernel
theorem dL_law_534 : decode cL_law 534 = .ok (.iconst 1, 1) := by decide +kernel
theorem dL_law_535 : decode cL_law 535 = .ok (.iadd, 1) := by decide +kernel
theorem dL_law_536 : decode cL_law 536 = .ok (.iaload, 1) := by decide +kernel
theorem dL_law_537 : decode cL_law 537 = .ok (.aload_n 0, 1) := by decide +kernel
theorem dL_law_538 : decode cL_law 538 = .ok (.iload_n 3, 1) := by decide +kernel
theorem dL_law_539 : decode cL_law 539 = .ok (.iconst 2, 1) := by decide +kernel
theorem dL_law_540 : decode cL_law 540 = .ok (.iadd, 1) := by decide +kernel
theorem dL_law_541 : decode cL_law 541 = .ok (.iaload, 1) := by decide +kernel
theorem dL_law_542 : decode cL_law 542 = .ok (.invokevirtual 72, 3) := by decide +kernel
theorem dL_law_545 : decode cL_law 545 = .ok (.if_icmp .eq 581, 3) := by decide +kernel
theorem dL_law_548 : decode cL_law 548 = .ok (.iconst 0, 1) := by decide +kernel
theorem dL_law_549 : decode cL_law 549 = .ok (.ireturn, 1) := by decide +kernel
theorem dL_law_550 : decode cL_law 550 = .ok (.aload_n 1, 1) := by decide +kernel
theorem dL_law_551 : decode cL_law 551 = .ok (.aload_n 0, 1) := by decide +kernel
theorem dL_law_552 : decode cL_law 552 = .ok (.iload_n 3, 1) := by decide +kernel
theorem dL_law_553 : decode cL_law 553 = .ok (.iconst 1, 1) := by decide +kernel
theorem dL_law_554 : decode cL_law 554 = .ok (.iadd, 1) := by decide +kernel
theorem dL_law_555 : decode cL_law 555 = .ok (.iaload, 1) := by decide +kernel
theorem dL_law_556 : decode cL_law 556 = .ok (.aload_n 0, 1) := by decide +kernel
theorem dL_law_557 : decode cL_law 557 = .ok (.iload_n 3, 1) := by decide +kernel
theorem dL_law_558 : decode cL_law 558 = .ok (.iconst 2, 1) := by decide +kernel
theorem dL_law_559 : decode cL_law 559 = .ok (.iadd, 1) := by decide +kernel
theorem dL_law_560 : decode cL_law 560 = .ok (.iaload, 1) := by decide +kernel
theorem dL_law_561 : decode cL_law 561 = .ok (.aload_n 0, 1) := by decide +kernel
theorem dL_law_562 : decode cL_law 562 = .ok (.iload_n 3, 1) := by decide +kernel
theorem dL_law_563 : decode cL_law 563 = .ok (.iconst 3, 1) := by decide +kernel
theorem dL_law_564 : decode cL_law 564 = .ok (.iadd, 1) := by decide +kernel
theorem dL_law_565 : decode cL_law 565 = .ok (.iaload, 1) := by decide +kernel
theorem dL_law_566 : decode cL_law 566 = .ok (.invokevirtual 73, 3) := by decide +kernel
theorem dL_law_569 : decode cL_law 569 = .ok (.aload_n 2, 1) := by decide +kernel
theorem dL_law_570 : decode cL_law 570 = .ok (.aload_n 0, 1) := by decide +kernel
theorem dL_law_571 : decode cL_law 571 = .ok (.iload_n 3, 1) := by decide +kernel
theorem dL_law_572 : decode cL_law 572 = .ok (.iconst 1, 1) := by decide +kernel
theorem dL_law_573 : decode cL_law 573 = .ok (.iadd, 1) := by decide +kernel
theorem dL_law_574 : decode cL_law 574 = .ok (.iaload, 1) := by decide +kernel
theorem dL_law_575 : decode cL_law 575 = .ok (.aload_n 0, 1) := by decide +kernel
theorem dL_law_576 : decode cL_law 576 = .ok (.iload_n 3, 1) := by decide +kernel
theorem dL_law_577 : decode cL_law 577 = .ok (.iconst 2, 1) := by decide +kernel
theorem dL_law_578 : decode cL_law 578 = .ok (.iadd, 1) := by decide +kernel
theorem dL_law_579 : decode cL_law 579 = .ok (.iaload, 1) := by decide +kernel
theorem dL_law_580 : decode cL_law 580 = .ok (.aload_n 0, 1) := by decide +kernel
theorem dL_law_581 : decode cL_law 581 = .ok (.iload_n 3, 1) := by decide +kernel
theorem dL_law_582 : decode cL_law 582 = .ok (.iconst 3, 1) := by decide +kernel
theorem dL_law_583 : decode cL_law 583 = .ok (.iadd, 1) := by decide +kernel
theorem dL_law_584 : decode cL_law 584 = .ok (.iaload, 1) := by decide +kernel
theorem dL_law_585 : decode cL_law 585 = .ok (.invokevirtual 76, 3) := by decide +kernel
theorem dL_law_588 : decode cL_law 588 = .ok (.if_icmp .eq 538, 3) := by decide +kernel
theorem dL_law_591 : decode cL_law 591 = .ok (.iconst 0, 1) := by decide +kernel
theorem dL_law_592 : decode cL_law 592 = .ok (.ireturn, 1) := by decide +kernel
theorem dL_law_593 : decode cL_law 593 = .ok (.aload_n 1, 1) := by decide +kernel
theorem dL_law_594 : decode cL_law 594 = .ok (.aload_n 0, 1) := by decide +kernel
theorem dL_law_595 : decode cL_law 595 = .ok (.iload_n 3, 1) := by decide +kernel
theorem dL_law_596 : decode cL_law 596 = .ok (.iconst 1, 1) := by decide +kernel
theorem dL_law_597 : decode cL_law 597 = .ok (.iadd, 1) := by decide +kernel
theorem dL_law_598 : decode cL_law 598 = .ok (.iaload, 1) := by decide +kernel
theorem dL_law_599 : decode cL_law 599 = .ok (.aload_n 0, 1) := by decide +kernel
theorem dL_law_600 : decode cL_law 600 = .ok (.iload_n 3, 1) := by decide +kernel
theorem dL_law_601 : decode cL_law 601 = .ok (.iconst 2, 1) := by decide +kernel
theorem dL_law_602 : decode cL_law 602 = .ok (.iadd, 1) := by decide +kernel
theorem dL_law_603 : decode cL_law 603 = .ok (.iaload, 1) := by decide +kernel
theorem dL_law_604 : decode cL_law 604 = .ok (.invokevirtual 77, 3) := by decide +kernel
theorem dL_law_607 : decode cL_law 607 = .ok (.aload_n 2, 1) := by decide +kernel
theorem dL_law_608 : decode cL_law 608 = .ok (.aload_n 0, 1) := by decide +kernel
theorem dL_law_609 : decode cL_law 609 = .ok (.iload_n 3, 1) := by decide +kernel
theorem dL_law_610 : decode cL_law 610 = .ok (.iconst 1, 1) := by decide +kernel
theorem dL_law_611 : decode cL_law 611 = .ok (.iadd, 1) := by decide +kernel
theorem dL_law_612 : decode cL_law 612 = .ok (.iaload, 1) := by decide +kernel
theorem dL_law_613 : decode cL_law 613 = .ok (.aload_n 0, 1) := by decide +kernel
theorem dL_law_614 : decode cL_law 614 = .ok (.iload_n 3, 1) := by decide +kernel
theorem dL_law_615 : decode cL_law 615 = .ok (.iconst 2, 1) := by decide +kernel
theorem dL_law_616 : decode cL_law 616 = .ok (.iadd, 1) := by decide +kernel
theorem dL_law_617 : decode cL_law 617 = .ok (.iaload, 1) := by decide +kernel
theorem dL_law_618 : decode cL_law 618 = .ok (.invokevirtual 80, 3) := by decide +kernel
theorem dL_law_621 : decode cL_law 621 = .ok (.if_icmp .eq 505, 3) := by decide +kernel
theorem dL_law_624 : decode cL_law 624 = .ok (.iconst 0, 1) := by decide +kernel
theorem dL_law_625 : decode cL_law 625 = .ok (.ireturn, 1) := by decide +kernel
theorem dL_law_626 : decode cL_law 626 = .ok (.aload_n 1, 1) := by decide +kernel
theorem dL_law_627 : decode cL_law 627 = .ok (.aload_n 0, 1) := by decide +kernel
theorem dL_law_628 : decode cL_law 628 = .ok (.iload_n 3, 1) := by decide +kernel
theorem dL_law_629 : decode cL_law 629 = .ok (.iconst 1, 1) := by decide +kernel
theorem dL_law_630 : decode cL_law 630 = .ok (.iadd, 1) := by decide +kernel
theorem dL_law_631 : decode cL_law 631 = .ok (.iaload, 1) := by decide +kernel
theorem dL_law_632 : decode cL_law 632 = .ok (.aload_n 0, 1) := by decide +kernel
theorem dL_law_633 : decode cL_law 633 = .ok (.iload_n 3, 1) := by decide +kernel
theorem dL_law_634 : decode cL_law 634 = .ok (.iconst 2, 1) := by decide +kernel
theorem dL_law_635 : decode cL_law 635 = .ok (.iadd, 1) := by decide +kernel
theorem dL_law_636 : decode cL_law 636 = .ok (.iaload, 1) := by decide +kernel
theorem dL_law_637 : decode cL_law 637 = .ok (.aload_n 0, 1) := by decide +kernel
theorem dL_law_638 : decode cL_law 638 = .ok (.iload_n 3, 1) := by decide +kernel
theorem dL_law_639 : decode cL_law 639 = .ok (.iconst 3, 1) := by decide +kernel
theorem dL_law_640 : decode cL_law 640 = .ok (.iadd, 1) := by decide +kernel
theorem dL_law_641 : decode cL_law 641 = .ok (.iaload, 1) := by decide +kernel
theorem dL_law_642 : decode cL_law 642 = .ok (.aload_n 0, 1) := by decide +kernel
theorem dL_law_643 : decode cL_law 643 = .ok (.iload_n 3, 1) := by decide +kernel
theorem dL_law_644 : decode cL_law 644 = .ok (.iconst 4, 1) := by decide +kernel
theorem dL_law_645 : decode cL_law 645 = .ok (.iadd, 1) := by decide +kernel
theorem dL_law_646 : decode cL_law 646 = .ok (.iaload, 1) := by decide +kernel
theorem dL_law_647 : decode cL_law 647 = .ok (.invokevirtual 81, 3) := by decide +kernel
theorem dL_law_650 : decode cL_law 650 = .ok (.aload_n 2, 1) := by decide +kernel
theorem dL_law_651 : decode cL_law 651 = .ok (.aload_n 0, 1) := by decide +kernel
theorem dL_law_652 : decode cL_law 652 = .ok (.iload_n 3, 1) := by decide +kernel
theorem dL_law_653 : decode cL_law 653 = .ok (.iconst 1, 1) := by decide +kernel
theorem dL_law_654 : decode cL_law 654 = .ok (.iadd, 1) := by decide +kernel
theorem dL_law_655 : decode cL_law 655 = .ok (.iaload, 1) := by decide +kernel
theorem dL_law_656 : decode cL_law 656 = .ok (.aload_n 0, 1) := by decide +kernel
theorem dL_law_657 : decode cL_law 657 = .ok (.iload_n 3, 1) := by decide +kernel
theorem dL_law_658 : decode cL_law 658 = .ok (.iconst 2, 1) := by decide +kernel
theorem dL_law_659 : decode cL_law 659 = .ok (.iadd, 1) := by decide +kernel
theorem dL_law_660 : decode cL_law 660 = .ok (.iaload, 1) := by decide +kernel
theorem dL_law_661 : decode cL_law 661 = .ok (.aload_n 0, 1) := by decide +kernel
theorem dL_law_662 : decode cL_law 662 = .ok (.iload_n 3, 1) := by decide +kernel
theorem dL_law_663 : decode cL_law 663 = .ok (.iconst 3, 1) := by decide +kernel
theorem dL_law_664 : decode cL_law 664 = .ok (.iadd, 1) := by decide +kernel
theorem dL_law_665 : decode cL_law 665 = .ok (.iaload, 1) := by decide +kernel
theorem dL_law_666 : decode cL_law 666 = .ok (.aload_n 0, 1) := by decide +kernel
theorem dL_law_667 : decode cL_law 667 = .ok (.iload_n 3, 1) := by decide +kernel
theorem dL_law_668 : decode cL_law 668 = .ok (.iconst 4, 1) := by decide +kernel
theorem dL_law_669 : decode cL_law 669 = .ok (.iadd, 1) := by decide +kernel
theorem dL_law_670 : decode cL_law 670 = .ok (.iaload, 1) := by decide +kernel
theorem dL_law_671 : decode cL_law 671 = .ok (.invokevirtual 85, 3) := by decide +kernel
theorem dL_law_674 : decode cL_law 674 = .ok (.if_icmp .eq 452, 3) := by decide +kernel
theorem dL_law_677 : decode cL_law 677 = .ok (.iconst 0, 1) := by decide +kernel
theorem dL_law_678 : decode cL_law 678 = .ok (.ireturn, 1) := by decide +kernel
theorem dL_law_679 : decode cL_law 679 = .ok (.aload_n 1, 1) := by decide +kernel
theorem dL_law_680 : decode cL_law 680 = .ok (.aload_n 0, 1) := by decide +kernel
theorem dL_law_681 : decode cL_law 681 = .ok (.iload_n 3, 1) := by decide +kernel
theorem dL_law_682 : decode cL_law 682 = .ok (.iconst 1, 1) := by decide +kernel
theorem dL_law_683 : decode cL_law 683 = .ok (.iadd, 1) := by decide +kernel
theorem dL_law_684 : decode cL_law 684 = .ok (.iaload, 1) := by decide +kernel
theorem dL_law_685 : decode cL_law 685 = .ok (.aload_n 0, 1) := by decide +kernel
theorem dL_law_686 : decode cL_law 686 = .ok (.iload_n 3, 1) := by decide +kernel
theorem dL_law_687 : decode cL_law 687 = .ok (.iconst 2, 1) := by decide +kernel
theorem dL_law_688 : decode cL_law 688 = .ok (.iadd, 1) := by decide +kernel
theorem dL_law_689 : decode cL_law 689 = .ok (.iaload, 1) := by decide +kernel
theorem dL_law_690 : decode cL_law 690 = .ok (.invokevirtual 86, 3) := by decide +kernel
theorem dL_law_693 : decode cL_law 693 = .ok (.aload_n 2, 1) := by decide +kernel
theorem dL_law_694 : decode cL_law 694 = .ok (.aload_n 0, 1) := by decide +kernel
theorem dL_law_695 : decode cL_law 695 = .ok (.iload_n 3, 1) := by decide +kernel
theorem dL_law_696 : decode cL_law 696 = .ok (.iconst 1, 1) := by decide +kernel
theorem dL_law_697 : decode cL_law 697 = .ok (.iadd, 1) := by decide +kernel
theorem dL_law_698 : decode cL_law 698 = .ok (.iaload, 1) := by decide +kernel
theorem dL_law_699 : decode cL_law 699 = .ok (.aload_n 0, 1) := by decide +kernel
theorem dL_law_700 : decode cL_law 700 = .ok (.iload_n 3, 1) := by decide +kernel
theorem dL_law_701 : decode cL_law 701 = .ok (.iconst 2, 1) := by decide +kernel
theorem dL_law_702 : decode cL_law 702 = .ok (.iadd, 1) := by decide +kernel
theorem dL_law_703 : decode cL_law 703 = .ok (.iaload, 1) := by decide +kernel
theorem dL_law_704 : decode cL_law 704 = .ok (.invokevirtual 89, 3) := by decide +kernel
theorem dL_law_707 : decode cL_law 707 = .ok (.if_icmp .eq 419, 3) := by decide +kernel
theorem dL_law_710 : decode cL_law 710 = .ok (.iconst 0, 1) := by decide +kernel
theorem dL_law_711 : decode cL_law 711 = .ok (.ireturn, 1) := by decide +kernel
theorem dL_law_712 : decode cL_law 712 = .ok (.aload_n 1, 1) := by decide +kernel
theorem dL_law_713 : decode cL_law 713 = .ok (.aload_n 0, 1) := by decide +kernel
theorem dL_law_714 : decode cL_law 714 = .ok (.iload_n 3, 1) := by decide +kernel
theorem dL_law_715 : decode cL_law 715 = .ok (.iconst 1, 1) := by decide +kernel
theorem dL_law_716 : decode cL_law 716 = .ok (.iadd, 1) := by decide +kernel
theorem dL_law_717 : decode cL_law 717 = .ok (.iaload, 1) := by decide +kernel
theorem dL_law_718 : decode cL_law 718 = .ok (.aload_n 0, 1) := by decide +kernel
theorem dL_law_719 : decode cL_law 719 = .ok (.iload_n 3, 1) := by decide +kernel
theorem dL_law_720 : decode cL_law 720 = .ok (.iconst 2, 1) := by decide +kernel
theorem dL_law_721 : decode cL_law 721 = .ok (.iadd, 1) := by decide +kernel
theorem dL_law_722 : decode cL_law 722 = .ok (.iaload, 1) := by decide +kernel
theorem dL_law_723 : decode cL_law 723 = .ok (.invokevirtual 90, 3) := by decide +kernel
theorem dL_law_726 : decode cL_law 726 = .ok (.aload_n 2, 1) := by decide +kernel
theorem dL_law_727 : decode cL_law 727 = .ok (.aload_n 0, 1) := by decide +kernel
theorem dL_law_728 : decode cL_law 728 = .ok (.iload_n 3, 1) := by decide +kernel
theorem dL_law_729 : decode cL_law 729 = .ok (.iconst 1, 1) := by decide +kernel
theorem dL_law_730 : decode cL_law 730 = .ok (.iadd, 1) := by decide +kernel
theorem dL_law_731 : decode cL_law 731 = .ok (.iaload, 1) := by decide +kernel
theorem dL_law_732 : decode cL_law 732 = .ok (.aload_n 0, 1) := by decide +kernel
theorem dL_law_733 : decode cL_law 733 = .ok (.iload_n 3, 1) := by decide +kernel
theorem dL_law_734 : decode cL_law 734 = .ok (.iconst 2, 1) := by decide +kernel
theorem dL_law_735 : decode cL_law 735 = .ok (.iadd, 1) := by decide +kernel
theorem dL_law_736 : decode cL_law 736 = .ok (.iaload, 1) := by decide +kernel
theorem dL_law_737 : decode cL_law 737 = .ok (.invokevirtual 93, 3) := by decide +kernel
theorem dL_law_740 : decode cL_law 740 = .ok (.if_icmp .eq 386, 3) := by decide +kernel
theorem dL_law_743 : decode cL_law 743 = .ok (.iconst 0, 1) := by decide +kernel
theorem dL_law_744 : decode cL_law 744 = .ok (.ireturn, 1) := by decide +kernel
theorem dL_law_745 : decode cL_law 745 = .ok (.aload_n 1, 1) := by decide +kernel
theorem dL_law_746 : decode cL_law 746 = .ok (.aload_n 0, 1) := by decide +kernel
theorem dL_law_747 : decode cL_law 747 = .ok (.iload_n 3, 1) := by decide +kernel
theorem dL_law_748 : decode cL_law 748 = .ok (.iconst 1, 1) := by decide +kernel
theorem dL_law_749 : decode cL_law 749 = .ok (.iadd, 1) := by decide +kernel
theorem dL_law_750 : decode cL_law 750 = .ok (.iaload, 1) := by decide +kernel
theorem dL_law_751 : decode cL_law 751 = .ok (.invokevirtual 94, 3) := by decide +kernel
theorem dL_law_754 : decode cL_law 754 = .ok (.aload_n 2, 1) := by decide +kernel
theorem dL_law_755 : decode cL_law 755 = .ok (.aload_n 0, 1) := by decide +kernel
theorem dL_law_756 : decode cL_law 756 = .ok (.iload_n 3, 1) := by decide +kernel
theorem dL_law_757 : decode cL_law 757 = .ok (.iconst 1, 1) := by decide +kernel
theorem dL_law_758 : decode cL_law 758 = .ok (.iadd, 1) := by decide +kernel
theorem dL_law_759 : decode cL_law 759 = .ok (.iaload, 1) := by decide +kernel
theorem dL_law_760 : decode cL_law 760 = .ok (.invokevirtual 97, 3) := by decide +kernel
theorem dL_law_763 : decode cL_law 763 = .ok (.if_icmp .eq 363, 3) := by decide +kernel
theorem dL_law_766 : decode cL_law 766 = .ok (.iconst 0, 1) := by decide +kernel
theorem dL_law_767 : decode cL_law 767 = .ok (.ireturn, 1) := by decide +kernel
theorem dL_law_768 : decode cL_law 768 = .ok (.aload_n 1, 1) := by decide +kernel
theorem dL_law_769 : decode cL_law 769 = .ok (.aload_n 0, 1) := by decide +kernel
theorem dL_law_770 : decode cL_law 770 = .ok (.iload_n 3, 1) := by decide +kernel
theorem dL_law_771 : decode cL_law 771 = .ok (.iconst 1, 1) := by decide +kernel
theorem dL_law_772 : decode cL_law 772 = .ok (.iadd, 1) := by decide +kernel
theorem dL_law_773 : decode cL_law 773 = .ok (.iaload, 1) := by decide +kernel
theorem dL_law_774 : decode cL_law 774 = .ok (.invokevirtual 98, 3) := by decide +kernel
theorem dL_law_777 : decode cL_law 777 = .ok (.aload_n 2, 1) := by decide +kernel
theorem dL_law_778 : decode cL_law 778 = .ok (.aload_n 0, 1) := by decide +kernel
theorem dL_law_779 : decode cL_law 779 = .ok (.iload_n 3, 1) := by decide +kernel
theorem dL_law_780 : decode cL_law 780 = .ok (.iconst 1, 1) := by decide +kernel
theorem dL_law_781 : decode cL_law 781 = .ok (.iadd, 1) := by decide +kernel
theorem dL_law_782 : decode cL_law 782 = .ok (.iaload, 1) := by decide +kernel
theorem dL_law_783 : decode cL_law 783 = .ok (.invokevirtual 101, 3) := by decide +kernel
theorem dL_law_786 : decode cL_law 786 = .ok (.if_icmp .eq 340, 3) := by decide +kernel
theorem dL_law_789 : decode cL_law 789 = .ok (.iconst 0, 1) := by decide +kernel
theorem dL_law_790 : decode cL_law 790 = .ok (.ireturn, 1) := by decide +kernel
theorem dL_law_791 : decode cL_law 791 = .ok (.aload_n 1, 1) := by decide +kernel
theorem dL_law_792 : decode cL_law 792 = .ok (.invokevirtual 102, 3) := by decide +kernel
theorem dL_law_795 : decode cL_law 795 = .ok (.aload_n 2, 1) := by decide +kernel
theorem dL_law_796 : decode cL_law 796 = .ok (.invokevirtual 105, 3) := by decide +kernel
theorem dL_law_799 : decode cL_law 799 = .ok (.if_icmp .eq 327, 3) := by decide +kernel
theorem dL_law_802 : decode cL_law 802 = .ok (.iconst 0, 1) := by decide +kernel
theorem dL_law_803 : decode cL_law 803 = .ok (.ireturn, 1) := by decide +kernel
theorem dL_law_804 : decode cL_law 804 = .ok (.aload_n 1, 1) := by decide +kernel
theorem dL_law_805 : decode cL_law 805 = .ok (.aload_n 0, 1) := by decide +kernel
theorem dL_law_806 : decode cL_law 806 = .ok (.iload_n 3, 1) := by decide +kernel
theorem dL_law_807 : decode cL_law 807 = .ok (.iconst 1, 1) := by decide +kernel
theorem dL_law_808 : decode cL_law 808 = .ok (.iadd, 1) := by decide +kernel
theorem dL_law_809 : decode cL_law 809 = .ok (.iaload, 1) := by decide +kernel
theorem dL_law_810 : decode cL_law 810 = .ok (.aload_n 0, 1) := by decide +kernel
theorem dL_law_811 : decode cL_law 811 = .ok (.iload_n 3, 1) := by decide +kernel
theorem dL_law_812 : decode cL_law 812 = .ok (.iconst 2, 1) := by decide +kernel
theorem dL_law_813 : decode cL_law 813 = .ok (.iadd, 1) := by decide +kernel
theorem dL_law_814 : decode cL_law 814 = .ok (.iaload, 1) := by decide +kernel
theorem dL_law_815 : decode cL_law 815 = .ok (.aload_n 0, 1) := by decide +kernel
theorem dL_law_816 : decode cL_law 816 = .ok (.iload_n 3, 1) := by decide +kernel
theorem dL_law_817 : decode cL_law 817 = .ok (.iconst 3, 1) := by decide +kernel
theorem dL_law_818 : decode cL_law 818 = .ok (.iadd, 1) := by decide +kernel
theorem dL_law_819 : decode cL_law 819 = .ok (.iaload, 1) := by decide +kernel
theorem dL_law_820 : decode cL_law 820 = .ok (.invokevirtual 106, 3) := by decide +kernel
theorem dL_law_823 : decode cL_law 823 = .ok (.aload_n 2, 1) := by decide +kernel
theorem dL_law_824 : decode cL_law 824 = .ok (.aload_n 0, 1) := by decide +kernel
theorem dL_law_825 : decode cL_law 825 = .ok (.iload_n 3, 1) := by decide +kernel
theorem dL_law_826 : decode cL_law 826 = .ok (.iconst 1, 1) := by decide +kernel
theorem dL_law_827 : decode cL_law 827 = .ok (.iadd, 1) := by decide +kernel
theorem dL_law_828 : decode cL_law 828 = .ok (.iaload, 1) := by decide +kernel
theorem dL_law_829 : decode cL_law 829 = .ok (.aload_n 0, 1) := by decide +kernel
theorem dL_law_830 : decode cL_law 830 = .ok (.iload_n 3, 1) := by decide +kernel
theorem dL_law_831 : decode cL_law 831 = .ok (.iconst 2, 1) := by decide +kernel
theorem dL_law_832 : decode cL_law 832 = .ok (.iadd, 1) := by decide +kernel
theorem dL_law_833 : decode cL_law 833 = .ok (.iaload, 1) := by decide +kernel
theorem dL_law_834 : decode cL_law 834 = .ok (.aload_n 0, 1) := by decide +kernel
theorem dL_law_835 : decode cL_law 835 = .ok (.iload_n 3, 1) := by decide +kernel
theorem dL_law_836 : decode cL_law 836 = .ok (.iconst 3, 1) := by decide +kernel
theorem dL_law_837 : decode cL_law 837 = .ok (.iadd, 1) := by decide +kernel
theorem dL_law_838 : decode cL_law 838 = .ok (.iaload, 1) := by decide +kernel
theorem dL_law_839 : decode cL_law 839 = .ok (.invokevirtual 109, 3) := by decide +kernel
theorem dL_law_842 : decode cL_law 842 = .ok (.if_icmp .eq 284, 3) := by decide +kernel
theorem dL_law_845 : decode cL_law 845 = .ok (.iconst 0, 1) := by decide +kernel
theorem dL_law_846 : decode cL_law 846 = .ok (.ireturn, 1) := by decide +kernel
theorem dL_law_847 : decode cL_law 847 = .ok (.aload_n 1, 1) := by decide +kernel
theorem dL_law_848 : decode cL_law 848 = .ok (.invokevirtual 110, 3) := by decide +kernel
theorem dL_law_851 : decode cL_law 851 = .ok (.aload_n 2, 1) := by decide +kernel
theorem dL_law_852 : decode cL_law 852 = .ok (.invokevirtual 113, 3) := by decide +kernel
theorem dL_law_855 : decode cL_law 855 = .ok (.if_icmp .eq 271, 3) := by decide +kernel
theorem dL_law_858 : decode cL_law 858 = .ok (.iconst 0, 1) := by decide +kernel
theorem dL_law_859 : decode cL_law 859 = .ok (.ireturn, 1) := by decide +kernel
theorem dL_law_860 : decode cL_law 860 = .ok (.aload_n 1, 1) := by decide +kernel
theorem dL_law_861 : decode cL_law 861 = .ok (.aload_n 0, 1) := by decide +kernel
theorem dL_law_862 : decode cL_law 862 = .ok (.iload_n 3, 1) := by decide +kernel
theorem dL_law_863 : decode cL_law 863 = .ok (.iconst 1, 1) := by decide +kernel
theorem dL_law_864 : decode cL_law 864 = .ok (.iadd, 1) := by decide +kernel
theorem dL_law_865 : decode cL_law 865 = .ok (.iaload, 1) := by decide +kernel
theorem dL_law_866 : decode cL_law 866 = .ok (.invokevirtual 114, 3) := by decide +kernel
theorem dL_law_869 : decode cL_law 869 = .ok (.aload_n 2, 1) := by decide +kernel
theorem dL_law_870 : decode cL_law 870 = .ok (.aload_n 0, 1) := by decide +kernel
theorem dL_law_871 : decode cL_law 871 = .ok (.iload_n 3, 1) := by decide +kernel
theorem dL_law_872 : decode cL_law 872 = .ok (.iconst 1, 1) := by decide +kernel
theorem dL_law_873 : decode cL_law 873 = .ok (.iadd, 1) := by decide +kernel
theorem dL_law_874 : decode cL_law 874 = .ok (.iaload, 1) := by decide +kernel
theorem dL_law_875 : decode cL_law 875 = .ok (.invokevirtual 117, 3) := by decide +kernel
theorem dL_law_878 : decode cL_law 878 = .ok (.if_icmp .eq 248, 3) := by decide +kernel
theorem dL_law_881 : decode cL_law 881 = .ok (.iconst 0, 1) := by decide +kernel
theorem dL_law_882 : decode cL_law 882 = .ok (.ireturn, 1) := by decide +kernel
theorem dL_law_883 : decode cL_law 883 = .ok (.aload_n 1, 1) := by decide +kernel
theorem dL_law_884 : decode cL_law 884 = .ok (.invokevirtual 118, 3) := by decide +kernel
theorem dL_law_887 : decode cL_law 887 = .ok (.aload_n 2, 1) := by decide +kernel
theorem dL_law_888 : decode cL_law 888 = .ok (.invokevirtual 122, 3) := by decide +kernel
theorem dL_law_891 : decode cL_law 891 = .ok (.lcmp, 1) := by decide +kernel
theorem dL_law_892 : decode cL_law 892 = .ok (.ifCond .eq 234, 3) := by decide +kernel
theorem dL_law_895 : decode cL_law 895 = .ok (.iconst 0, 1) := by decide +kernel
theorem dL_law_896 : decode cL_law 896 = .ok (.ireturn, 1) := by decide +kernel
theorem dL_law_897 : decode cL_law 897 = .ok (.aload_n 1, 1) := by decide +kernel
theorem dL_law_898 : decode cL_law 898 = .ok (.aload_n 0, 1) := by decide +kernel
theorem dL_law_899 : decode cL_law 899 = .ok (.iload_n 3, 1) := by decide +kernel
theorem dL_law_900 : decode cL_law 900 = .ok (.iconst 1, 1) := by decide +kernel
theorem dL_law_901 : decode cL_law 901 = .ok (.iadd, 1) := by decide +kernel
theorem dL_law_902 : decode cL_law 902 = .ok (.iaload, 1) := by decide +kernel
theorem dL_law_903 : decode cL_law 903 = .ok (.invokevirtual 123, 3) := by decide +kernel
theorem dL_law_906 : decode cL_law 906 = .ok (.aload_n 2, 1) := by decide +kernel
theorem dL_law_907 : decode cL_law 907 = .ok (.aload_n 0, 1) := by decide +kernel
theorem dL_law_908 : decode cL_law 908 = .ok (.iload_n 3, 1) := by decide +kernel
theorem dL_law_909 : decode cL_law 909 = .ok (.iconst 1, 1) := by decide +kernel
theorem dL_law_910 : decode cL_law 910 = .ok (.iadd, 1) := by decide +kernel
theorem dL_law_911 : decode cL_law 911 = .ok (.iaload, 1) := by decide +kernel
theorem dL_law_912 : decode cL_law 912 = .ok (.invokevirtual 126, 3) := by decide +kernel
theorem dL_law_915 : decode cL_law 915 = .ok (.if_icmp .eq 211, 3) := by decide +kernel
theorem dL_law_918 : decode cL_law 918 = .ok (.iconst 0, 1) := by decide +kernel
theorem dL_law_919 : decode cL_law 919 = .ok (.ireturn, 1) := by decide +kernel
theorem dL_law_920 : decode cL_law 920 = .ok (.aload_n 1, 1) := by decide +kernel
theorem dL_law_921 : decode cL_law 921 = .ok (.aload_n 0, 1) := by decide +kernel
theorem dL_law_922 : decode cL_law 922 = .ok (.iload_n 3, 1) := by decide +kernel
theorem dL_law_923 : decode cL_law 923 = .ok (.iconst 1, 1) := by decide +kernel
theorem dL_law_924 : decode cL_law 924 = .ok (.iadd, 1) := by decide +kernel
theorem dL_law_925 : decode cL_law 925 = .ok (.iaload, 1) := by decide +kernel
theorem dL_law_926 : decode cL_law 926 = .ok (.aload_n 0, 1) := by decide +kernel
theorem dL_law_927 : decode cL_law 927 = .ok (.iload_n 3, 1) := by decide +kernel
theorem dL_law_928 : decode cL_law 928 = .ok (.iconst 2, 1) := by decide +kernel
theorem dL_law_929 : decode cL_law 929 = .ok (.iadd, 1) := by decide +kernel
theorem dL_law_930 : decode cL_law 930 = .ok (.iaload, 1) := by decide +kernel
theorem dL_law_931 : decode cL_law 931 = .ok (.aload_n 0, 1) := by decide +kernel
theorem dL_law_932 : decode cL_law 932 = .ok (.iload_n 3, 1) := by decide +kernel
theorem dL_law_933 : decode cL_law 933 = .ok (.iconst 3, 1) := by decide +kernel
theorem dL_law_934 : decode cL_law 934 = .ok (.iadd, 1) := by decide +kernel
theorem dL_law_935 : decode cL_law 935 = .ok (.iaload, 1) := by decide +kernel
theorem dL_law_936 : decode cL_law 936 = .ok (.invokevirtual 127, 3) := by decide +kernel
theorem dL_law_939 : decode cL_law 939 = .ok (.aload_n 2, 1) := by decide +kernel
theorem dL_law_940 : decode cL_law 940 = .ok (.aload_n 0, 1) := by decide +kernel
theorem dL_law_941 : decode cL_law 941 = .ok (.iload_n 3, 1) := by decide +kernel
theorem dL_law_942 : decode cL_law 942 = .ok (.iconst 1, 1) := by decide +kernel
theorem dL_law_943 : decode cL_law 943 = .ok (.iadd, 1) := by decide +kernel
theorem dL_law_944 : decode cL_law 944 = .ok (.iaload, 1) := by decide +kernel
theorem dL_law_945 : decode cL_law 945 = .ok (.aload_n 0, 1) := by decide +kernel
theorem dL_law_946 : decode cL_law 946 = .ok (.iload_n 3, 1) := by decide +kernel
theorem dL_law_947 : decode cL_law 947 = .ok (.iconst 2, 1) := by decide +kernel
theorem dL_law_948 : decode cL_law 948 = .ok (.iadd, 1) := by decide +kernel
theorem dL_law_949 : decode cL_law 949 = .ok (.iaload, 1) := by decide +kernel
theorem dL_law_950 : decode cL_law 950 = .ok (.aload_n 0, 1) := by decide +kernel
theorem dL_law_951 : decode cL_law 951 = .ok (.iload_n 3, 1) := by decide +kernel
theorem dL_law_952 : decode cL_law 952 = .ok (.iconst 3, 1) := by decide +kernel
theorem dL_law_953 : decode cL_law 953 = .ok (.iadd, 1) := by decide +kernel
theorem dL_law_954 : decode cL_law 954 = .ok (.iaload, 1) := by decide +kernel
theorem dL_law_955 : decode cL_law 955 = .ok (.invokevirtual 130, 3) := by decide +kernel
theorem dL_law_958 : decode cL_law 958 = .ok (.if_icmp .eq 168, 3) := by decide +kernel
theorem dL_law_961 : decode cL_law 961 = .ok (.iconst 0, 1) := by decide +kernel
theorem dL_law_962 : decode cL_law 962 = .ok (.ireturn, 1) := by decide +kernel
theorem dL_law_963 : decode cL_law 963 = .ok (.aload_n 1, 1) := by decide +kernel
theorem dL_law_964 : decode cL_law 964 = .ok (.aload_n 0, 1) := by decide +kernel
theorem dL_law_965 : decode cL_law 965 = .ok (.iload_n 3, 1) := by decide +kernel
theorem dL_law_966 : decode cL_law 966 = .ok (.iconst 1, 1) := by decide +kernel
theorem dL_law_967 : decode cL_law 967 = .ok (.iadd, 1) := by decide +kernel
theorem dL_law_968 : decode cL_law 968 = .ok (.iaload, 1) := by decide +kernel
theorem dL_law_969 : decode cL_law 969 = .ok (.aload_n 0, 1) := by decide +kernel
theorem dL_law_970 : decode cL_law 970 = .ok (.iload_n 3, 1) := by decide +kernel
theorem dL_law_971 : decode cL_law 971 = .ok (.iconst 2, 1) := by decide +kernel
theorem dL_law_972 : decode cL_law 972 = .ok (.iadd, 1) := by decide +kernel
theorem dL_law_973 : decode cL_law 973 = .ok (.iaload, 1) := by decide +kernel
theorem dL_law_974 : decode cL_law 974 = .ok (.invokevirtual 131, 3) := by decide +kernel
theorem dL_law_977 : decode cL_law 977 = .ok (.aload_n 2, 1) := by decide +kernel
theorem dL_law_978 : decode cL_law 978 = .ok (.aload_n 0, 1) := by decide +kernel
theorem dL_law_979 : decode cL_law 979 = .ok (.iload_n 3, 1) := by decide +kernel
theorem dL_law_980 : decode cL_law 980 = .ok (.iconst 1, 1) := by decide +kernel
theorem dL_law_981 : decode cL_law 981 = .ok (.iadd, 1) := by decide +kernel
theorem dL_law_982 : decode cL_law 982 = .ok (.iaload, 1) := by decide +kernel
theorem dL_law_983 : decode cL_law 983 = .ok (.aload_n 0, 1) := by decide +kernel
theorem dL_law_984 : decode cL_law 984 = .ok (.iload_n 3, 1) := by decide +kernel
theorem dL_law_985 : decode cL_law 985 = .ok (.iconst 2, 1) := by decide +kernel
theorem dL_law_986 : decode cL_law 986 = .ok (.iadd, 1) := by decide +kernel
theorem dL_law_987 : decode cL_law 987 = .ok (.iaload, 1) := by decide +kernel
theorem dL_law_988 : decode cL_law 988 = .ok (.invokevirtual 134, 3) := by decide +kernel
theorem dL_law_991 : decode cL_law 991 = .ok (.if_icmp .eq 135, 3) := by decide +kernel
theorem dL_law_994 : decode cL_law 994 = .ok (.iconst 0, 1) := by decide +kernel
theorem dL_law_995 : decode cL_law 995 = .ok (.ireturn, 1) := by decide +kernel
theorem dL_law_996 : decode cL_law 996 = .ok (.aload_n 1, 1) := by decide +kernel
theorem dL_law_997 : decode cL_law 997 = .ok (.aload_n 0, 1) := by decide +kernel
theorem dL_law_998 : decode cL_law 998 = .ok (.iload_n 3, 1) := by decide +kernel
theorem dL_law_999 : decode cL_law 999 = .ok (.iconst 1, 1) := by decide +kernel
theorem dL_law_1000 : decode cL_law 1000 = .ok (.iadd, 1) := by decide +kernel
theorem dL_law_1001 : decode cL_law 1001 = .ok (.iaload, 1) := by decide +kernel
theorem dL_law_1002 : decode cL_law 1002 = .ok (.invokevirtual 135, 3) := by decide +kernel
theorem dL_law_1005 : decode cL_law 1005 = .ok (.aload_n 2, 1) := by decide +kernel
theorem dL_law_1006 : decode cL_law 1006 = .ok (.aload_n 0, 1) := by decide +kernel
theorem dL_law_1007 : decode cL_law 1007 = .ok (.iload_n 3, 1) := by decide +kernel
theorem dL_law_1008 : decode cL_law 1008 = .ok (.iconst 1, 1) := by decide +kernel
theorem dL_law_1009 : decode cL_law 1009 = .ok (.iadd, 1) := by decide +kernel
theorem dL_law_1010 : decode cL_law 1010 = .ok (.iaload, 1) := by decide +kernel
theorem dL_law_1011 : decode cL_law 1011 = .ok (.invokevirtual 139, 3) := by decide +kernel
theorem dL_law_1014 : decode cL_law 1014 = .ok (.lcmp, 1) := by decide +kernel
theorem dL_law_1015 : decode cL_law 1015 = .ok (.ifCond .eq 111, 3) := by decide +kernel
theorem dL_law_1018 : decode cL_law 1018 = .ok (.iconst 0, 1) := by decide +kernel
theorem dL_law_1019 : decode cL_law 1019 = .ok (.ireturn, 1) := by decide +kernel
theorem dL_law_1020 : decode cL_law 1020 = .ok (.aload_n 1, 1) := by decide +kernel
theorem dL_law_1021 : decode cL_law 1021 = .ok (.aload_n 0, 1) := by decide +kernel
theorem dL_law_1022 : decode cL_law 1022 = .ok (.iload_n 3, 1) := by decide +kernel
theorem dL_law_1023 : decode cL_law 1023 = .ok (.iconst 1, 1) := by decide +kernel
theorem dL_law_1024 : decode cL_law 1024 = .ok (.iadd, 1) := by decide +kernel
theorem dL_law_1025 : decode cL_law 1025 = .ok (.iaload, 1) := by decide +kernel
theorem dL_law_1026 : decode cL_law 1026 = .ok (.invokevirtual 140, 3) := by decide +kernel
theorem dL_law_1029 : decode cL_law 1029 = .ok (.aload_n 2, 1) := by decide +kernel
theorem dL_law_1030 : decode cL_law 1030 = .ok (.aload_n 0, 1) := by decide +kernel
theorem dL_law_1031 : decode cL_law 1031 = .ok (.iload_n 3, 1) := by decide +kernel
theorem dL_law_1032 : decode cL_law 1032 = .ok (.iconst 1, 1) := by decide +kernel
theorem dL_law_1033 : decode cL_law 1033 = .ok (.iadd, 1) := by decide +kernel
theorem dL_law_1034 : decode cL_law 1034 = .ok (.iaload, 1) := by decide +kernel
theorem dL_law_1035 : decode cL_law 1035 = .ok (.invokevirtual 143, 3) := by decide +kernel
theorem dL_law_1038 : decode cL_law 1038 = .ok (.if_icmp .eq 88, 3) := by decide +kernel
theorem dL_law_1041 : decode cL_law 1041 = .ok (.iconst 0, 1) := by decide +kernel
theorem dL_law_1042 : decode cL_law 1042 = .ok (.ireturn, 1) := by decide +kernel
theorem dL_law_1043 : decode cL_law 1043 = .ok (.aload_n 1, 1) := by decide +kernel
theorem dL_law_1044 : decode cL_law 1044 = .ok (.aload_n 0, 1) := by decide +kernel
theorem dL_law_1045 : decode cL_law 1045 = .ok (.iload_n 3, 1) := by decide +kernel
theorem dL_law_1046 : decode cL_law 1046 = .ok (.iconst 1, 1) := by decide +kernel
theorem dL_law_1047 : decode cL_law 1047 = .ok (.iadd, 1) := by decide +kernel
theorem dL_law_1048 : decode cL_law 1048 = .ok (.iaload, 1) := by decide +kernel
theorem dL_law_1049 : decode cL_law 1049 = .ok (.invokevirtual 144, 3) := by decide +kernel
theorem dL_law_1052 : decode cL_law 1052 = .ok (.aload_n 2, 1) := by decide +kernel
theorem dL_law_1053 : decode cL_law 1053 = .ok (.aload_n 0, 1) := by decide +kernel
theorem dL_law_1054 : decode cL_law 1054 = .ok (.iload_n 3, 1) := by decide +kernel
theorem dL_law_1055 : decode cL_law 1055 = .ok (.iconst 1, 1) := by decide +kernel
theorem dL_law_1056 : decode cL_law 1056 = .ok (.iadd, 1) := by decide +kernel
theorem dL_law_1057 : decode cL_law 1057 = .ok (.iaload, 1) := by decide +kernel
theorem dL_law_1058 : decode cL_law 1058 = .ok (.invokevirtual 147, 3) := by decide +kernel
theorem dL_law_1061 : decode cL_law 1061 = .ok (.if_icmp .eq 65, 3) := by decide +kernel
theorem dL_law_1064 : decode cL_law 1064 = .ok (.iconst 0, 1) := by decide +kernel
theorem dL_law_1065 : decode cL_law 1065 = .ok (.ireturn, 1) := by decide +kernel
theorem dL_law_1066 : decode cL_law 1066 = .ok (.aload_n 1, 1) := by decide +kernel
theorem dL_law_1067 : decode cL_law 1067 = .ok (.aload_n 0, 1) := by decide +kernel
theorem dL_law_1068 : decode cL_law 1068 = .ok (.iload_n 3, 1) := by decide +kernel
theorem dL_law_1069 : decode cL_law 1069 = .ok (.iconst 1, 1) := by decide +kernel
theorem dL_law_1070 : decode cL_law 1070 = .ok (.iadd, 1) := by decide +kernel
theorem dL_law_1071 : decode cL_law 1071 = .ok (.iaload, 1) := by decide +kernel
theorem dL_law_1072 : decode cL_law 1072 = .ok (.invokevirtual 148, 3) := by decide +kernel
theorem dL_law_1075 : decode cL_law 1075 = .ok (.aload_n 2, 1) := by decide +kernel
theorem dL_law_1076 : decode cL_law 1076 = .ok (.aload_n 0, 1) := by decide +kernel
theorem dL_law_1077 : decode cL_law 1077 = .ok (.iload_n 3, 1) := by decide +kernel
theorem dL_law_1078 : decode cL_law 1078 = .ok (.iconst 1, 1) := by decide +kernel
theorem dL_law_1079 : decode cL_law 1079 = .ok (.iadd, 1) := by decide +kernel
theorem dL_law_1080 : decode cL_law 1080 = .ok (.iaload, 1) := by decide +kernel
theorem dL_law_1081 : decode cL_law 1081 = .ok (.invokevirtual 151, 3) := by decide +kernel
theorem dL_law_1084 : decode cL_law 1084 = .ok (.if_icmp .eq 42, 3) := by decide +kernel
theorem dL_law_1087 : decode cL_law 1087 = .ok (.iconst 0, 1) := by decide +kernel
theorem dL_law_1088 : decode cL_law 1088 = .ok (.ireturn, 1) := by decide +kernel
theorem dL_law_1089 : decode cL_law 1089 = .ok (.aload_n 1, 1) := by decide +kernel
theorem dL_law_1090 : decode cL_law 1090 = .ok (.aload_n 0, 1) := by decide +kernel
theorem dL_law_1091 : decode cL_law 1091 = .ok (.iload_n 3, 1) := by decide +kernel
theorem dL_law_1092 : decode cL_law 1092 = .ok (.iconst 1, 1) := by decide +kernel
theorem dL_law_1093 : decode cL_law 1093 = .ok (.iadd, 1) := by decide +kernel
theorem dL_law_1094 : decode cL_law 1094 = .ok (.iaload, 1) := by decide +kernel
theorem dL_law_1095 : decode cL_law 1095 = .ok (.invokevirtual 152, 3) := by decide +kernel
theorem dL_law_1098 : decode cL_law 1098 = .ok (.aload_n 2, 1) := by decide +kernel
theorem dL_law_1099 : decode cL_law 1099 = .ok (.aload_n 0, 1) := by decide +kernel
theorem dL_law_1100 : decode cL_law 1100 = .ok (.iload_n 3, 1) := by decide +kernel
theorem dL_law_1101 : decode cL_law 1101 = .ok (.iconst 1, 1) := by decide +kernel
theorem dL_law_1102 : decode cL_law 1102 = .ok (.iadd, 1) := by decide +kernel
theorem dL_law_1103 : decode cL_law 1103 = .ok (.iaload, 1) := by decide +kernel
theorem dL_law_1104 : decode cL_law 1104 = .ok (.invokevirtual 155, 3) := by decide +kernel
theorem dL_law_1107 : decode cL_law 1107 = .ok (.if_icmp .eq 19, 3) := by decide +kernel
theorem dL_law_1110 : decode cL_law 1110 = .ok (.iconst 0, 1) := by decide +kernel
theorem dL_law_1111 : decode cL_law 1111 = .ok (.ireturn, 1) := by decide +kernel
theorem dL_law_1112 : decode cL_law 1112 = .ok (.aload_n 1, 1) := by decide +kernel
theorem dL_law_1113 : decode cL_law 1113 = .ok (.invokevirtual 156, 3) := by decide +kernel
theorem dL_law_1116 : decode cL_law 1116 = .ok (.aload_n 2, 1) := by decide +kernel
theorem dL_law_1117 : decode cL_law 1117 = .ok (.invokevirtual 159, 3) := by decide +kernel
theorem dL_law_1120 : decode cL_law 1120 = .ok (.lcmp, 1) := by decide +kernel
theorem dL_law_1121 : decode cL_law 1121 = .ok (.ifCond .eq 5, 3) := by decide +kernel
theorem dL_law_1124 : decode cL_law 1124 = .ok (.iconst 0, 1) := by decide +kernel
theorem dL_law_1125 : decode cL_law 1125 = .ok (.ireturn, 1) := by decide +kernel
theorem dL_law_1126 : decode cL_law 1126 = .ok (.iinc 3 5, 3) := by decide +kernel
theorem dL_law_1129 : decode cL_law 1129 = .ok (.goto (-1111), 3) := by decide +kernel
theorem dL_law_1132 : decode cL_law 1132 = .ok (.iconst 1, 1) := by decide +kernel
theorem dL_law_1133 : decode cL_law 1133 = .ok (.ireturn, 1) := by decide +kernel
end
section
/-! ===== a machine of whole numbers over the fixed cells: values, memory, worlds ===== -/
abbrev jV : Type := Int ⊕ (Int ⊕ Option Nat)
abbrev jI (a : Int) : jV := Sum.inl a
abbrev jL (a : Int) : jV := Sum.inr (Sum.inl a)
abbrev jR (r : Nat) : jV := Sum.inr (Sum.inr (some r))
abbrev jN : jV := Sum.inr (Sum.inr none)
/-- the first own cell, the kinds' numbers, their slots, the arrays' numbers, the heap at the start, the outer cells, the script's length, the script -/
abbrev jX : Type := Nat × (Nat → ClassId) × (Nat → Nat → Nat) × (FieldType → ClassId) × Heap × (Nat → Nat) × Nat × (Nat → Int)
abbrev jMI : Type := Nat → Nat → Int
abbrev jMR : Type := Nat → Nat → Option Nat
def jB (X : jX) : Nat := X.1
def jD (X : jX) : va_G := (X.2.1, X.2.2.1)
def jcA (X : jX) : FieldType → ClassId := X.2.2.2.1
def jHB (X : jX) : Heap := X.2.2.2.2.1
def jex (X : jX) : Nat → Nat := X.2.2.2.2.2.1
def jA (X : jX) : Nat → Prop := fun q => jB X ≤ q
/-- a cell's address by its number: below 1000 own ones, from 1000 on outer ones -/
def jad (X : jX) (k : Nat) : Nat := if k < 1000 then jB X + k else jex X (k - 1000)
def jv (X : jX) : jV → Value
  | Sum.inl a => .int (Int32.ofInt a)
  | Sum.inr (Sum.inl a) => .long (Int64.ofInt a)
  | Sum.inr (Sum.inr r) => va_rf (r.map (jad X))
def jshL : List ((FieldType × Nat) ⊕ Nat) := [.inr 11, .inr 4, .inr 2, .inl (.object RX7, 6), .inr 7, .inr 3, .inr 5, .inr 0, .inr 6, .inr 10, .inl (.int, 64), .inl (.int, 64), .inl (.int, 5), .inl (.int, 5), .inl (.int, 5), .inl (.int, 5), .inl (.int, 5), .inl (.int, 20), .inl (.int, 3), .inl (.int, 3), .inl (.int, 8), .inl (.int, 8), .inl (.int, 8), .inl (.int, 6), .inl (.int, 6), .inl (.int, 6), .inl (.object RX4, 2), .inr 4, .inr 2, .inl (.object RX7, 6), .inr 7, .inr 3, .inr 5, .inr 0, .inr 6, .inr 10, .inl (.int, 64), .inl (.int, 64), .inl (.int, 5), .inl (.int, 5), .inl (.int, 5), .inl (.int, 5), .inl (.int, 5), .inl (.int, 20), .inl (.int, 3), .inl (.int, 3), .inl (.int, 8), .inl (.int, 8), .inl (.int, 8), .inl (.int, 6), .inl (.int, 6), .inl (.int, 6), .inr 4, .inr 2, .inl (.object RX7, 6), .inr 7, .inr 3, .inr 5, .inr 0, .inr 6, .inr 10, .inl (.int, 64), .inl (.int, 64), .inl (.int, 5), .inl (.int, 5), .inl (.int, 5), .inl (.int, 5), .inl (.int, 5), .inl (.int, 20), .inl (.int, 3), .inl (.int, 3), .inl (.int, 8), .inl (.int, 8), .inl (.int, 8), .inl (.int, 6), .inl (.int, 6), .inl (.int, 6), .inl (.boolean, 2), .inr 8, .inl (.byte, 150), .inr 2, .inl (.object RX7, 6), .inr 7, .inr 3, .inr 5, .inr 0, .inr 6, .inr 10, .inl (.int, 64), .inl (.int, 64), .inl (.int, 5), .inl (.int, 5), .inl (.int, 5), .inl (.int, 5), .inl (.int, 5), .inl (.int, 20), .inr 1, .inl (.int, 8), .inl (.int, 8), .inl (.int, 8), .inr 9, .inl (.int, 96), .inl (.long, 104), .inl (.long, 104), .inl (.long, 6), .inr 12, .inl (.int, 99), .inl (.int, 3), .inl (.int, 150), .inl (.int, 5), .inl (.int, 8), .inl (.int, 40), .inl (.boolean, 64), .inl (.int, 480), .inl (.boolean, 64), .inl (.boolean, 64), .inl (.long, 104), .inl (.long, 104), .inl (.boolean, 768), .inl (.int, 5), .inl (.boolean, 2), .inl (.int, 198), .inl (.int, 80), .inl (.int, 2)]
def jsh (k : Nat) : (FieldType × Nat) ⊕ Nat := jshL.getD k (.inr 99)
def jnF (ci : Nat) : Nat := match vwCl[ci]? with
  | some q => q.2.2
  | none => 0
def jtT (ci : Nat) : u_T := match vwCl[ci]? with
  | some q => q.2.1
  | none => TX0
def jnm (ci : Nat) : String := match vwCl[ci]? with
  | some q => q.1
  | none => ""
def jty (ci : Nat) : Nat → FieldType := ([tyX0, tyX1, tyX2, tyX3, tyX4, tyX5, tyX6, tyX7, tyX8, tyX9, tyX10, tyX11, tyX12] : List (Nat → FieldType)).getD ci tyX0
/-- 0: an int or less, 1: a long, 2: a reference -/
def jkd : FieldType → Nat
  | .long => 1
  | .object _ => 2
  | .array _ => 2
  | _ => 0
def jfv (X : jX) (I : jMI) (R : jMR) (ty : FieldType) (k j : Nat) : Value := match jkd ty with
  | 0 => .int (Int32.ofInt (I k j))
  | 1 => .long (Int64.ofInt (I k j))
  | _ => va_rf ((R k j).map (jad X))
def jac (X : jX) (I : jMI) (R : jMR) (ty : FieldType) (k : Nat) : (Nat → Int32) ⊕ (Nat → Int64) ⊕ (Nat → UInt32) ⊕ (Nat → UInt64) ⊕ (Nat → Option Nat) := match jkd ty with
  | 0 => .inl (fun j => Int32.ofInt (I k j))
  | 1 => .inr (.inl (fun j => Int64.ofInt (I k j)))
  | _ => .inr (.inr (.inr (.inr (fun j => (R k j).map (jad X)))))
def jfs (X : jX) (I : jMI) (R : jMR) (ci k : Nat) : List Value := (List.range (jnF ci)).map (fun j => jfv X I R (jty ci j) k j)
def jen (X : jX) (I : jMI) (R : jMR) (k : Nat) : va_E := match jsh k with
  | .inl (ty, len) => .inl (jcA X ty, len, jac X I R ty k)
  | .inr ci => .inr (ci, jfs X I R ci k)
def jW (X : jX) (I : jMI) (R : jMR) (n : Nat) : va_W := (List.range n).map (fun k => (jB X + k, jen X I R k))
def jTs : List FieldType := [.int, .long, .byte, .boolean, .object RX7, .object RX4]
def jTys (X : jX) : List (ClassId × FieldType) := jTs.map (fun ty => (jcA X ty, ty))
def jSt (I : jMI) (k j : Nat) (a : Int) : jMI := fun k' j' => if k' = k ∧ j' = j then a else I k' j'
def jSr (R : jMR) (k j : Nat) (a : Option Nat) : jMR := fun k' j' => if k' = k ∧ j' = j then a else R k' j'
/-- the outer world at a state: the script, the String constants, String's own static -/
def jE (X : jX) (U : State) : Prop :=
  va_X (jex X 0) X.2.2.2.2.2.2.1 (fun j => Int32.ofInt (X.2.2.2.2.2.2.2 j)) U (jHB X) ∧ X.2.2.2.2.2.2.1 < 2 ^ 31 ∧ jex X 0 < jB X ∧ (jHB X).size = jB X ∧
  vk_S 4 [5, 5, 7, 5] [[104, 111, 117, 115, 101], [115, 116, 97, 105, 114], [115, 108, 101, 101, 112, 101, 114], [116, 104, 105, 110, 103]] (fun i => jex X (1 + i)) (fun i => jex X (11 + i)) (jA X) U (jHB X) ∧
  (vk_R RX8 30 "house" (jex X 1) U ∧ vk_R RX8 50 "stair" (jex X 2) U ∧ vk_R RX8 55 "sleeper" (jex X 3) U ∧ vk_R RX8 60 "thing" (jex X 4) U) ∧
  va_Z "java/lang/String" "COMPACT_STRINGS" "Z" (.int 1) (jA X) U (jHB X)
def jK (X : jX) (s : State) : Prop := (∀ w ∈ lw_tbl, ∀ (a : Array Value) (U : State), s.WarmedH U.vm → w.before a U = true) ∧ va_K (jD X) vwCl (jTys X) s ∧ jE X s
def jHp (X : jX) (I : jMI) (R : jMR) (n : Nat) (H : Heap) : Prop := va_P (jD X) vwCl (jW X I R n) H ∧ H.size = jB X + n ∧ ∀ q : Nat, q < jB X → H[q]? = (jHB X)[q]?
def jPc (X : jX) (As : List jV) (I : jMI) (R : jMR) (n : Nat) : Array Value → State → Prop := fun a U => a = (As.map (jv X)).toArray ∧ jHp X I R n U.heap ∧ jK X U
def jQc (X : jX) (Q : Option jV → jMI → jMR → Nat → Prop) : Array Value → State → Outcome → State → Prop := fun _ st o t => ∃ (v : Option jV) (I : jMI) (R : jMR) (n : Nat), o = .returned (v.map (jv X)) ∧ Q v I R n ∧ jHp X I R n t.heap ∧ st.heap.size ≤ t.heap.size
/-- a method's contract: any caller, from this memory: it returns, with Q -/
def CG (X : jX) (y : MethodName) (cc : ByteArray) (nL : Nat) (ret : Option FieldType) (d mc ms : Nat) (As : List jV) (I : jMI) (R : jMR) (n : Nat) (Q : Option jV → jMI → jMR → Nat → Prop) : Prop :=
  ∀ l : Launch, Met l y [.code y cc nL ret] { frames := d, cells := mc, slots := ms, locals := 36 * d } (jPc X As I R n) (jQc X Q) mc ms (jA X)
def jLs (X : jX) (ls : Array Slot) (nL : Nat) (L : List (Option jV)) : Prop := ls.size = nL ∧ lv_wf ls ∧ ∀ (i : Nat) (v : jV), L[i]? = some (some v) → ls[i]? = some (.val (jv X v))
def jH (X : jX) (I : jMI) (R : jMR) (n : Nat) (s : State) (H : Heap) (locs : List Loc) : Prop := jHp X I R n H ∧ va_S (jA X) s.heap H locs
def jC (X : jX) (own nm : String) (cc : ByteArray) (nL : Nat) (ret : Option FieldType) (d : Nat) (p : Program) (RR : Room) (s : State) (m : MethodId) (meth : Method) (c : Code) : Prop :=
  p.tables.exec = Jvm.exec ∧ c.code = cc ∧ c.maxLocals = nL ∧ s.vm.findClass own = some m.cls ∧ meth.sig.returnType = ret ∧ meth.locks = false ∧ d ≤ RR.frames ∧ 36 * d ≤ RR.locals ∧ jK X s ∧ meth.name = nm
/-- a value of a small type stands as it is -/
def jRok (ret : Option FieldType) (v : Option jV) : Prop := match v with
  | none => ret = none
  | some (Sum.inl a) => ret = some .int ∨ ∃ ty, ret = some ty ∧ narrow ty (.int (Int32.ofInt a)) = .int (Int32.ofInt a)
  | some (Sum.inr (Sum.inl _)) => ret = some .long
  | some (Sum.inr (Sum.inr _)) => False
def jRi (v : Option jV) : Instr := match v with
  | none => .return_
  | some (Sum.inl _) => .ireturn
  | some (Sum.inr (Sum.inl _)) => .lreturn
  | some (Sum.inr (Sum.inr _)) => .areturn
/-- from here the method comes to its end, with Q -/
def J (X : jX) (own nm : String) (cc : ByteArray) (nL : Nat) (ret : Option FieldType) (d bc bs pc : Nat) (L : List (Option jV)) (st : List jV) (I : jMI) (R : jMR) (n : Nat) (Q : Option jV → jMI → jMR → Nat → Prop) : Prop :=
  ∀ (p : Program) (l : Launch) (e : Env) (RR : Room) (s : State) (m : MethodId) (args : Array Value) (below : List Frame) (meth : Method) (c : Code) (H : Heap) (locs : List Loc) (cells slots : Nat) (QQ : State → Prop) (ls : Array Slot),
    jC X own nm cc nL ret d p RR s m meth c → cells + bc ≤ RR.cells → slots + bs ≤ RR.slots → jH X I R n s H locs → jLs X ls nL L →
    (∀ (v : Option jV) (I' : jMI) (R' : jMR) (n' : Nat) (H' : Heap) (locs' : List Loc) (cells' slots' pc' : Nat) (ls' : Array Slot), Q v I' R' n' → jH X I' R' n' s H' locs' → cells' ≤ cells + bc → slots' ≤ slots + bs → jRok ret v → decode cc pc' = .ok (jRi v, 1) → W p l e RR s m args below meth c H' locs' cells' slots' QQ (F0 m pc' ls' (v.map (jv X)).toList)) →
    W p l e RR s m args below meth c H locs cells slots QQ (F0 m pc ls (st.map (jv X)))
end
section
/-! ===== one-instruction rows ===== -/
theorem jr_i {a : Int} (h : -2147483648 ≤ a ∧ a < 2147483648) : (Int32.ofInt a).toInt = a := Int32.toInt_ofInt_of_le (by omega) (by omega)
theorem jr_l {a : Int} (h : -9223372036854775808 ≤ a ∧ a < 9223372036854775808) : (Int64.ofInt a).toInt = a := Int64.toInt_ofInt_of_le (by omega) (by omega)
theorem jr_eq {a b : Int} (ha : -2147483648 ≤ a ∧ a < 2147483648) (hb : -2147483648 ≤ b ∧ b < 2147483648) : Int32.ofInt a = Int32.ofInt b ↔ a = b := by
  rw [← Int32.toInt_inj, jr_i ha, jr_i hb]
theorem jr_lt {a b : Int} (ha : -2147483648 ≤ a ∧ a < 2147483648) (hb : -2147483648 ≤ b ∧ b < 2147483648) : Int32.ofInt a < Int32.ofInt b ↔ a < b := by
  rw [Int32.lt_iff_toInt_lt, jr_i ha, jr_i hb]
theorem jr_le {a b : Int} (ha : -2147483648 ≤ a ∧ a < 2147483648) (hb : -2147483648 ≤ b ∧ b < 2147483648) : Int32.ofInt a ≤ Int32.ofInt b ↔ a ≤ b := by
  rw [Int32.le_iff_toInt_le, jr_i ha, jr_i hb]
theorem j0 : -2147483648 ≤ (0 : Int) ∧ (0 : Int) < 2147483648 := by decide
theorem jr_0 : (0 : Int32) = Int32.ofInt 0 := rfl
theorem jr_cl {j : Int} {len : Nat} (h : 0 ≤ j ∧ j < (len : Int)) (hl : len ≤ 1000) : (Int32.ofInt j).toNatClampNeg = j.toNat := by
  rw [Int32.toNatClampNeg_ofInt_of_le (by omega) (by omega)]
theorem jr_in {j : Int} {len : Nat} (h : 0 ≤ j ∧ j < (len : Int)) (hl : len ≤ 1000) : vp_in (Int32.ofInt j) len := by
  rw [vp_in_iff, jr_i (by omega)]
  exact h
def jband (a b : Int) : Int := (Int32.ofInt a &&& Int32.ofInt b).toInt
def jbor (a b : Int) : Int := (Int32.ofInt a ||| Int32.ofInt b).toInt
def jbxor (a b : Int) : Int := (Int32.ofInt a ^^^ Int32.ofInt b).toInt
def jshl (a b : Int) : Int := (Int32.ofInt a <<< (Int32.ofInt b &&& 31)).toInt
def jshr (a b : Int) : Int := (Int32.ofInt a >>> (Int32.ofInt b &&& 31)).toInt
def jushr (a b : Int) : Int := ((Int32.ofInt a).toUInt32 >>> ((Int32.ofInt b).toUInt32 &&& Int32.toUInt32 31)).toInt32.toInt
def ji2b (a : Int) : Int := (Int32.ofInt a).toInt8.toInt32.toInt
def ji2c (a : Int) : Int := ((Int32.ofInt a).toUInt32 % 65536).toInt32.toInt
def jcmp (a b : Int) : Int := (lg_cmp (Int64.ofInt a) (Int64.ofInt b)).toInt
def jprev (L : List (Option jV)) : Nat → Bool
  | 0 => true
  | i + 1 => match L[i]? with
    | some (some (Sum.inr (Sum.inl _))) => false
    | _ => true

theorem jv_cat {X : jX} {v : jV} (h : ∀ a, v ≠ jL a) : (jv X v).category = 1 := by
  match v with
  | Sum.inl a => rfl
  | Sum.inr (Sum.inl a) => exact absurd rfl (h a)
  | Sum.inr (Sum.inr none) => rfl
  | Sum.inr (Sum.inr (some r)) => rfl

section JS
variable {X : jX} {own nm : String} {cc : ByteArray} {nL : Nat} {ret : Option FieldType} {d bc bs pc : Nat} {L : List (Option jV)} {st : List jV} {I : jMI} {R : jMR} {n : Nat} {Q : Option jV → jMI → jMR → Nat → Prop}

theorem j_iconst {z : Int} (hd : decode cc pc = .ok (.iconst z, 1)) (k : J X own nm cc nL ret d bc bs (pc + 1) (L) (jI z :: st) (I) (R) (n) Q) : J X own nm cc nL ret d bc bs (pc) (L) (st) (I) (R) (n) Q := by
  intro p l e RR s m args below meth c H locs cells slots QQ ls C hc hs hH hL hr
  exact lv_iconst C.1 C.2.1 hd rfl (k p l e RR s m args below meth c H locs cells slots QQ ls C hc hs hH hL hr)

theorem j_bipush {z : Int} (hd : decode cc pc = .ok (.bipush z, 2)) (hz : (Int8.ofInt z).toInt32 = Int32.ofInt z) (k : J X own nm cc nL ret d bc bs (pc + 2) (L) (jI z :: st) (I) (R) (n) Q) : J X own nm cc nL ret d bc bs (pc) (L) (st) (I) (R) (n) Q := by
  intro p l e RR s m args below meth c H locs cells slots QQ ls C hc hs hH hL hr
  exact lv_bipush C.1 C.2.1 hd hz (k p l e RR s m args below meth c H locs cells slots QQ ls C hc hs hH hL hr)

theorem j_sipush {z : Int} (hd : decode cc pc = .ok (.sipush z, 3)) (hz : (Int16.ofInt z).toInt32 = Int32.ofInt z) (k : J X own nm cc nL ret d bc bs (pc + 3) (L) (jI z :: st) (I) (R) (n) Q) : J X own nm cc nL ret d bc bs (pc) (L) (st) (I) (R) (n) Q := by
  intro p l e RR s m args below meth c H locs cells slots QQ ls C hc hs hH hL hr
  exact lv_sipush C.1 C.2.1 hd hz (k p l e RR s m args below meth c H locs cells slots QQ ls C hc hs hH hL hr)

theorem j_lconst0 (hd : decode cc pc = .ok (.lconst 0, 1)) (k : J X own nm cc nL ret d bc bs (pc + 1) (L) (jL 0 :: st) (I) (R) (n) Q) : J X own nm cc nL ret d bc bs (pc) (L) (st) (I) (R) (n) Q := by
  intro p l e RR s m args below meth c H locs cells slots QQ ls C hc hs hH hL hr
  exact lv_lconst C.1 C.2.1 hd rfl (k p l e RR s m args below meth c H locs cells slots QQ ls C hc hs hH hL hr)

theorem j_lconst1 (hd : decode cc pc = .ok (.lconst 1, 1)) (k : J X own nm cc nL ret d bc bs (pc + 1) (L) (jL 1 :: st) (I) (R) (n) Q) : J X own nm cc nL ret d bc bs (pc) (L) (st) (I) (R) (n) Q := by
  intro p l e RR s m args below meth c H locs cells slots QQ ls C hc hs hH hL hr
  exact lv_lconst C.1 C.2.1 hd rfl (k p l e RR s m args below meth c H locs cells slots QQ ls C hc hs hH hL hr)

theorem j_iload_n {i : Fin 4} {a : Int} (hd : decode cc pc = .ok (.iload_n i, 1)) (hl : L[(i : Nat)]? = some (some (jI a))) (k : J X own nm cc nL ret d bc bs (pc + 1) (L) (jI a :: st) (I) (R) (n) Q) : J X own nm cc nL ret d bc bs (pc) (L) (st) (I) (R) (n) Q := by
  intro p l e RR s m args below meth c H locs cells slots QQ ls C hc hs hH hL hr
  exact lv_iload_n C.1 C.2.1 hd rfl (hL.2.2 _ _ hl) (k p l e RR s m args below meth c H locs cells slots QQ ls C hc hs hH hL hr)

theorem j_iload {i : Nat} {a : Int} (hd : decode cc pc = .ok (.iload i, 2)) (hl : L[i]? = some (some (jI a))) (k : J X own nm cc nL ret d bc bs (pc + 2) (L) (jI a :: st) (I) (R) (n) Q) : J X own nm cc nL ret d bc bs (pc) (L) (st) (I) (R) (n) Q := by
  intro p l e RR s m args below meth c H locs cells slots QQ ls C hc hs hH hL hr
  exact lv_iload C.1 C.2.1 hd (hL.2.2 _ _ hl) (k p l e RR s m args below meth c H locs cells slots QQ ls C hc hs hH hL hr)

theorem j_lload_n {i : Fin 4} {a : Int} (hd : decode cc pc = .ok (.lload_n i, 1)) (hl : L[(i : Nat)]? = some (some (jL a))) (k : J X own nm cc nL ret d bc bs (pc + 1) (L) (jL a :: st) (I) (R) (n) Q) : J X own nm cc nL ret d bc bs (pc) (L) (st) (I) (R) (n) Q := by
  intro p l e RR s m args below meth c H locs cells slots QQ ls C hc hs hH hL hr
  exact lv_lload_n C.1 C.2.1 hd rfl (hL.2.2 _ _ hl) (k p l e RR s m args below meth c H locs cells slots QQ ls C hc hs hH hL hr)

theorem j_lload {i : Nat} {a : Int} (hd : decode cc pc = .ok (.lload i, 2)) (hl : L[i]? = some (some (jL a))) (k : J X own nm cc nL ret d bc bs (pc + 2) (L) (jL a :: st) (I) (R) (n) Q) : J X own nm cc nL ret d bc bs (pc) (L) (st) (I) (R) (n) Q := by
  intro p l e RR s m args below meth c H locs cells slots QQ ls C hc hs hH hL hr
  exact lv_lload C.1 C.2.1 hd (hL.2.2 _ _ hl) (k p l e RR s m args below meth c H locs cells slots QQ ls C hc hs hH hL hr)

theorem j_aload_n {i : Fin 4} {a : Nat} (hd : decode cc pc = .ok (.aload_n i, 1)) (hl : L[(i : Nat)]? = some (some (jR a))) (k : J X own nm cc nL ret d bc bs (pc + 1) (L) (jR a :: st) (I) (R) (n) Q) : J X own nm cc nL ret d bc bs (pc) (L) (st) (I) (R) (n) Q := by
  intro p l e RR s m args below meth c H locs cells slots QQ ls C hc hs hH hL hr
  exact lv_aload_n C.1 C.2.1 hd rfl (hL.2.2 _ _ hl) (k p l e RR s m args below meth c H locs cells slots QQ ls C hc hs hH hL hr)

theorem j_aload {i : Nat} {a : Nat} (hd : decode cc pc = .ok (.aload i, 2)) (hl : L[i]? = some (some (jR a))) (k : J X own nm cc nL ret d bc bs (pc + 2) (L) (jR a :: st) (I) (R) (n) Q) : J X own nm cc nL ret d bc bs (pc) (L) (st) (I) (R) (n) Q := by
  intro p l e RR s m args below meth c H locs cells slots QQ ls C hc hs hH hL hr
  exact lv_aload C.1 C.2.1 hd (hL.2.2 _ _ hl) (k p l e RR s m args below meth c H locs cells slots QQ ls C hc hs hH hL hr)

theorem j_iadd {a b : Int} (hd : decode cc pc = .ok (.iadd, 1)) (k : J X own nm cc nL ret d bc bs (pc + 1) (L) (jI (a + b) :: st) (I) (R) (n) Q) : J X own nm cc nL ret d bc bs (pc) (L) (jI b :: jI a :: st) (I) (R) (n) Q := by
  intro p l e RR s m args below meth c H locs cells slots QQ ls C hc hs hH hL hr
  refine lv_iadd C.1 C.2.1 hd ?_
  rw [← Int32.ofInt_add]
  exact k p l e RR s m args below meth c H locs cells slots QQ ls C hc hs hH hL hr

theorem j_isub {a b : Int} (hd : decode cc pc = .ok (.isub, 1)) (k : J X own nm cc nL ret d bc bs (pc + 1) (L) (jI (a - b) :: st) (I) (R) (n) Q) : J X own nm cc nL ret d bc bs (pc) (L) (jI b :: jI a :: st) (I) (R) (n) Q := by
  intro p l e RR s m args below meth c H locs cells slots QQ ls C hc hs hH hL hr
  refine lv_isub C.1 C.2.1 hd ?_
  rw [← Int32.ofInt_sub]
  exact k p l e RR s m args below meth c H locs cells slots QQ ls C hc hs hH hL hr

theorem j_imul {a b : Int} (hd : decode cc pc = .ok (.imul, 1)) (k : J X own nm cc nL ret d bc bs (pc + 1) (L) (jI (a * b) :: st) (I) (R) (n) Q) : J X own nm cc nL ret d bc bs (pc) (L) (jI b :: jI a :: st) (I) (R) (n) Q := by
  intro p l e RR s m args below meth c H locs cells slots QQ ls C hc hs hH hL hr
  refine lv_imul C.1 C.2.1 hd ?_
  rw [← Int32.ofInt_mul]
  exact k p l e RR s m args below meth c H locs cells slots QQ ls C hc hs hH hL hr

theorem j_ladd {a b : Int} (hd : decode cc pc = .ok (.ladd, 1)) (k : J X own nm cc nL ret d bc bs (pc + 1) (L) (jL (a + b) :: st) (I) (R) (n) Q) : J X own nm cc nL ret d bc bs (pc) (L) (jL b :: jL a :: st) (I) (R) (n) Q := by
  intro p l e RR s m args below meth c H locs cells slots QQ ls C hc hs hH hL hr
  refine lv_ladd C.1 C.2.1 hd ?_
  rw [← Int64.ofInt_add]
  exact k p l e RR s m args below meth c H locs cells slots QQ ls C hc hs hH hL hr

theorem j_lsub {a b : Int} (hd : decode cc pc = .ok (.lsub, 1)) (k : J X own nm cc nL ret d bc bs (pc + 1) (L) (jL (a - b) :: st) (I) (R) (n) Q) : J X own nm cc nL ret d bc bs (pc) (L) (jL b :: jL a :: st) (I) (R) (n) Q := by
  intro p l e RR s m args below meth c H locs cells slots QQ ls C hc hs hH hL hr
  refine lv_lsub C.1 C.2.1 hd ?_
  rw [← Int64.ofInt_sub]
  exact k p l e RR s m args below meth c H locs cells slots QQ ls C hc hs hH hL hr

theorem j_lmul {a b : Int} (hd : decode cc pc = .ok (.lmul, 1)) (k : J X own nm cc nL ret d bc bs (pc + 1) (L) (jL (a * b) :: st) (I) (R) (n) Q) : J X own nm cc nL ret d bc bs (pc) (L) (jL b :: jL a :: st) (I) (R) (n) Q := by
  intro p l e RR s m args below meth c H locs cells slots QQ ls C hc hs hH hL hr
  refine lv_lmul C.1 C.2.1 hd ?_
  rw [← Int64.ofInt_mul]
  exact k p l e RR s m args below meth c H locs cells slots QQ ls C hc hs hH hL hr

theorem j_iand {a b : Int} (hd : decode cc pc = .ok (.iand, 1)) (k : J X own nm cc nL ret d bc bs (pc + 1) (L) (jI (jband a b) :: st) (I) (R) (n) Q) : J X own nm cc nL ret d bc bs (pc) (L) (jI b :: jI a :: st) (I) (R) (n) Q := by
  intro p l e RR s m args below meth c H locs cells slots QQ ls C hc hs hH hL hr
  refine lv_iand C.1 C.2.1 hd ?_
  have k2 := k p l e RR s m args below meth c H locs cells slots QQ ls C hc hs hH hL hr
  simp only [List.map_cons, jv, jband, Int32.ofInt_toInt] at k2
  exact k2

theorem j_ior {a b : Int} (hd : decode cc pc = .ok (.ior, 1)) (k : J X own nm cc nL ret d bc bs (pc + 1) (L) (jI (jbor a b) :: st) (I) (R) (n) Q) : J X own nm cc nL ret d bc bs (pc) (L) (jI b :: jI a :: st) (I) (R) (n) Q := by
  intro p l e RR s m args below meth c H locs cells slots QQ ls C hc hs hH hL hr
  refine lv_ior C.1 C.2.1 hd ?_
  have k2 := k p l e RR s m args below meth c H locs cells slots QQ ls C hc hs hH hL hr
  simp only [List.map_cons, jv, jbor, Int32.ofInt_toInt] at k2
  exact k2

theorem j_ixor {a b : Int} (hd : decode cc pc = .ok (.ixor, 1)) (k : J X own nm cc nL ret d bc bs (pc + 1) (L) (jI (jbxor a b) :: st) (I) (R) (n) Q) : J X own nm cc nL ret d bc bs (pc) (L) (jI b :: jI a :: st) (I) (R) (n) Q := by
  intro p l e RR s m args below meth c H locs cells slots QQ ls C hc hs hH hL hr
  refine lv_ixor C.1 C.2.1 hd ?_
  have k2 := k p l e RR s m args below meth c H locs cells slots QQ ls C hc hs hH hL hr
  simp only [List.map_cons, jv, jbxor, Int32.ofInt_toInt] at k2
  exact k2

theorem j_ishl {a b : Int} (hd : decode cc pc = .ok (.ishl, 1)) (k : J X own nm cc nL ret d bc bs (pc + 1) (L) (jI (jshl a b) :: st) (I) (R) (n) Q) : J X own nm cc nL ret d bc bs (pc) (L) (jI b :: jI a :: st) (I) (R) (n) Q := by
  intro p l e RR s m args below meth c H locs cells slots QQ ls C hc hs hH hL hr
  refine lv_ishl C.1 C.2.1 hd ?_
  have k2 := k p l e RR s m args below meth c H locs cells slots QQ ls C hc hs hH hL hr
  simp only [List.map_cons, jv, jshl, Int32.ofInt_toInt] at k2
  exact k2

theorem j_ishr {a b : Int} (hd : decode cc pc = .ok (.ishr, 1)) (k : J X own nm cc nL ret d bc bs (pc + 1) (L) (jI (jshr a b) :: st) (I) (R) (n) Q) : J X own nm cc nL ret d bc bs (pc) (L) (jI b :: jI a :: st) (I) (R) (n) Q := by
  intro p l e RR s m args below meth c H locs cells slots QQ ls C hc hs hH hL hr
  refine lv_ishr C.1 C.2.1 hd ?_
  have k2 := k p l e RR s m args below meth c H locs cells slots QQ ls C hc hs hH hL hr
  simp only [List.map_cons, jv, jshr, Int32.ofInt_toInt] at k2
  exact k2

theorem j_iushr {a b : Int} (hd : decode cc pc = .ok (.iushr, 1)) (k : J X own nm cc nL ret d bc bs (pc + 1) (L) (jI (jushr a b) :: st) (I) (R) (n) Q) : J X own nm cc nL ret d bc bs (pc) (L) (jI b :: jI a :: st) (I) (R) (n) Q := by
  intro p l e RR s m args below meth c H locs cells slots QQ ls C hc hs hH hL hr
  refine lv_iushr C.1 C.2.1 hd rfl ?_
  have k2 := k p l e RR s m args below meth c H locs cells slots QQ ls C hc hs hH hL hr
  simp only [List.map_cons, jv, jushr, Int32.ofInt_toInt] at k2
  exact k2

theorem j_i2b {a : Int} (hd : decode cc pc = .ok (.i2b, 1)) (k : J X own nm cc nL ret d bc bs (pc + 1) (L) (jI (ji2b a) :: st) (I) (R) (n) Q) : J X own nm cc nL ret d bc bs (pc) (L) (jI a :: st) (I) (R) (n) Q := by
  intro p l e RR s m args below meth c H locs cells slots QQ ls C hc hs hH hL hr
  refine lv_i2b C.1 C.2.1 hd rfl ?_
  have k2 := k p l e RR s m args below meth c H locs cells slots QQ ls C hc hs hH hL hr
  simp only [List.map_cons, jv, ji2b, Int32.ofInt_toInt] at k2
  exact k2

theorem j_i2c {a : Int} (hd : decode cc pc = .ok (.i2c, 1)) (k : J X own nm cc nL ret d bc bs (pc + 1) (L) (jI (ji2c a) :: st) (I) (R) (n) Q) : J X own nm cc nL ret d bc bs (pc) (L) (jI a :: st) (I) (R) (n) Q := by
  intro p l e RR s m args below meth c H locs cells slots QQ ls C hc hs hH hL hr
  refine lv_i2c C.1 C.2.1 hd rfl ?_
  have k2 := k p l e RR s m args below meth c H locs cells slots QQ ls C hc hs hH hL hr
  simp only [List.map_cons, jv, ji2c, Int32.ofInt_toInt] at k2
  exact k2

theorem j_lcmp {a b : Int} (hd : decode cc pc = .ok (.lcmp, 1)) (k : J X own nm cc nL ret d bc bs (pc + 1) (L) (jI (jcmp a b) :: st) (I) (R) (n) Q) : J X own nm cc nL ret d bc bs (pc) (L) (jL b :: jL a :: st) (I) (R) (n) Q := by
  intro p l e RR s m args below meth c H locs cells slots QQ ls C hc hs hH hL hr
  refine W.lcmp C.1 C.2.1 hd ?_
  have k2 := k p l e RR s m args below meth c H locs cells slots QQ ls C hc hs hH hL hr
  simp only [List.map_cons, jv, jcmp, Int32.ofInt_toInt] at k2
  exact k2

theorem j_i2l {a : Int} (hd : decode cc pc = .ok (.i2l, 1)) (ha : -2147483648 ≤ a ∧ a < 2147483648) (k : J X own nm cc nL ret d bc bs (pc + 1) (L) (jL a :: st) (I) (R) (n) Q) : J X own nm cc nL ret d bc bs (pc) (L) (jI a :: st) (I) (R) (n) Q := by
  intro p l e RR s m args below meth c H locs cells slots QQ ls C hc hs hH hL hr
  refine lv_i2l C.1 C.2.1 hd (v := Int64.ofInt a) ?_ ?_
  · rw [← Int64.toInt_inj, Int32.toInt_toInt64, jr_i ha, jr_l (by omega)]
  exact k p l e RR s m args below meth c H locs cells slots QQ ls C hc hs hH hL hr

theorem j_l2i {a : Int} (hd : decode cc pc = .ok (.l2i, 1)) (k : J X own nm cc nL ret d bc bs (pc + 1) (L) (jI a :: st) (I) (R) (n) Q) : J X own nm cc nL ret d bc bs (pc) (L) (jL a :: st) (I) (R) (n) Q := by
  intro p l e RR s m args below meth c H locs cells slots QQ ls C hc hs hH hL hr
  refine lv_l2i C.1 C.2.1 hd (v := Int32.ofInt a) Int64.toInt32_ofInt ?_
  exact k p l e RR s m args below meth c H locs cells slots QQ ls C hc hs hH hL hr

theorem j_idiv {a b : Int} (hd : decode cc pc = .ok (.idiv, 1)) (ha : 0 ≤ a ∧ a < 2147483648) (hb : 0 < b ∧ b < 2147483648) (k : J X own nm cc nL ret d bc bs (pc + 1) (L) (jI (a / b) :: st) (I) (R) (n) Q) : J X own nm cc nL ret d bc bs (pc) (L) (jI b :: jI a :: st) (I) (R) (n) Q := by
  intro p l e RR s m args below meth c H locs cells slots QQ ls C hc hs hH hL hr
  refine lv_idiv C.1 C.2.1 hd ?_ ?_
  · rw [jr_0, jr_eq (by omega) (by omega)]
    omega
  have hq : 0 ≤ a / b ∧ a / b < 2147483648 := ⟨Int.ediv_nonneg ha.1 (by omega), Int.lt_of_le_of_lt (Int.ediv_le_self b ha.1) ha.2⟩
  have e1 : Int32.ofInt a / Int32.ofInt b = Int32.ofInt (a / b) := by
    rw [← Int32.toInt_inj, Int32.toInt_div, jr_i (by omega), jr_i (by omega), jr_i (by omega), Int.tdiv_eq_ediv_of_nonneg ha.1]
    exact Int.bmod_eq_of_le (by omega) (by omega)
  rw [e1]
  exact k p l e RR s m args below meth c H locs cells slots QQ ls C hc hs hH hL hr

theorem j_irem {a b : Int} (hd : decode cc pc = .ok (.irem, 1)) (ha : 0 ≤ a ∧ a < 2147483648) (hb : 0 < b ∧ b < 2147483648) (k : J X own nm cc nL ret d bc bs (pc + 1) (L) (jI (a % b) :: st) (I) (R) (n) Q) : J X own nm cc nL ret d bc bs (pc) (L) (jI b :: jI a :: st) (I) (R) (n) Q := by
  intro p l e RR s m args below meth c H locs cells slots QQ ls C hc hs hH hL hr
  refine lv_irem C.1 C.2.1 hd ?_ ?_
  · rw [jr_0, jr_eq (by omega) (by omega)]
    omega
  have hq : 0 ≤ a / b ∧ a / b < 2147483648 := ⟨Int.ediv_nonneg ha.1 (by omega), Int.lt_of_le_of_lt (Int.ediv_le_self b ha.1) ha.2⟩
  have e1 : Int32.ofInt a / Int32.ofInt b = Int32.ofInt (a / b) := by
    rw [← Int32.toInt_inj, Int32.toInt_div, jr_i (by omega), jr_i (by omega), jr_i (by omega), Int.tdiv_eq_ediv_of_nonneg ha.1]
    exact Int.bmod_eq_of_le (by omega) (by omega)
  rw [e1, ← Int32.ofInt_mul, ← Int32.ofInt_sub, show a - a / b * b = a % b by rw [Int.emod_def, Int.mul_comm]]
  exact k p l e RR s m args below meth c H locs cells slots QQ ls C hc hs hH hL hr

theorem j_ldiv {a b : Int} (hd : decode cc pc = .ok (.ldiv, 1)) (ha : 0 ≤ a ∧ a < 9223372036854775808) (hb : 0 < b ∧ b < 9223372036854775808) (k : J X own nm cc nL ret d bc bs (pc + 1) (L) (jL (a / b) :: st) (I) (R) (n) Q) : J X own nm cc nL ret d bc bs (pc) (L) (jL b :: jL a :: st) (I) (R) (n) Q := by
  intro p l e RR s m args below meth c H locs cells slots QQ ls C hc hs hH hL hr
  have hz : ¬ Int64.ofInt b = 0 := by
    rw [show (0 : Int64) = Int64.ofInt 0 from rfl, ← Int64.toInt_inj, jr_l (by omega), jr_l (by omega)]
    omega
  refine lv_ldiv C.1 C.2.1 hd hz ?_
  have hq : 0 ≤ a / b ∧ a / b < 9223372036854775808 := ⟨Int.ediv_nonneg ha.1 (by omega), Int.lt_of_le_of_lt (Int.ediv_le_self b ha.1) ha.2⟩
  have e1 : Int64.ofInt a / Int64.ofInt b = Int64.ofInt (a / b) := by
    rw [← Int64.toInt_inj, Int64.toInt_div, jr_l (by omega), jr_l (by omega), jr_l (by omega), Int.tdiv_eq_ediv_of_nonneg ha.1]
    exact Int.bmod_eq_of_le (by omega) (by omega)
  rw [e1]
  exact k p l e RR s m args below meth c H locs cells slots QQ ls C hc hs hH hL hr

theorem j_lrem {a b : Int} (hd : decode cc pc = .ok (.lrem, 1)) (ha : 0 ≤ a ∧ a < 9223372036854775808) (hb : 0 < b ∧ b < 9223372036854775808) (k : J X own nm cc nL ret d bc bs (pc + 1) (L) (jL (a % b) :: st) (I) (R) (n) Q) : J X own nm cc nL ret d bc bs (pc) (L) (jL b :: jL a :: st) (I) (R) (n) Q := by
  intro p l e RR s m args below meth c H locs cells slots QQ ls C hc hs hH hL hr
  have hz : ¬ Int64.ofInt b = 0 := by
    rw [show (0 : Int64) = Int64.ofInt 0 from rfl, ← Int64.toInt_inj, jr_l (by omega), jr_l (by omega)]
    omega
  refine lv_lrem C.1 C.2.1 hd hz ?_
  have hq : 0 ≤ a / b ∧ a / b < 9223372036854775808 := ⟨Int.ediv_nonneg ha.1 (by omega), Int.lt_of_le_of_lt (Int.ediv_le_self b ha.1) ha.2⟩
  have e1 : Int64.ofInt a / Int64.ofInt b = Int64.ofInt (a / b) := by
    rw [← Int64.toInt_inj, Int64.toInt_div, jr_l (by omega), jr_l (by omega), jr_l (by omega), Int.tdiv_eq_ediv_of_nonneg ha.1]
    exact Int.bmod_eq_of_le (by omega) (by omega)
  rw [e1, ← Int64.ofInt_mul, ← Int64.ofInt_sub, show a - a / b * b = a % b by rw [Int.emod_def, Int.mul_comm]]
  exact k p l e RR s m args below meth c H locs cells slots QQ ls C hc hs hH hL hr

theorem j_dupR {r : Nat} (hd : decode cc pc = .ok (.dup, 1)) (k : J X own nm cc nL ret d bc bs (pc + 1) (L) (jR r :: jR r :: st) (I) (R) (n) Q) : J X own nm cc nL ret d bc bs (pc) (L) (jR r :: st) (I) (R) (n) Q := by
  intro p l e RR s m args below meth c H locs cells slots QQ ls C hc hs hH hL hr
  exact lv_dup C.1 C.2.1 hd rfl (k p l e RR s m args below meth c H locs cells slots QQ ls C hc hs hH hL hr)

theorem j_dupI {a : Int} (hd : decode cc pc = .ok (.dup, 1)) (k : J X own nm cc nL ret d bc bs (pc + 1) (L) (jI a :: jI a :: st) (I) (R) (n) Q) : J X own nm cc nL ret d bc bs (pc) (L) (jI a :: st) (I) (R) (n) Q := by
  intro p l e RR s m args below meth c H locs cells slots QQ ls C hc hs hH hL hr
  exact lv_dup C.1 C.2.1 hd rfl (k p l e RR s m args below meth c H locs cells slots QQ ls C hc hs hH hL hr)

theorem j_pop {a : Int} (hd : decode cc pc = .ok (.pop, 1)) (k : J X own nm cc nL ret d bc bs (pc + 1) (L) (st) (I) (R) (n) Q) : J X own nm cc nL ret d bc bs (pc) (L) (jI a :: st) (I) (R) (n) Q := by
  intro p l e RR s m args below meth c H locs cells slots QQ ls C hc hs hH hL hr
  exact lv_pop C.1 C.2.1 hd rfl (k p l e RR s m args below meth c H locs cells slots QQ ls C hc hs hH hL hr)

theorem j_dup2 {r : Nat} {a : Int} (hd : decode cc pc = .ok (.dup2, 1)) (k : J X own nm cc nL ret d bc bs (pc + 1) (L) (jI a :: jR r :: jI a :: jR r :: st) (I) (R) (n) Q) : J X own nm cc nL ret d bc bs (pc) (L) (jI a :: jR r :: st) (I) (R) (n) Q := by
  intro p l e RR s m args below meth c H locs cells slots QQ ls C hc hs hH hL hr
  exact lv_dup2_11 C.1 C.2.1 hd rfl rfl (k p l e RR s m args below meth c H locs cells slots QQ ls C hc hs hH hL hr)

theorem j_dup2L {a : Int} (hd : decode cc pc = .ok (.dup2, 1)) (k : J X own nm cc nL ret d bc bs (pc + 1) (L) (jL a :: jL a :: st) (I) (R) (n) Q) : J X own nm cc nL ret d bc bs (pc) (L) (jL a :: st) (I) (R) (n) Q := by
  intro p l e RR s m args below meth c H locs cells slots QQ ls C hc hs hH hL hr
  exact lv_dup2_2 C.1 C.2.1 hd rfl (k p l e RR s m args below meth c H locs cells slots QQ ls C hc hs hH hL hr)

theorem j_dup_x1 {r : Nat} {a : Int} (hd : decode cc pc = .ok (.dup_x1, 1)) (k : J X own nm cc nL ret d bc bs (pc + 1) (L) (jI a :: jR r :: jI a :: st) (I) (R) (n) Q) : J X own nm cc nL ret d bc bs (pc) (L) (jI a :: jR r :: st) (I) (R) (n) Q := by
  intro p l e RR s m args below meth c H locs cells slots QQ ls C hc hs hH hL hr
  exact lv_dup_x1 C.1 C.2.1 hd rfl rfl (k p l e RR s m args below meth c H locs cells slots QQ ls C hc hs hH hL hr)

theorem j_goto {off : Int} (tgt : Nat) (hd : decode cc pc = .ok (.goto off, 3)) (ht : (pc : Int) + off = (tgt : Int)) (k : J X own nm cc nL ret d bc bs (tgt) (L) (st) (I) (R) (n) Q) : J X own nm cc nL ret d bc bs (pc) (L) (st) (I) (R) (n) Q := by
  intro p l e RR s m args below meth c H locs cells slots QQ ls C hc hs hH hL hr
  exact lv_goto C.1 C.2.1 hd ht (k p l e RR s m args below meth c H locs cells slots QQ ls C hc hs hH hL hr)

theorem j_icmp_eq {a b : Int} {off : Int} (tgt : Nat) (hd : decode cc pc = .ok (.if_icmp .eq off, 3)) (ht : (pc : Int) + off = (tgt : Int)) (ha : -2147483648 ≤ a ∧ a < 2147483648) (hb : -2147483648 ≤ b ∧ b < 2147483648) (kt : a = b → J X own nm cc nL ret d bc bs (tgt) (L) (st) (I) (R) (n) Q) (kf : ¬ a = b → J X own nm cc nL ret d bc bs (pc + 3) (L) (st) (I) (R) (n) Q) : J X own nm cc nL ret d bc bs (pc) (L) (jI b :: jI a :: st) (I) (R) (n) Q := by
  intro p l e RR s m args below meth c H locs cells slots QQ ls C hc hs hH hL hr
  refine lv_icmp_eq C.1 C.2.1 hd ht (fun q => ?_) (fun q => ?_)
  · exact kt (by first | exact (jr_eq ha hb).mp q | exact (jr_lt ha hb).mp q | exact (jr_le ha hb).mp q | exact (jr_lt hb ha).mp q | exact (jr_le hb ha).mp q | exact fun z => q ((jr_eq ha hb).mpr z) | exact Int.not_lt.mp (fun z => q ((jr_lt ha hb).mpr z)) | exact Int.not_le.mp (fun z => q ((jr_le ha hb).mpr z)) | exact Int.not_lt.mp (fun z => q ((jr_lt hb ha).mpr z)) | exact Int.not_le.mp (fun z => q ((jr_le hb ha).mpr z))) p l e RR s m args below meth c H locs cells slots QQ ls C hc hs hH hL hr
  · exact kf (by first | exact (jr_eq ha hb).mp q | exact (jr_lt ha hb).mp q | exact (jr_le ha hb).mp q | exact (jr_lt hb ha).mp q | exact (jr_le hb ha).mp q | exact fun z => q ((jr_eq ha hb).mpr z) | exact Int.not_lt.mp (fun z => q ((jr_lt ha hb).mpr z)) | exact Int.not_le.mp (fun z => q ((jr_le ha hb).mpr z)) | exact Int.not_lt.mp (fun z => q ((jr_lt hb ha).mpr z)) | exact Int.not_le.mp (fun z => q ((jr_le hb ha).mpr z))) p l e RR s m args below meth c H locs cells slots QQ ls C hc hs hH hL hr

theorem j_if_eq {a : Int} {off : Int} (tgt : Nat) (hd : decode cc pc = .ok (.ifCond .eq off, 3)) (ht : (pc : Int) + off = (tgt : Int)) (ha : -2147483648 ≤ a ∧ a < 2147483648) (kt : a = 0 → J X own nm cc nL ret d bc bs (tgt) (L) (st) (I) (R) (n) Q) (kf : ¬ a = 0 → J X own nm cc nL ret d bc bs (pc + 3) (L) (st) (I) (R) (n) Q) : J X own nm cc nL ret d bc bs (pc) (L) (jI a :: st) (I) (R) (n) Q := by
  intro p l e RR s m args below meth c H locs cells slots QQ ls C hc hs hH hL hr
  refine lv_if_eq C.1 C.2.1 hd ht (fun q => ?_) (fun q => ?_)
  · exact kt (by first | exact (jr_eq ha j0).mp q | exact (jr_lt ha j0).mp q | exact (jr_le ha j0).mp q | exact (jr_lt j0 ha).mp q | exact (jr_le j0 ha).mp q | exact fun z => q ((jr_eq ha j0).mpr z) | exact Int.not_lt.mp (fun z => q ((jr_lt ha j0).mpr z)) | exact Int.not_le.mp (fun z => q ((jr_le ha j0).mpr z)) | exact Int.not_lt.mp (fun z => q ((jr_lt j0 ha).mpr z)) | exact Int.not_le.mp (fun z => q ((jr_le j0 ha).mpr z))) p l e RR s m args below meth c H locs cells slots QQ ls C hc hs hH hL hr
  · exact kf (by first | exact (jr_eq ha j0).mp q | exact (jr_lt ha j0).mp q | exact (jr_le ha j0).mp q | exact (jr_lt j0 ha).mp q | exact (jr_le j0 ha).mp q | exact fun z => q ((jr_eq ha j0).mpr z) | exact Int.not_lt.mp (fun z => q ((jr_lt ha j0).mpr z)) | exact Int.not_le.mp (fun z => q ((jr_le ha j0).mpr z)) | exact Int.not_lt.mp (fun z => q ((jr_lt j0 ha).mpr z)) | exact Int.not_le.mp (fun z => q ((jr_le j0 ha).mpr z))) p l e RR s m args below meth c H locs cells slots QQ ls C hc hs hH hL hr

theorem j_icmp_ne {a b : Int} {off : Int} (tgt : Nat) (hd : decode cc pc = .ok (.if_icmp .ne off, 3)) (ht : (pc : Int) + off = (tgt : Int)) (ha : -2147483648 ≤ a ∧ a < 2147483648) (hb : -2147483648 ≤ b ∧ b < 2147483648) (kt : ¬ a = b → J X own nm cc nL ret d bc bs (tgt) (L) (st) (I) (R) (n) Q) (kf : a = b → J X own nm cc nL ret d bc bs (pc + 3) (L) (st) (I) (R) (n) Q) : J X own nm cc nL ret d bc bs (pc) (L) (jI b :: jI a :: st) (I) (R) (n) Q := by
  intro p l e RR s m args below meth c H locs cells slots QQ ls C hc hs hH hL hr
  refine lv_icmp_ne C.1 C.2.1 hd ht (fun q => ?_) (fun q => ?_)
  · exact kt (by first | exact (jr_eq ha hb).mp q | exact (jr_lt ha hb).mp q | exact (jr_le ha hb).mp q | exact (jr_lt hb ha).mp q | exact (jr_le hb ha).mp q | exact fun z => q ((jr_eq ha hb).mpr z) | exact Int.not_lt.mp (fun z => q ((jr_lt ha hb).mpr z)) | exact Int.not_le.mp (fun z => q ((jr_le ha hb).mpr z)) | exact Int.not_lt.mp (fun z => q ((jr_lt hb ha).mpr z)) | exact Int.not_le.mp (fun z => q ((jr_le hb ha).mpr z))) p l e RR s m args below meth c H locs cells slots QQ ls C hc hs hH hL hr
  · exact kf (by first | exact (jr_eq ha hb).mp q | exact (jr_lt ha hb).mp q | exact (jr_le ha hb).mp q | exact (jr_lt hb ha).mp q | exact (jr_le hb ha).mp q | exact fun z => q ((jr_eq ha hb).mpr z) | exact Int.not_lt.mp (fun z => q ((jr_lt ha hb).mpr z)) | exact Int.not_le.mp (fun z => q ((jr_le ha hb).mpr z)) | exact Int.not_lt.mp (fun z => q ((jr_lt hb ha).mpr z)) | exact Int.not_le.mp (fun z => q ((jr_le hb ha).mpr z))) p l e RR s m args below meth c H locs cells slots QQ ls C hc hs hH hL hr

theorem j_if_ne {a : Int} {off : Int} (tgt : Nat) (hd : decode cc pc = .ok (.ifCond .ne off, 3)) (ht : (pc : Int) + off = (tgt : Int)) (ha : -2147483648 ≤ a ∧ a < 2147483648) (kt : ¬ a = 0 → J X own nm cc nL ret d bc bs (tgt) (L) (st) (I) (R) (n) Q) (kf : a = 0 → J X own nm cc nL ret d bc bs (pc + 3) (L) (st) (I) (R) (n) Q) : J X own nm cc nL ret d bc bs (pc) (L) (jI a :: st) (I) (R) (n) Q := by
  intro p l e RR s m args below meth c H locs cells slots QQ ls C hc hs hH hL hr
  refine lv_if_ne C.1 C.2.1 hd ht (fun q => ?_) (fun q => ?_)
  · exact kt (by first | exact (jr_eq ha j0).mp q | exact (jr_lt ha j0).mp q | exact (jr_le ha j0).mp q | exact (jr_lt j0 ha).mp q | exact (jr_le j0 ha).mp q | exact fun z => q ((jr_eq ha j0).mpr z) | exact Int.not_lt.mp (fun z => q ((jr_lt ha j0).mpr z)) | exact Int.not_le.mp (fun z => q ((jr_le ha j0).mpr z)) | exact Int.not_lt.mp (fun z => q ((jr_lt j0 ha).mpr z)) | exact Int.not_le.mp (fun z => q ((jr_le j0 ha).mpr z))) p l e RR s m args below meth c H locs cells slots QQ ls C hc hs hH hL hr
  · exact kf (by first | exact (jr_eq ha j0).mp q | exact (jr_lt ha j0).mp q | exact (jr_le ha j0).mp q | exact (jr_lt j0 ha).mp q | exact (jr_le j0 ha).mp q | exact fun z => q ((jr_eq ha j0).mpr z) | exact Int.not_lt.mp (fun z => q ((jr_lt ha j0).mpr z)) | exact Int.not_le.mp (fun z => q ((jr_le ha j0).mpr z)) | exact Int.not_lt.mp (fun z => q ((jr_lt j0 ha).mpr z)) | exact Int.not_le.mp (fun z => q ((jr_le j0 ha).mpr z))) p l e RR s m args below meth c H locs cells slots QQ ls C hc hs hH hL hr

theorem j_icmp_lt {a b : Int} {off : Int} (tgt : Nat) (hd : decode cc pc = .ok (.if_icmp .lt off, 3)) (ht : (pc : Int) + off = (tgt : Int)) (ha : -2147483648 ≤ a ∧ a < 2147483648) (hb : -2147483648 ≤ b ∧ b < 2147483648) (kt : a < b → J X own nm cc nL ret d bc bs (tgt) (L) (st) (I) (R) (n) Q) (kf : b ≤ a → J X own nm cc nL ret d bc bs (pc + 3) (L) (st) (I) (R) (n) Q) : J X own nm cc nL ret d bc bs (pc) (L) (jI b :: jI a :: st) (I) (R) (n) Q := by
  intro p l e RR s m args below meth c H locs cells slots QQ ls C hc hs hH hL hr
  refine lv_icmp_lt C.1 C.2.1 hd ht (fun q => ?_) (fun q => ?_)
  · exact kt (by first | exact (jr_eq ha hb).mp q | exact (jr_lt ha hb).mp q | exact (jr_le ha hb).mp q | exact (jr_lt hb ha).mp q | exact (jr_le hb ha).mp q | exact fun z => q ((jr_eq ha hb).mpr z) | exact Int.not_lt.mp (fun z => q ((jr_lt ha hb).mpr z)) | exact Int.not_le.mp (fun z => q ((jr_le ha hb).mpr z)) | exact Int.not_lt.mp (fun z => q ((jr_lt hb ha).mpr z)) | exact Int.not_le.mp (fun z => q ((jr_le hb ha).mpr z))) p l e RR s m args below meth c H locs cells slots QQ ls C hc hs hH hL hr
  · exact kf (by first | exact (jr_eq ha hb).mp q | exact (jr_lt ha hb).mp q | exact (jr_le ha hb).mp q | exact (jr_lt hb ha).mp q | exact (jr_le hb ha).mp q | exact fun z => q ((jr_eq ha hb).mpr z) | exact Int.not_lt.mp (fun z => q ((jr_lt ha hb).mpr z)) | exact Int.not_le.mp (fun z => q ((jr_le ha hb).mpr z)) | exact Int.not_lt.mp (fun z => q ((jr_lt hb ha).mpr z)) | exact Int.not_le.mp (fun z => q ((jr_le hb ha).mpr z))) p l e RR s m args below meth c H locs cells slots QQ ls C hc hs hH hL hr

theorem j_if_lt {a : Int} {off : Int} (tgt : Nat) (hd : decode cc pc = .ok (.ifCond .lt off, 3)) (ht : (pc : Int) + off = (tgt : Int)) (ha : -2147483648 ≤ a ∧ a < 2147483648) (kt : a < 0 → J X own nm cc nL ret d bc bs (tgt) (L) (st) (I) (R) (n) Q) (kf : 0 ≤ a → J X own nm cc nL ret d bc bs (pc + 3) (L) (st) (I) (R) (n) Q) : J X own nm cc nL ret d bc bs (pc) (L) (jI a :: st) (I) (R) (n) Q := by
  intro p l e RR s m args below meth c H locs cells slots QQ ls C hc hs hH hL hr
  refine lv_if_lt C.1 C.2.1 hd ht (fun q => ?_) (fun q => ?_)
  · exact kt (by first | exact (jr_eq ha j0).mp q | exact (jr_lt ha j0).mp q | exact (jr_le ha j0).mp q | exact (jr_lt j0 ha).mp q | exact (jr_le j0 ha).mp q | exact fun z => q ((jr_eq ha j0).mpr z) | exact Int.not_lt.mp (fun z => q ((jr_lt ha j0).mpr z)) | exact Int.not_le.mp (fun z => q ((jr_le ha j0).mpr z)) | exact Int.not_lt.mp (fun z => q ((jr_lt j0 ha).mpr z)) | exact Int.not_le.mp (fun z => q ((jr_le j0 ha).mpr z))) p l e RR s m args below meth c H locs cells slots QQ ls C hc hs hH hL hr
  · exact kf (by first | exact (jr_eq ha j0).mp q | exact (jr_lt ha j0).mp q | exact (jr_le ha j0).mp q | exact (jr_lt j0 ha).mp q | exact (jr_le j0 ha).mp q | exact fun z => q ((jr_eq ha j0).mpr z) | exact Int.not_lt.mp (fun z => q ((jr_lt ha j0).mpr z)) | exact Int.not_le.mp (fun z => q ((jr_le ha j0).mpr z)) | exact Int.not_lt.mp (fun z => q ((jr_lt j0 ha).mpr z)) | exact Int.not_le.mp (fun z => q ((jr_le j0 ha).mpr z))) p l e RR s m args below meth c H locs cells slots QQ ls C hc hs hH hL hr

theorem j_icmp_ge {a b : Int} {off : Int} (tgt : Nat) (hd : decode cc pc = .ok (.if_icmp .ge off, 3)) (ht : (pc : Int) + off = (tgt : Int)) (ha : -2147483648 ≤ a ∧ a < 2147483648) (hb : -2147483648 ≤ b ∧ b < 2147483648) (kt : b ≤ a → J X own nm cc nL ret d bc bs (tgt) (L) (st) (I) (R) (n) Q) (kf : a < b → J X own nm cc nL ret d bc bs (pc + 3) (L) (st) (I) (R) (n) Q) : J X own nm cc nL ret d bc bs (pc) (L) (jI b :: jI a :: st) (I) (R) (n) Q := by
  intro p l e RR s m args below meth c H locs cells slots QQ ls C hc hs hH hL hr
  refine lv_icmp_ge C.1 C.2.1 hd ht (fun q => ?_) (fun q => ?_)
  · exact kt (by first | exact (jr_eq ha hb).mp q | exact (jr_lt ha hb).mp q | exact (jr_le ha hb).mp q | exact (jr_lt hb ha).mp q | exact (jr_le hb ha).mp q | exact fun z => q ((jr_eq ha hb).mpr z) | exact Int.not_lt.mp (fun z => q ((jr_lt ha hb).mpr z)) | exact Int.not_le.mp (fun z => q ((jr_le ha hb).mpr z)) | exact Int.not_lt.mp (fun z => q ((jr_lt hb ha).mpr z)) | exact Int.not_le.mp (fun z => q ((jr_le hb ha).mpr z))) p l e RR s m args below meth c H locs cells slots QQ ls C hc hs hH hL hr
  · exact kf (by first | exact (jr_eq ha hb).mp q | exact (jr_lt ha hb).mp q | exact (jr_le ha hb).mp q | exact (jr_lt hb ha).mp q | exact (jr_le hb ha).mp q | exact fun z => q ((jr_eq ha hb).mpr z) | exact Int.not_lt.mp (fun z => q ((jr_lt ha hb).mpr z)) | exact Int.not_le.mp (fun z => q ((jr_le ha hb).mpr z)) | exact Int.not_lt.mp (fun z => q ((jr_lt hb ha).mpr z)) | exact Int.not_le.mp (fun z => q ((jr_le hb ha).mpr z))) p l e RR s m args below meth c H locs cells slots QQ ls C hc hs hH hL hr

theorem j_if_ge {a : Int} {off : Int} (tgt : Nat) (hd : decode cc pc = .ok (.ifCond .ge off, 3)) (ht : (pc : Int) + off = (tgt : Int)) (ha : -2147483648 ≤ a ∧ a < 2147483648) (kt : 0 ≤ a → J X own nm cc nL ret d bc bs (tgt) (L) (st) (I) (R) (n) Q) (kf : a < 0 → J X own nm cc nL ret d bc bs (pc + 3) (L) (st) (I) (R) (n) Q) : J X own nm cc nL ret d bc bs (pc) (L) (jI a :: st) (I) (R) (n) Q := by
  intro p l e RR s m args below meth c H locs cells slots QQ ls C hc hs hH hL hr
  refine lv_if_ge C.1 C.2.1 hd ht (fun q => ?_) (fun q => ?_)
  · exact kt (by first | exact (jr_eq ha j0).mp q | exact (jr_lt ha j0).mp q | exact (jr_le ha j0).mp q | exact (jr_lt j0 ha).mp q | exact (jr_le j0 ha).mp q | exact fun z => q ((jr_eq ha j0).mpr z) | exact Int.not_lt.mp (fun z => q ((jr_lt ha j0).mpr z)) | exact Int.not_le.mp (fun z => q ((jr_le ha j0).mpr z)) | exact Int.not_lt.mp (fun z => q ((jr_lt j0 ha).mpr z)) | exact Int.not_le.mp (fun z => q ((jr_le j0 ha).mpr z))) p l e RR s m args below meth c H locs cells slots QQ ls C hc hs hH hL hr
  · exact kf (by first | exact (jr_eq ha j0).mp q | exact (jr_lt ha j0).mp q | exact (jr_le ha j0).mp q | exact (jr_lt j0 ha).mp q | exact (jr_le j0 ha).mp q | exact fun z => q ((jr_eq ha j0).mpr z) | exact Int.not_lt.mp (fun z => q ((jr_lt ha j0).mpr z)) | exact Int.not_le.mp (fun z => q ((jr_le ha j0).mpr z)) | exact Int.not_lt.mp (fun z => q ((jr_lt j0 ha).mpr z)) | exact Int.not_le.mp (fun z => q ((jr_le j0 ha).mpr z))) p l e RR s m args below meth c H locs cells slots QQ ls C hc hs hH hL hr

theorem j_icmp_gt {a b : Int} {off : Int} (tgt : Nat) (hd : decode cc pc = .ok (.if_icmp .gt off, 3)) (ht : (pc : Int) + off = (tgt : Int)) (ha : -2147483648 ≤ a ∧ a < 2147483648) (hb : -2147483648 ≤ b ∧ b < 2147483648) (kt : b < a → J X own nm cc nL ret d bc bs (tgt) (L) (st) (I) (R) (n) Q) (kf : a ≤ b → J X own nm cc nL ret d bc bs (pc + 3) (L) (st) (I) (R) (n) Q) : J X own nm cc nL ret d bc bs (pc) (L) (jI b :: jI a :: st) (I) (R) (n) Q := by
  intro p l e RR s m args below meth c H locs cells slots QQ ls C hc hs hH hL hr
  refine lv_icmp_gt C.1 C.2.1 hd ht (fun q => ?_) (fun q => ?_)
  · exact kt (by first | exact (jr_eq ha hb).mp q | exact (jr_lt ha hb).mp q | exact (jr_le ha hb).mp q | exact (jr_lt hb ha).mp q | exact (jr_le hb ha).mp q | exact fun z => q ((jr_eq ha hb).mpr z) | exact Int.not_lt.mp (fun z => q ((jr_lt ha hb).mpr z)) | exact Int.not_le.mp (fun z => q ((jr_le ha hb).mpr z)) | exact Int.not_lt.mp (fun z => q ((jr_lt hb ha).mpr z)) | exact Int.not_le.mp (fun z => q ((jr_le hb ha).mpr z))) p l e RR s m args below meth c H locs cells slots QQ ls C hc hs hH hL hr
  · exact kf (by first | exact (jr_eq ha hb).mp q | exact (jr_lt ha hb).mp q | exact (jr_le ha hb).mp q | exact (jr_lt hb ha).mp q | exact (jr_le hb ha).mp q | exact fun z => q ((jr_eq ha hb).mpr z) | exact Int.not_lt.mp (fun z => q ((jr_lt ha hb).mpr z)) | exact Int.not_le.mp (fun z => q ((jr_le ha hb).mpr z)) | exact Int.not_lt.mp (fun z => q ((jr_lt hb ha).mpr z)) | exact Int.not_le.mp (fun z => q ((jr_le hb ha).mpr z))) p l e RR s m args below meth c H locs cells slots QQ ls C hc hs hH hL hr

theorem j_if_gt {a : Int} {off : Int} (tgt : Nat) (hd : decode cc pc = .ok (.ifCond .gt off, 3)) (ht : (pc : Int) + off = (tgt : Int)) (ha : -2147483648 ≤ a ∧ a < 2147483648) (kt : 0 < a → J X own nm cc nL ret d bc bs (tgt) (L) (st) (I) (R) (n) Q) (kf : a ≤ 0 → J X own nm cc nL ret d bc bs (pc + 3) (L) (st) (I) (R) (n) Q) : J X own nm cc nL ret d bc bs (pc) (L) (jI a :: st) (I) (R) (n) Q := by
  intro p l e RR s m args below meth c H locs cells slots QQ ls C hc hs hH hL hr
  refine lv_if_gt C.1 C.2.1 hd ht (fun q => ?_) (fun q => ?_)
  · exact kt (by first | exact (jr_eq ha j0).mp q | exact (jr_lt ha j0).mp q | exact (jr_le ha j0).mp q | exact (jr_lt j0 ha).mp q | exact (jr_le j0 ha).mp q | exact fun z => q ((jr_eq ha j0).mpr z) | exact Int.not_lt.mp (fun z => q ((jr_lt ha j0).mpr z)) | exact Int.not_le.mp (fun z => q ((jr_le ha j0).mpr z)) | exact Int.not_lt.mp (fun z => q ((jr_lt j0 ha).mpr z)) | exact Int.not_le.mp (fun z => q ((jr_le j0 ha).mpr z))) p l e RR s m args below meth c H locs cells slots QQ ls C hc hs hH hL hr
  · exact kf (by first | exact (jr_eq ha j0).mp q | exact (jr_lt ha j0).mp q | exact (jr_le ha j0).mp q | exact (jr_lt j0 ha).mp q | exact (jr_le j0 ha).mp q | exact fun z => q ((jr_eq ha j0).mpr z) | exact Int.not_lt.mp (fun z => q ((jr_lt ha j0).mpr z)) | exact Int.not_le.mp (fun z => q ((jr_le ha j0).mpr z)) | exact Int.not_lt.mp (fun z => q ((jr_lt j0 ha).mpr z)) | exact Int.not_le.mp (fun z => q ((jr_le j0 ha).mpr z))) p l e RR s m args below meth c H locs cells slots QQ ls C hc hs hH hL hr

theorem j_icmp_le {a b : Int} {off : Int} (tgt : Nat) (hd : decode cc pc = .ok (.if_icmp .le off, 3)) (ht : (pc : Int) + off = (tgt : Int)) (ha : -2147483648 ≤ a ∧ a < 2147483648) (hb : -2147483648 ≤ b ∧ b < 2147483648) (kt : a ≤ b → J X own nm cc nL ret d bc bs (tgt) (L) (st) (I) (R) (n) Q) (kf : b < a → J X own nm cc nL ret d bc bs (pc + 3) (L) (st) (I) (R) (n) Q) : J X own nm cc nL ret d bc bs (pc) (L) (jI b :: jI a :: st) (I) (R) (n) Q := by
  intro p l e RR s m args below meth c H locs cells slots QQ ls C hc hs hH hL hr
  refine lv_icmp_le C.1 C.2.1 hd ht (fun q => ?_) (fun q => ?_)
  · exact kt (by first | exact (jr_eq ha hb).mp q | exact (jr_lt ha hb).mp q | exact (jr_le ha hb).mp q | exact (jr_lt hb ha).mp q | exact (jr_le hb ha).mp q | exact fun z => q ((jr_eq ha hb).mpr z) | exact Int.not_lt.mp (fun z => q ((jr_lt ha hb).mpr z)) | exact Int.not_le.mp (fun z => q ((jr_le ha hb).mpr z)) | exact Int.not_lt.mp (fun z => q ((jr_lt hb ha).mpr z)) | exact Int.not_le.mp (fun z => q ((jr_le hb ha).mpr z))) p l e RR s m args below meth c H locs cells slots QQ ls C hc hs hH hL hr
  · exact kf (by first | exact (jr_eq ha hb).mp q | exact (jr_lt ha hb).mp q | exact (jr_le ha hb).mp q | exact (jr_lt hb ha).mp q | exact (jr_le hb ha).mp q | exact fun z => q ((jr_eq ha hb).mpr z) | exact Int.not_lt.mp (fun z => q ((jr_lt ha hb).mpr z)) | exact Int.not_le.mp (fun z => q ((jr_le ha hb).mpr z)) | exact Int.not_lt.mp (fun z => q ((jr_lt hb ha).mpr z)) | exact Int.not_le.mp (fun z => q ((jr_le hb ha).mpr z))) p l e RR s m args below meth c H locs cells slots QQ ls C hc hs hH hL hr

theorem j_if_le {a : Int} {off : Int} (tgt : Nat) (hd : decode cc pc = .ok (.ifCond .le off, 3)) (ht : (pc : Int) + off = (tgt : Int)) (ha : -2147483648 ≤ a ∧ a < 2147483648) (kt : a ≤ 0 → J X own nm cc nL ret d bc bs (tgt) (L) (st) (I) (R) (n) Q) (kf : 0 < a → J X own nm cc nL ret d bc bs (pc + 3) (L) (st) (I) (R) (n) Q) : J X own nm cc nL ret d bc bs (pc) (L) (jI a :: st) (I) (R) (n) Q := by
  intro p l e RR s m args below meth c H locs cells slots QQ ls C hc hs hH hL hr
  refine lv_if_le C.1 C.2.1 hd ht (fun q => ?_) (fun q => ?_)
  · exact kt (by first | exact (jr_eq ha j0).mp q | exact (jr_lt ha j0).mp q | exact (jr_le ha j0).mp q | exact (jr_lt j0 ha).mp q | exact (jr_le j0 ha).mp q | exact fun z => q ((jr_eq ha j0).mpr z) | exact Int.not_lt.mp (fun z => q ((jr_lt ha j0).mpr z)) | exact Int.not_le.mp (fun z => q ((jr_le ha j0).mpr z)) | exact Int.not_lt.mp (fun z => q ((jr_lt j0 ha).mpr z)) | exact Int.not_le.mp (fun z => q ((jr_le j0 ha).mpr z))) p l e RR s m args below meth c H locs cells slots QQ ls C hc hs hH hL hr
  · exact kf (by first | exact (jr_eq ha j0).mp q | exact (jr_lt ha j0).mp q | exact (jr_le ha j0).mp q | exact (jr_lt j0 ha).mp q | exact (jr_le j0 ha).mp q | exact fun z => q ((jr_eq ha j0).mpr z) | exact Int.not_lt.mp (fun z => q ((jr_lt ha j0).mpr z)) | exact Int.not_le.mp (fun z => q ((jr_le ha j0).mpr z)) | exact Int.not_lt.mp (fun z => q ((jr_lt j0 ha).mpr z)) | exact Int.not_le.mp (fun z => q ((jr_le j0 ha).mpr z))) p l e RR s m args below meth c H locs cells slots QQ ls C hc hs hH hL hr

theorem jcmp_lt {a b : Int} (ha : -9223372036854775808 ≤ a ∧ a < 9223372036854775808) (hb : -9223372036854775808 ≤ b ∧ b < 9223372036854775808) : jcmp a b = if b < a then 1 else if a = b then 0 else -1 := by
  have e1 : Int64.ofInt b < Int64.ofInt a ↔ b < a := by rw [Int64.lt_iff_toInt_lt, jr_l ha, jr_l hb]
  have e2 : Int64.ofInt a = Int64.ofInt b ↔ a = b := by rw [← Int64.toInt_inj, jr_l ha, jr_l hb]
  unfold jcmp lg_cmp
  by_cases h1 : b < a
  · rw [if_pos h1, if_pos (show Int64.ofInt a > Int64.ofInt b from e1.mpr h1)]; rfl
  · rw [if_neg h1, if_neg (show ¬ Int64.ofInt a > Int64.ofInt b from fun z => h1 (e1.mp z))]
    by_cases h2 : a = b
    · rw [if_pos h2, if_pos (e2.mpr h2)]; rfl
    · rw [if_neg h2, if_neg (fun z => h2 (e2.mp z))]; rfl
theorem jcmp_self (a : Int) : jcmp a a = 0 := by
  unfold jcmp lg_cmp
  simp
end JS
end
section
/-! ===== locals' stores ===== -/
def jas (X : jX) (L : List (Option jV)) : List (Nat × Value) := (List.range L.length).filterMap (fun i => (L.getD i none).map (fun v => (i, jv X v)))
theorem jas_mem {X : jX} {L : List (Option jV)} {i : Nat} {v : jV} (h : L[i]? = some (some v)) : (i, jv X v) ∈ jas X L := by
  obtain ⟨hi, -⟩ := List.getElem?_eq_some_iff.mp h
  refine List.mem_filterMap.mpr ⟨i, List.mem_range.mpr hi, ?_⟩
  rw [List.getD_eq_getElem?_getD, h]
  rfl
theorem jas_has {X : jX} {ls : Array Slot} {nL : Nat} {L : List (Option jV)} (h : jLs X ls nL L) : lv_has ls nL (jas X L) := by
  refine ⟨h.1, h.2.1, fun q hq => ?_⟩
  obtain ⟨i, hi, hv⟩ := List.mem_filterMap.mp hq
  cases hg : L[i]? with
  | none => rw [List.getD_eq_getElem?_getD, hg] at hv; cases hv
  | some w =>
    rw [List.getD_eq_getElem?_getD, hg] at hv
    cases w with
    | none => cases hv
    | some v =>
      cases hv
      exact h.2.2 i v hg
theorem jv_cat2 {X : jX} {v : jV} (h : (jv X v).category = 2) : ∃ a, v = jL a := by
  match v, h with
  | Sum.inl a, h => cases h
  | Sum.inr (Sum.inl a), h => exact ⟨a, rfl⟩
  | Sum.inr (Sum.inr none), h => cases h
  | Sum.inr (Sum.inr (some r)), h => cases h
theorem jprev_ok {X : jX} {L : List (Option jV)} {i j : Nat} {v : jV} (h : jprev L i = true) (hj : L[j]? = some (some v)) (e : j + 1 = i) : ¬ (jv X v).category = 2 := by
  intro hc
  obtain ⟨a, rfl⟩ := jv_cat2 hc
  subst e
  simp [jprev, hj] at h
theorem jLs_set1 {X : jX} {ls' : Array Slot} {nL i : Nat} {L : List (Option jV)} {v : jV} (hp : jprev L i = true) (h : lv_has ls' nL ((i, jv X v) :: (jas X L).filter (fun q => !(q.1 == i) && !(q.1 + 1 == i && q.2.category == 2)))) : jLs X ls' nL (L.set i (some v)) := by
  refine ⟨h.1, h.2.1, fun j w hj => ?_⟩
  by_cases hji : j = i
  · subst hji
    have hl : j < L.length := by
      have := (List.getElem?_eq_some_iff.mp hj).1
      simpa using this
    rw [List.getElem?_set_self hl] at hj
    cases hj
    exact h.2.2 (j, jv X v) List.mem_cons_self
  · rw [List.getElem?_set_ne (Ne.symm hji)] at hj
    refine h.2.2 (j, jv X w) (List.mem_cons_of_mem _ (List.mem_filter.mpr ⟨jas_mem hj, ?_⟩))
    have h1 : (j == i) = false := by simpa using hji
    by_cases h2 : j + 1 = i
    · have h3 := jprev_ok (X := X) hp hj h2
      simp [h1, h3]
    · simp [h1, h2]
theorem jLs_set2 {X : jX} {ls' : Array Slot} {nL i : Nat} {L : List (Option jV)} {v : jV} (hp : jprev L i = true) (h : lv_has ls' nL ((i, jv X v) :: (jas X L).filter (fun q => !(q.1 == i) && (!(q.1 == i + 1) && !(q.1 + 1 == i && q.2.category == 2))))) : jLs X ls' nL ((L.set i (some v)).set (i + 1) none) := by
  refine ⟨h.1, h.2.1, fun j w hj => ?_⟩
  by_cases hj1 : j = i + 1
  · subst hj1
    have hl : i + 1 < (L.set i (some v)).length := by
      have := (List.getElem?_eq_some_iff.mp hj).1
      simpa using this
    rw [List.getElem?_set_self hl] at hj
    cases hj
  rw [List.getElem?_set_ne (Ne.symm hj1)] at hj
  by_cases hji : j = i
  · subst hji
    have hl : j < L.length := by
      have := (List.getElem?_eq_some_iff.mp hj).1
      simpa using this
    rw [List.getElem?_set_self hl] at hj
    cases hj
    exact h.2.2 (j, jv X v) List.mem_cons_self
  · rw [List.getElem?_set_ne (Ne.symm hji)] at hj
    refine h.2.2 (j, jv X w) (List.mem_cons_of_mem _ (List.mem_filter.mpr ⟨jas_mem hj, ?_⟩))
    have h1 : (j == i) = false := by simpa using hji
    have h0 : (j == i + 1) = false := by simpa using hj1
    by_cases h2 : j + 1 = i
    · have h3 := jprev_ok (X := X) hp hj h2
      simp [h1, h0, h3]
    · simp [h1, h0, h2]
section JS
variable {X : jX} {own nm : String} {cc : ByteArray} {nL : Nat} {ret : Option FieldType} {d bc bs pc : Nat} {L : List (Option jV)} {st : List jV} {I : jMI} {R : jMR} {n : Nat} {Q : Option jV → jMI → jMR → Nat → Prop}

theorem jg_istore_n {i : Fin 4} {a : Int} (hd : decode cc pc = .ok (.istore_n i, 1)) (hi : (i : Nat) < nL) (hp : jprev L (i : Nat) = true) (k : J X own nm cc nL ret d bc bs (pc + 1) (L.set (i : Nat) (some (jI a))) (st) (I) (R) (n) Q) : J X own nm cc nL ret d bc bs (pc) (L) (jI a :: st) (I) (R) (n) Q := by
  intro p l e RR s m args below meth c H locs cells slots QQ ls C hc hs hH hL hr
  exact lv_istore_n C.1 C.2.1 hd rfl (jas_has hL) hi rfl (fun ls1 h1 => k p l e RR s m args below meth c H locs cells slots QQ ls1 C hc hs hH (jLs_set1 (v := jI a) hp h1) hr)

theorem jg_istore {i : Nat} {a : Int} (hd : decode cc pc = .ok (.istore i, 2)) (hi : i < nL) (hp : jprev L i = true) (k : J X own nm cc nL ret d bc bs (pc + 2) (L.set i (some (jI a))) (st) (I) (R) (n) Q) : J X own nm cc nL ret d bc bs (pc) (L) (jI a :: st) (I) (R) (n) Q := by
  intro p l e RR s m args below meth c H locs cells slots QQ ls C hc hs hH hL hr
  exact lv_istore C.1 C.2.1 hd (jas_has hL) hi rfl (fun ls1 h1 => k p l e RR s m args below meth c H locs cells slots QQ ls1 C hc hs hH (jLs_set1 (v := jI a) hp h1) hr)

theorem jg_astore_n {i : Fin 4} {a : Nat} (hd : decode cc pc = .ok (.astore_n i, 1)) (hi : (i : Nat) < nL) (hp : jprev L (i : Nat) = true) (k : J X own nm cc nL ret d bc bs (pc + 1) (L.set (i : Nat) (some (jR a))) (st) (I) (R) (n) Q) : J X own nm cc nL ret d bc bs (pc) (L) (jR a :: st) (I) (R) (n) Q := by
  intro p l e RR s m args below meth c H locs cells slots QQ ls C hc hs hH hL hr
  exact lv_astore_n C.1 C.2.1 hd rfl (jas_has hL) hi rfl (fun ls1 h1 => k p l e RR s m args below meth c H locs cells slots QQ ls1 C hc hs hH (jLs_set1 (v := jR a) hp h1) hr)

theorem jg_astore {i : Nat} {a : Nat} (hd : decode cc pc = .ok (.astore i, 2)) (hi : i < nL) (hp : jprev L i = true) (k : J X own nm cc nL ret d bc bs (pc + 2) (L.set i (some (jR a))) (st) (I) (R) (n) Q) : J X own nm cc nL ret d bc bs (pc) (L) (jR a :: st) (I) (R) (n) Q := by
  intro p l e RR s m args below meth c H locs cells slots QQ ls C hc hs hH hL hr
  exact lv_astore C.1 C.2.1 hd (jas_has hL) hi rfl (fun ls1 h1 => k p l e RR s m args below meth c H locs cells slots QQ ls1 C hc hs hH (jLs_set1 (v := jR a) hp h1) hr)

theorem jg_lstore_n {i : Fin 4} {a : Int} (hd : decode cc pc = .ok (.lstore_n i, 1)) (hi : (i : Nat) + 1 < nL) (hp : jprev L (i : Nat) = true) (k : J X own nm cc nL ret d bc bs (pc + 1) ((L.set (i : Nat) (some (jL a))).set ((i : Nat) + 1) none) (st) (I) (R) (n) Q) : J X own nm cc nL ret d bc bs (pc) (L) (jL a :: st) (I) (R) (n) Q := by
  intro p l e RR s m args below meth c H locs cells slots QQ ls C hc hs hH hL hr
  exact lv_lstore_n C.1 C.2.1 hd rfl (jas_has hL) hi rfl (fun ls1 h1 => k p l e RR s m args below meth c H locs cells slots QQ ls1 C hc hs hH (jLs_set2 (v := jL a) hp h1) hr)

theorem jg_lstore {i : Nat} {a : Int} (hd : decode cc pc = .ok (.lstore i, 2)) (hi : i + 1 < nL) (hp : jprev L i = true) (k : J X own nm cc nL ret d bc bs (pc + 2) ((L.set i (some (jL a))).set (i + 1) none) (st) (I) (R) (n) Q) : J X own nm cc nL ret d bc bs (pc) (L) (jL a :: st) (I) (R) (n) Q := by
  intro p l e RR s m args below meth c H locs cells slots QQ ls C hc hs hH hL hr
  exact lv_lstore C.1 C.2.1 hd (jas_has hL) hi rfl (fun ls1 h1 => k p l e RR s m args below meth c H locs cells slots QQ ls1 C hc hs hH (jLs_set2 (v := jL a) hp h1) hr)

theorem jg_iinc {i : Nat} {a z : Int} (hd : decode cc pc = .ok (.iinc i z, 3)) (hl : L[i]? = some (some (jI a))) (hi : i < nL) (hp : jprev L i = true) (k : J X own nm cc nL ret d bc bs (pc + 3) (L.set i (some (jI (a + z)))) (st) (I) (R) (n) Q) : J X own nm cc nL ret d bc bs (pc) (L) (st) (I) (R) (n) Q := by
  intro p l e RR s m args below meth c H locs cells slots QQ ls C hc hs hH hL hr
  obtain ⟨kx, hkx⟩ := List.getElem?_of_mem (jas_mem (X := X) hl)
  exact lv_iinc (k := kx) C.1 C.2.1 hd (jas_has hL) hkx (v := Int32.ofInt (a + z)) (Int32.ofInt_add a z).symm hi rfl (fun ls1 h1 => k p l e RR s m args below meth c H locs cells slots QQ ls1 C hc hs hH (jLs_set1 (v := jI (a + z)) hp h1) hr)

theorem j_istore_n0 {x0 : Option jV} {T : List (Option jV)} {a : Int} (hd : decode cc pc = .ok (.istore_n 0, 1)) (hi : 0 < nL) (hp : jprev (x0 :: T) 0 = true) (k : J X own nm cc nL ret d bc bs (pc + 1) (some (jI a) :: T) (st) (I) (R) (n) Q) : J X own nm cc nL ret d bc bs (pc) (x0 :: T) (jI a :: st) (I) (R) (n) Q := jg_istore_n (i := 0) hd hi hp k
theorem j_astore_n0 {x0 : Option jV} {T : List (Option jV)} {a : Nat} (hd : decode cc pc = .ok (.astore_n 0, 1)) (hi : 0 < nL) (hp : jprev (x0 :: T) 0 = true) (k : J X own nm cc nL ret d bc bs (pc + 1) (some (jR a) :: T) (st) (I) (R) (n) Q) : J X own nm cc nL ret d bc bs (pc) (x0 :: T) (jR a :: st) (I) (R) (n) Q := jg_astore_n (i := 0) hd hi hp k
theorem j_lstore_n0 {x0 y : Option jV} {T : List (Option jV)} {a : Int} (hd : decode cc pc = .ok (.lstore_n 0, 1)) (hi : 0 + 1 < nL) (hp : jprev (x0 :: y :: T) 0 = true) (k : J X own nm cc nL ret d bc bs (pc + 1) (some (jL a) :: none :: T) (st) (I) (R) (n) Q) : J X own nm cc nL ret d bc bs (pc) (x0 :: y :: T) (jL a :: st) (I) (R) (n) Q := jg_lstore_n (i := 0) hd hi hp k
theorem j_iinc0 {T : List (Option jV)} {a z : Int} (hd : decode cc pc = .ok (.iinc 0 z, 3)) (hi : 0 < nL) (hp : jprev (some (jI a) :: T) 0 = true) (k : J X own nm cc nL ret d bc bs (pc + 3) (some (jI (a + z)) :: T) (st) (I) (R) (n) Q) : J X own nm cc nL ret d bc bs (pc) (some (jI a) :: T) (st) (I) (R) (n) Q := jg_iinc (i := 0) hd rfl hi hp k
theorem j_istore_n1 {x0 x1 : Option jV} {T : List (Option jV)} {a : Int} (hd : decode cc pc = .ok (.istore_n 1, 1)) (hi : 1 < nL) (hp : jprev (x0 :: x1 :: T) 1 = true) (k : J X own nm cc nL ret d bc bs (pc + 1) (x0 :: some (jI a) :: T) (st) (I) (R) (n) Q) : J X own nm cc nL ret d bc bs (pc) (x0 :: x1 :: T) (jI a :: st) (I) (R) (n) Q := jg_istore_n (i := 1) hd hi hp k
theorem j_astore_n1 {x0 x1 : Option jV} {T : List (Option jV)} {a : Nat} (hd : decode cc pc = .ok (.astore_n 1, 1)) (hi : 1 < nL) (hp : jprev (x0 :: x1 :: T) 1 = true) (k : J X own nm cc nL ret d bc bs (pc + 1) (x0 :: some (jR a) :: T) (st) (I) (R) (n) Q) : J X own nm cc nL ret d bc bs (pc) (x0 :: x1 :: T) (jR a :: st) (I) (R) (n) Q := jg_astore_n (i := 1) hd hi hp k
theorem j_lstore_n1 {x0 x1 y : Option jV} {T : List (Option jV)} {a : Int} (hd : decode cc pc = .ok (.lstore_n 1, 1)) (hi : 1 + 1 < nL) (hp : jprev (x0 :: x1 :: y :: T) 1 = true) (k : J X own nm cc nL ret d bc bs (pc + 1) (x0 :: some (jL a) :: none :: T) (st) (I) (R) (n) Q) : J X own nm cc nL ret d bc bs (pc) (x0 :: x1 :: y :: T) (jL a :: st) (I) (R) (n) Q := jg_lstore_n (i := 1) hd hi hp k
theorem j_iinc1 {x0 : Option jV} {T : List (Option jV)} {a z : Int} (hd : decode cc pc = .ok (.iinc 1 z, 3)) (hi : 1 < nL) (hp : jprev (x0 :: some (jI a) :: T) 1 = true) (k : J X own nm cc nL ret d bc bs (pc + 3) (x0 :: some (jI (a + z)) :: T) (st) (I) (R) (n) Q) : J X own nm cc nL ret d bc bs (pc) (x0 :: some (jI a) :: T) (st) (I) (R) (n) Q := jg_iinc (i := 1) hd rfl hi hp k
theorem j_istore_n2 {x0 x1 x2 : Option jV} {T : List (Option jV)} {a : Int} (hd : decode cc pc = .ok (.istore_n 2, 1)) (hi : 2 < nL) (hp : jprev (x0 :: x1 :: x2 :: T) 2 = true) (k : J X own nm cc nL ret d bc bs (pc + 1) (x0 :: x1 :: some (jI a) :: T) (st) (I) (R) (n) Q) : J X own nm cc nL ret d bc bs (pc) (x0 :: x1 :: x2 :: T) (jI a :: st) (I) (R) (n) Q := jg_istore_n (i := 2) hd hi hp k
theorem j_astore_n2 {x0 x1 x2 : Option jV} {T : List (Option jV)} {a : Nat} (hd : decode cc pc = .ok (.astore_n 2, 1)) (hi : 2 < nL) (hp : jprev (x0 :: x1 :: x2 :: T) 2 = true) (k : J X own nm cc nL ret d bc bs (pc + 1) (x0 :: x1 :: some (jR a) :: T) (st) (I) (R) (n) Q) : J X own nm cc nL ret d bc bs (pc) (x0 :: x1 :: x2 :: T) (jR a :: st) (I) (R) (n) Q := jg_astore_n (i := 2) hd hi hp k
theorem j_lstore_n2 {x0 x1 x2 y : Option jV} {T : List (Option jV)} {a : Int} (hd : decode cc pc = .ok (.lstore_n 2, 1)) (hi : 2 + 1 < nL) (hp : jprev (x0 :: x1 :: x2 :: y :: T) 2 = true) (k : J X own nm cc nL ret d bc bs (pc + 1) (x0 :: x1 :: some (jL a) :: none :: T) (st) (I) (R) (n) Q) : J X own nm cc nL ret d bc bs (pc) (x0 :: x1 :: x2 :: y :: T) (jL a :: st) (I) (R) (n) Q := jg_lstore_n (i := 2) hd hi hp k
theorem j_iinc2 {x0 x1 : Option jV} {T : List (Option jV)} {a z : Int} (hd : decode cc pc = .ok (.iinc 2 z, 3)) (hi : 2 < nL) (hp : jprev (x0 :: x1 :: some (jI a) :: T) 2 = true) (k : J X own nm cc nL ret d bc bs (pc + 3) (x0 :: x1 :: some (jI (a + z)) :: T) (st) (I) (R) (n) Q) : J X own nm cc nL ret d bc bs (pc) (x0 :: x1 :: some (jI a) :: T) (st) (I) (R) (n) Q := jg_iinc (i := 2) hd rfl hi hp k
theorem j_istore_n3 {x0 x1 x2 x3 : Option jV} {T : List (Option jV)} {a : Int} (hd : decode cc pc = .ok (.istore_n 3, 1)) (hi : 3 < nL) (hp : jprev (x0 :: x1 :: x2 :: x3 :: T) 3 = true) (k : J X own nm cc nL ret d bc bs (pc + 1) (x0 :: x1 :: x2 :: some (jI a) :: T) (st) (I) (R) (n) Q) : J X own nm cc nL ret d bc bs (pc) (x0 :: x1 :: x2 :: x3 :: T) (jI a :: st) (I) (R) (n) Q := jg_istore_n (i := 3) hd hi hp k
theorem j_astore_n3 {x0 x1 x2 x3 : Option jV} {T : List (Option jV)} {a : Nat} (hd : decode cc pc = .ok (.astore_n 3, 1)) (hi : 3 < nL) (hp : jprev (x0 :: x1 :: x2 :: x3 :: T) 3 = true) (k : J X own nm cc nL ret d bc bs (pc + 1) (x0 :: x1 :: x2 :: some (jR a) :: T) (st) (I) (R) (n) Q) : J X own nm cc nL ret d bc bs (pc) (x0 :: x1 :: x2 :: x3 :: T) (jR a :: st) (I) (R) (n) Q := jg_astore_n (i := 3) hd hi hp k
theorem j_lstore_n3 {x0 x1 x2 x3 y : Option jV} {T : List (Option jV)} {a : Int} (hd : decode cc pc = .ok (.lstore_n 3, 1)) (hi : 3 + 1 < nL) (hp : jprev (x0 :: x1 :: x2 :: x3 :: y :: T) 3 = true) (k : J X own nm cc nL ret d bc bs (pc + 1) (x0 :: x1 :: x2 :: some (jL a) :: none :: T) (st) (I) (R) (n) Q) : J X own nm cc nL ret d bc bs (pc) (x0 :: x1 :: x2 :: x3 :: y :: T) (jL a :: st) (I) (R) (n) Q := jg_lstore_n (i := 3) hd hi hp k
theorem j_iinc3 {x0 x1 x2 : Option jV} {T : List (Option jV)} {a z : Int} (hd : decode cc pc = .ok (.iinc 3 z, 3)) (hi : 3 < nL) (hp : jprev (x0 :: x1 :: x2 :: some (jI a) :: T) 3 = true) (k : J X own nm cc nL ret d bc bs (pc + 3) (x0 :: x1 :: x2 :: some (jI (a + z)) :: T) (st) (I) (R) (n) Q) : J X own nm cc nL ret d bc bs (pc) (x0 :: x1 :: x2 :: some (jI a) :: T) (st) (I) (R) (n) Q := jg_iinc (i := 3) hd rfl hi hp k
theorem j_istore4 {x0 x1 x2 x3 x4 : Option jV} {T : List (Option jV)} {a : Int} (hd : decode cc pc = .ok (.istore 4, 2)) (hi : 4 < nL) (hp : jprev (x0 :: x1 :: x2 :: x3 :: x4 :: T) 4 = true) (k : J X own nm cc nL ret d bc bs (pc + 2) (x0 :: x1 :: x2 :: x3 :: some (jI a) :: T) (st) (I) (R) (n) Q) : J X own nm cc nL ret d bc bs (pc) (x0 :: x1 :: x2 :: x3 :: x4 :: T) (jI a :: st) (I) (R) (n) Q := jg_istore (i := 4) hd hi hp k
theorem j_astore4 {x0 x1 x2 x3 x4 : Option jV} {T : List (Option jV)} {a : Nat} (hd : decode cc pc = .ok (.astore 4, 2)) (hi : 4 < nL) (hp : jprev (x0 :: x1 :: x2 :: x3 :: x4 :: T) 4 = true) (k : J X own nm cc nL ret d bc bs (pc + 2) (x0 :: x1 :: x2 :: x3 :: some (jR a) :: T) (st) (I) (R) (n) Q) : J X own nm cc nL ret d bc bs (pc) (x0 :: x1 :: x2 :: x3 :: x4 :: T) (jR a :: st) (I) (R) (n) Q := jg_astore (i := 4) hd hi hp k
theorem j_lstore4 {x0 x1 x2 x3 x4 y : Option jV} {T : List (Option jV)} {a : Int} (hd : decode cc pc = .ok (.lstore 4, 2)) (hi : 4 + 1 < nL) (hp : jprev (x0 :: x1 :: x2 :: x3 :: x4 :: y :: T) 4 = true) (k : J X own nm cc nL ret d bc bs (pc + 2) (x0 :: x1 :: x2 :: x3 :: some (jL a) :: none :: T) (st) (I) (R) (n) Q) : J X own nm cc nL ret d bc bs (pc) (x0 :: x1 :: x2 :: x3 :: x4 :: y :: T) (jL a :: st) (I) (R) (n) Q := jg_lstore (i := 4) hd hi hp k
theorem j_iinc4 {x0 x1 x2 x3 : Option jV} {T : List (Option jV)} {a z : Int} (hd : decode cc pc = .ok (.iinc 4 z, 3)) (hi : 4 < nL) (hp : jprev (x0 :: x1 :: x2 :: x3 :: some (jI a) :: T) 4 = true) (k : J X own nm cc nL ret d bc bs (pc + 3) (x0 :: x1 :: x2 :: x3 :: some (jI (a + z)) :: T) (st) (I) (R) (n) Q) : J X own nm cc nL ret d bc bs (pc) (x0 :: x1 :: x2 :: x3 :: some (jI a) :: T) (st) (I) (R) (n) Q := jg_iinc (i := 4) hd rfl hi hp k
theorem j_istore5 {x0 x1 x2 x3 x4 x5 : Option jV} {T : List (Option jV)} {a : Int} (hd : decode cc pc = .ok (.istore 5, 2)) (hi : 5 < nL) (hp : jprev (x0 :: x1 :: x2 :: x3 :: x4 :: x5 :: T) 5 = true) (k : J X own nm cc nL ret d bc bs (pc + 2) (x0 :: x1 :: x2 :: x3 :: x4 :: some (jI a) :: T) (st) (I) (R) (n) Q) : J X own nm cc nL ret d bc bs (pc) (x0 :: x1 :: x2 :: x3 :: x4 :: x5 :: T) (jI a :: st) (I) (R) (n) Q := jg_istore (i := 5) hd hi hp k
theorem j_astore5 {x0 x1 x2 x3 x4 x5 : Option jV} {T : List (Option jV)} {a : Nat} (hd : decode cc pc = .ok (.astore 5, 2)) (hi : 5 < nL) (hp : jprev (x0 :: x1 :: x2 :: x3 :: x4 :: x5 :: T) 5 = true) (k : J X own nm cc nL ret d bc bs (pc + 2) (x0 :: x1 :: x2 :: x3 :: x4 :: some (jR a) :: T) (st) (I) (R) (n) Q) : J X own nm cc nL ret d bc bs (pc) (x0 :: x1 :: x2 :: x3 :: x4 :: x5 :: T) (jR a :: st) (I) (R) (n) Q := jg_astore (i := 5) hd hi hp k
theorem j_lstore5 {x0 x1 x2 x3 x4 x5 y : Option jV} {T : List (Option jV)} {a : Int} (hd : decode cc pc = .ok (.lstore 5, 2)) (hi : 5 + 1 < nL) (hp : jprev (x0 :: x1 :: x2 :: x3 :: x4 :: x5 :: y :: T) 5 = true) (k : J X own nm cc nL ret d bc bs (pc + 2) (x0 :: x1 :: x2 :: x3 :: x4 :: some (jL a) :: none :: T) (st) (I) (R) (n) Q) : J X own nm cc nL ret d bc bs (pc) (x0 :: x1 :: x2 :: x3 :: x4 :: x5 :: y :: T) (jL a :: st) (I) (R) (n) Q := jg_lstore (i := 5) hd hi hp k
theorem j_iinc5 {x0 x1 x2 x3 x4 : Option jV} {T : List (Option jV)} {a z : Int} (hd : decode cc pc = .ok (.iinc 5 z, 3)) (hi : 5 < nL) (hp : jprev (x0 :: x1 :: x2 :: x3 :: x4 :: some (jI a) :: T) 5 = true) (k : J X own nm cc nL ret d bc bs (pc + 3) (x0 :: x1 :: x2 :: x3 :: x4 :: some (jI (a + z)) :: T) (st) (I) (R) (n) Q) : J X own nm cc nL ret d bc bs (pc) (x0 :: x1 :: x2 :: x3 :: x4 :: some (jI a) :: T) (st) (I) (R) (n) Q := jg_iinc (i := 5) hd rfl hi hp k
theorem j_istore6 {x0 x1 x2 x3 x4 x5 x6 : Option jV} {T : List (Option jV)} {a : Int} (hd : decode cc pc = .ok (.istore 6, 2)) (hi : 6 < nL) (hp : jprev (x0 :: x1 :: x2 :: x3 :: x4 :: x5 :: x6 :: T) 6 = true) (k : J X own nm cc nL ret d bc bs (pc + 2) (x0 :: x1 :: x2 :: x3 :: x4 :: x5 :: some (jI a) :: T) (st) (I) (R) (n) Q) : J X own nm cc nL ret d bc bs (pc) (x0 :: x1 :: x2 :: x3 :: x4 :: x5 :: x6 :: T) (jI a :: st) (I) (R) (n) Q := jg_istore (i := 6) hd hi hp k
theorem j_astore6 {x0 x1 x2 x3 x4 x5 x6 : Option jV} {T : List (Option jV)} {a : Nat} (hd : decode cc pc = .ok (.astore 6, 2)) (hi : 6 < nL) (hp : jprev (x0 :: x1 :: x2 :: x3 :: x4 :: x5 :: x6 :: T) 6 = true) (k : J X own nm cc nL ret d bc bs (pc + 2) (x0 :: x1 :: x2 :: x3 :: x4 :: x5 :: some (jR a) :: T) (st) (I) (R) (n) Q) : J X own nm cc nL ret d bc bs (pc) (x0 :: x1 :: x2 :: x3 :: x4 :: x5 :: x6 :: T) (jR a :: st) (I) (R) (n) Q := jg_astore (i := 6) hd hi hp k
theorem j_lstore6 {x0 x1 x2 x3 x4 x5 x6 y : Option jV} {T : List (Option jV)} {a : Int} (hd : decode cc pc = .ok (.lstore 6, 2)) (hi : 6 + 1 < nL) (hp : jprev (x0 :: x1 :: x2 :: x3 :: x4 :: x5 :: x6 :: y :: T) 6 = true) (k : J X own nm cc nL ret d bc bs (pc + 2) (x0 :: x1 :: x2 :: x3 :: x4 :: x5 :: some (jL a) :: none :: T) (st) (I) (R) (n) Q) : J X own nm cc nL ret d bc bs (pc) (x0 :: x1 :: x2 :: x3 :: x4 :: x5 :: x6 :: y :: T) (jL a :: st) (I) (R) (n) Q := jg_lstore (i := 6) hd hi hp k
theorem j_iinc6 {x0 x1 x2 x3 x4 x5 : Option jV} {T : List (Option jV)} {a z : Int} (hd : decode cc pc = .ok (.iinc 6 z, 3)) (hi : 6 < nL) (hp : jprev (x0 :: x1 :: x2 :: x3 :: x4 :: x5 :: some (jI a) :: T) 6 = true) (k : J X own nm cc nL ret d bc bs (pc + 3) (x0 :: x1 :: x2 :: x3 :: x4 :: x5 :: some (jI (a + z)) :: T) (st) (I) (R) (n) Q) : J X own nm cc nL ret d bc bs (pc) (x0 :: x1 :: x2 :: x3 :: x4 :: x5 :: some (jI a) :: T) (st) (I) (R) (n) Q := jg_iinc (i := 6) hd rfl hi hp k
theorem j_istore7 {x0 x1 x2 x3 x4 x5 x6 x7 : Option jV} {T : List (Option jV)} {a : Int} (hd : decode cc pc = .ok (.istore 7, 2)) (hi : 7 < nL) (hp : jprev (x0 :: x1 :: x2 :: x3 :: x4 :: x5 :: x6 :: x7 :: T) 7 = true) (k : J X own nm cc nL ret d bc bs (pc + 2) (x0 :: x1 :: x2 :: x3 :: x4 :: x5 :: x6 :: some (jI a) :: T) (st) (I) (R) (n) Q) : J X own nm cc nL ret d bc bs (pc) (x0 :: x1 :: x2 :: x3 :: x4 :: x5 :: x6 :: x7 :: T) (jI a :: st) (I) (R) (n) Q := jg_istore (i := 7) hd hi hp k
theorem j_astore7 {x0 x1 x2 x3 x4 x5 x6 x7 : Option jV} {T : List (Option jV)} {a : Nat} (hd : decode cc pc = .ok (.astore 7, 2)) (hi : 7 < nL) (hp : jprev (x0 :: x1 :: x2 :: x3 :: x4 :: x5 :: x6 :: x7 :: T) 7 = true) (k : J X own nm cc nL ret d bc bs (pc + 2) (x0 :: x1 :: x2 :: x3 :: x4 :: x5 :: x6 :: some (jR a) :: T) (st) (I) (R) (n) Q) : J X own nm cc nL ret d bc bs (pc) (x0 :: x1 :: x2 :: x3 :: x4 :: x5 :: x6 :: x7 :: T) (jR a :: st) (I) (R) (n) Q := jg_astore (i := 7) hd hi hp k
theorem j_lstore7 {x0 x1 x2 x3 x4 x5 x6 x7 y : Option jV} {T : List (Option jV)} {a : Int} (hd : decode cc pc = .ok (.lstore 7, 2)) (hi : 7 + 1 < nL) (hp : jprev (x0 :: x1 :: x2 :: x3 :: x4 :: x5 :: x6 :: x7 :: y :: T) 7 = true) (k : J X own nm cc nL ret d bc bs (pc + 2) (x0 :: x1 :: x2 :: x3 :: x4 :: x5 :: x6 :: some (jL a) :: none :: T) (st) (I) (R) (n) Q) : J X own nm cc nL ret d bc bs (pc) (x0 :: x1 :: x2 :: x3 :: x4 :: x5 :: x6 :: x7 :: y :: T) (jL a :: st) (I) (R) (n) Q := jg_lstore (i := 7) hd hi hp k
theorem j_iinc7 {x0 x1 x2 x3 x4 x5 x6 : Option jV} {T : List (Option jV)} {a z : Int} (hd : decode cc pc = .ok (.iinc 7 z, 3)) (hi : 7 < nL) (hp : jprev (x0 :: x1 :: x2 :: x3 :: x4 :: x5 :: x6 :: some (jI a) :: T) 7 = true) (k : J X own nm cc nL ret d bc bs (pc + 3) (x0 :: x1 :: x2 :: x3 :: x4 :: x5 :: x6 :: some (jI (a + z)) :: T) (st) (I) (R) (n) Q) : J X own nm cc nL ret d bc bs (pc) (x0 :: x1 :: x2 :: x3 :: x4 :: x5 :: x6 :: some (jI a) :: T) (st) (I) (R) (n) Q := jg_iinc (i := 7) hd rfl hi hp k
theorem j_istore8 {x0 x1 x2 x3 x4 x5 x6 x7 x8 : Option jV} {T : List (Option jV)} {a : Int} (hd : decode cc pc = .ok (.istore 8, 2)) (hi : 8 < nL) (hp : jprev (x0 :: x1 :: x2 :: x3 :: x4 :: x5 :: x6 :: x7 :: x8 :: T) 8 = true) (k : J X own nm cc nL ret d bc bs (pc + 2) (x0 :: x1 :: x2 :: x3 :: x4 :: x5 :: x6 :: x7 :: some (jI a) :: T) (st) (I) (R) (n) Q) : J X own nm cc nL ret d bc bs (pc) (x0 :: x1 :: x2 :: x3 :: x4 :: x5 :: x6 :: x7 :: x8 :: T) (jI a :: st) (I) (R) (n) Q := jg_istore (i := 8) hd hi hp k
theorem j_astore8 {x0 x1 x2 x3 x4 x5 x6 x7 x8 : Option jV} {T : List (Option jV)} {a : Nat} (hd : decode cc pc = .ok (.astore 8, 2)) (hi : 8 < nL) (hp : jprev (x0 :: x1 :: x2 :: x3 :: x4 :: x5 :: x6 :: x7 :: x8 :: T) 8 = true) (k : J X own nm cc nL ret d bc bs (pc + 2) (x0 :: x1 :: x2 :: x3 :: x4 :: x5 :: x6 :: x7 :: some (jR a) :: T) (st) (I) (R) (n) Q) : J X own nm cc nL ret d bc bs (pc) (x0 :: x1 :: x2 :: x3 :: x4 :: x5 :: x6 :: x7 :: x8 :: T) (jR a :: st) (I) (R) (n) Q := jg_astore (i := 8) hd hi hp k
theorem j_lstore8 {x0 x1 x2 x3 x4 x5 x6 x7 x8 y : Option jV} {T : List (Option jV)} {a : Int} (hd : decode cc pc = .ok (.lstore 8, 2)) (hi : 8 + 1 < nL) (hp : jprev (x0 :: x1 :: x2 :: x3 :: x4 :: x5 :: x6 :: x7 :: x8 :: y :: T) 8 = true) (k : J X own nm cc nL ret d bc bs (pc + 2) (x0 :: x1 :: x2 :: x3 :: x4 :: x5 :: x6 :: x7 :: some (jL a) :: none :: T) (st) (I) (R) (n) Q) : J X own nm cc nL ret d bc bs (pc) (x0 :: x1 :: x2 :: x3 :: x4 :: x5 :: x6 :: x7 :: x8 :: y :: T) (jL a :: st) (I) (R) (n) Q := jg_lstore (i := 8) hd hi hp k
theorem j_iinc8 {x0 x1 x2 x3 x4 x5 x6 x7 : Option jV} {T : List (Option jV)} {a z : Int} (hd : decode cc pc = .ok (.iinc 8 z, 3)) (hi : 8 < nL) (hp : jprev (x0 :: x1 :: x2 :: x3 :: x4 :: x5 :: x6 :: x7 :: some (jI a) :: T) 8 = true) (k : J X own nm cc nL ret d bc bs (pc + 3) (x0 :: x1 :: x2 :: x3 :: x4 :: x5 :: x6 :: x7 :: some (jI (a + z)) :: T) (st) (I) (R) (n) Q) : J X own nm cc nL ret d bc bs (pc) (x0 :: x1 :: x2 :: x3 :: x4 :: x5 :: x6 :: x7 :: some (jI a) :: T) (st) (I) (R) (n) Q := jg_iinc (i := 8) hd rfl hi hp k
theorem j_istore9 {x0 x1 x2 x3 x4 x5 x6 x7 x8 x9 : Option jV} {T : List (Option jV)} {a : Int} (hd : decode cc pc = .ok (.istore 9, 2)) (hi : 9 < nL) (hp : jprev (x0 :: x1 :: x2 :: x3 :: x4 :: x5 :: x6 :: x7 :: x8 :: x9 :: T) 9 = true) (k : J X own nm cc nL ret d bc bs (pc + 2) (x0 :: x1 :: x2 :: x3 :: x4 :: x5 :: x6 :: x7 :: x8 :: some (jI a) :: T) (st) (I) (R) (n) Q) : J X own nm cc nL ret d bc bs (pc) (x0 :: x1 :: x2 :: x3 :: x4 :: x5 :: x6 :: x7 :: x8 :: x9 :: T) (jI a :: st) (I) (R) (n) Q := jg_istore (i := 9) hd hi hp k
theorem j_astore9 {x0 x1 x2 x3 x4 x5 x6 x7 x8 x9 : Option jV} {T : List (Option jV)} {a : Nat} (hd : decode cc pc = .ok (.astore 9, 2)) (hi : 9 < nL) (hp : jprev (x0 :: x1 :: x2 :: x3 :: x4 :: x5 :: x6 :: x7 :: x8 :: x9 :: T) 9 = true) (k : J X own nm cc nL ret d bc bs (pc + 2) (x0 :: x1 :: x2 :: x3 :: x4 :: x5 :: x6 :: x7 :: x8 :: some (jR a) :: T) (st) (I) (R) (n) Q) : J X own nm cc nL ret d bc bs (pc) (x0 :: x1 :: x2 :: x3 :: x4 :: x5 :: x6 :: x7 :: x8 :: x9 :: T) (jR a :: st) (I) (R) (n) Q := jg_astore (i := 9) hd hi hp k
theorem j_lstore9 {x0 x1 x2 x3 x4 x5 x6 x7 x8 x9 y : Option jV} {T : List (Option jV)} {a : Int} (hd : decode cc pc = .ok (.lstore 9, 2)) (hi : 9 + 1 < nL) (hp : jprev (x0 :: x1 :: x2 :: x3 :: x4 :: x5 :: x6 :: x7 :: x8 :: x9 :: y :: T) 9 = true) (k : J X own nm cc nL ret d bc bs (pc + 2) (x0 :: x1 :: x2 :: x3 :: x4 :: x5 :: x6 :: x7 :: x8 :: some (jL a) :: none :: T) (st) (I) (R) (n) Q) : J X own nm cc nL ret d bc bs (pc) (x0 :: x1 :: x2 :: x3 :: x4 :: x5 :: x6 :: x7 :: x8 :: x9 :: y :: T) (jL a :: st) (I) (R) (n) Q := jg_lstore (i := 9) hd hi hp k
theorem j_iinc9 {x0 x1 x2 x3 x4 x5 x6 x7 x8 : Option jV} {T : List (Option jV)} {a z : Int} (hd : decode cc pc = .ok (.iinc 9 z, 3)) (hi : 9 < nL) (hp : jprev (x0 :: x1 :: x2 :: x3 :: x4 :: x5 :: x6 :: x7 :: x8 :: some (jI a) :: T) 9 = true) (k : J X own nm cc nL ret d bc bs (pc + 3) (x0 :: x1 :: x2 :: x3 :: x4 :: x5 :: x6 :: x7 :: x8 :: some (jI (a + z)) :: T) (st) (I) (R) (n) Q) : J X own nm cc nL ret d bc bs (pc) (x0 :: x1 :: x2 :: x3 :: x4 :: x5 :: x6 :: x7 :: x8 :: some (jI a) :: T) (st) (I) (R) (n) Q := jg_iinc (i := 9) hd rfl hi hp k
theorem j_istore10 {x0 x1 x2 x3 x4 x5 x6 x7 x8 x9 x10 : Option jV} {T : List (Option jV)} {a : Int} (hd : decode cc pc = .ok (.istore 10, 2)) (hi : 10 < nL) (hp : jprev (x0 :: x1 :: x2 :: x3 :: x4 :: x5 :: x6 :: x7 :: x8 :: x9 :: x10 :: T) 10 = true) (k : J X own nm cc nL ret d bc bs (pc + 2) (x0 :: x1 :: x2 :: x3 :: x4 :: x5 :: x6 :: x7 :: x8 :: x9 :: some (jI a) :: T) (st) (I) (R) (n) Q) : J X own nm cc nL ret d bc bs (pc) (x0 :: x1 :: x2 :: x3 :: x4 :: x5 :: x6 :: x7 :: x8 :: x9 :: x10 :: T) (jI a :: st) (I) (R) (n) Q := jg_istore (i := 10) hd hi hp k
theorem j_astore10 {x0 x1 x2 x3 x4 x5 x6 x7 x8 x9 x10 : Option jV} {T : List (Option jV)} {a : Nat} (hd : decode cc pc = .ok (.astore 10, 2)) (hi : 10 < nL) (hp : jprev (x0 :: x1 :: x2 :: x3 :: x4 :: x5 :: x6 :: x7 :: x8 :: x9 :: x10 :: T) 10 = true) (k : J X own nm cc nL ret d bc bs (pc + 2) (x0 :: x1 :: x2 :: x3 :: x4 :: x5 :: x6 :: x7 :: x8 :: x9 :: some (jR a) :: T) (st) (I) (R) (n) Q) : J X own nm cc nL ret d bc bs (pc) (x0 :: x1 :: x2 :: x3 :: x4 :: x5 :: x6 :: x7 :: x8 :: x9 :: x10 :: T) (jR a :: st) (I) (R) (n) Q := jg_astore (i := 10) hd hi hp k
theorem j_lstore10 {x0 x1 x2 x3 x4 x5 x6 x7 x8 x9 x10 y : Option jV} {T : List (Option jV)} {a : Int} (hd : decode cc pc = .ok (.lstore 10, 2)) (hi : 10 + 1 < nL) (hp : jprev (x0 :: x1 :: x2 :: x3 :: x4 :: x5 :: x6 :: x7 :: x8 :: x9 :: x10 :: y :: T) 10 = true) (k : J X own nm cc nL ret d bc bs (pc + 2) (x0 :: x1 :: x2 :: x3 :: x4 :: x5 :: x6 :: x7 :: x8 :: x9 :: some (jL a) :: none :: T) (st) (I) (R) (n) Q) : J X own nm cc nL ret d bc bs (pc) (x0 :: x1 :: x2 :: x3 :: x4 :: x5 :: x6 :: x7 :: x8 :: x9 :: x10 :: y :: T) (jL a :: st) (I) (R) (n) Q := jg_lstore (i := 10) hd hi hp k
theorem j_iinc10 {x0 x1 x2 x3 x4 x5 x6 x7 x8 x9 : Option jV} {T : List (Option jV)} {a z : Int} (hd : decode cc pc = .ok (.iinc 10 z, 3)) (hi : 10 < nL) (hp : jprev (x0 :: x1 :: x2 :: x3 :: x4 :: x5 :: x6 :: x7 :: x8 :: x9 :: some (jI a) :: T) 10 = true) (k : J X own nm cc nL ret d bc bs (pc + 3) (x0 :: x1 :: x2 :: x3 :: x4 :: x5 :: x6 :: x7 :: x8 :: x9 :: some (jI (a + z)) :: T) (st) (I) (R) (n) Q) : J X own nm cc nL ret d bc bs (pc) (x0 :: x1 :: x2 :: x3 :: x4 :: x5 :: x6 :: x7 :: x8 :: x9 :: some (jI a) :: T) (st) (I) (R) (n) Q := jg_iinc (i := 10) hd rfl hi hp k
theorem j_istore11 {x0 x1 x2 x3 x4 x5 x6 x7 x8 x9 x10 x11 : Option jV} {T : List (Option jV)} {a : Int} (hd : decode cc pc = .ok (.istore 11, 2)) (hi : 11 < nL) (hp : jprev (x0 :: x1 :: x2 :: x3 :: x4 :: x5 :: x6 :: x7 :: x8 :: x9 :: x10 :: x11 :: T) 11 = true) (k : J X own nm cc nL ret d bc bs (pc + 2) (x0 :: x1 :: x2 :: x3 :: x4 :: x5 :: x6 :: x7 :: x8 :: x9 :: x10 :: some (jI a) :: T) (st) (I) (R) (n) Q) : J X own nm cc nL ret d bc bs (pc) (x0 :: x1 :: x2 :: x3 :: x4 :: x5 :: x6 :: x7 :: x8 :: x9 :: x10 :: x11 :: T) (jI a :: st) (I) (R) (n) Q := jg_istore (i := 11) hd hi hp k
theorem j_astore11 {x0 x1 x2 x3 x4 x5 x6 x7 x8 x9 x10 x11 : Option jV} {T : List (Option jV)} {a : Nat} (hd : decode cc pc = .ok (.astore 11, 2)) (hi : 11 < nL) (hp : jprev (x0 :: x1 :: x2 :: x3 :: x4 :: x5 :: x6 :: x7 :: x8 :: x9 :: x10 :: x11 :: T) 11 = true) (k : J X own nm cc nL ret d bc bs (pc + 2) (x0 :: x1 :: x2 :: x3 :: x4 :: x5 :: x6 :: x7 :: x8 :: x9 :: x10 :: some (jR a) :: T) (st) (I) (R) (n) Q) : J X own nm cc nL ret d bc bs (pc) (x0 :: x1 :: x2 :: x3 :: x4 :: x5 :: x6 :: x7 :: x8 :: x9 :: x10 :: x11 :: T) (jR a :: st) (I) (R) (n) Q := jg_astore (i := 11) hd hi hp k
theorem j_lstore11 {x0 x1 x2 x3 x4 x5 x6 x7 x8 x9 x10 x11 y : Option jV} {T : List (Option jV)} {a : Int} (hd : decode cc pc = .ok (.lstore 11, 2)) (hi : 11 + 1 < nL) (hp : jprev (x0 :: x1 :: x2 :: x3 :: x4 :: x5 :: x6 :: x7 :: x8 :: x9 :: x10 :: x11 :: y :: T) 11 = true) (k : J X own nm cc nL ret d bc bs (pc + 2) (x0 :: x1 :: x2 :: x3 :: x4 :: x5 :: x6 :: x7 :: x8 :: x9 :: x10 :: some (jL a) :: none :: T) (st) (I) (R) (n) Q) : J X own nm cc nL ret d bc bs (pc) (x0 :: x1 :: x2 :: x3 :: x4 :: x5 :: x6 :: x7 :: x8 :: x9 :: x10 :: x11 :: y :: T) (jL a :: st) (I) (R) (n) Q := jg_lstore (i := 11) hd hi hp k
theorem j_iinc11 {x0 x1 x2 x3 x4 x5 x6 x7 x8 x9 x10 : Option jV} {T : List (Option jV)} {a z : Int} (hd : decode cc pc = .ok (.iinc 11 z, 3)) (hi : 11 < nL) (hp : jprev (x0 :: x1 :: x2 :: x3 :: x4 :: x5 :: x6 :: x7 :: x8 :: x9 :: x10 :: some (jI a) :: T) 11 = true) (k : J X own nm cc nL ret d bc bs (pc + 3) (x0 :: x1 :: x2 :: x3 :: x4 :: x5 :: x6 :: x7 :: x8 :: x9 :: x10 :: some (jI (a + z)) :: T) (st) (I) (R) (n) Q) : J X own nm cc nL ret d bc bs (pc) (x0 :: x1 :: x2 :: x3 :: x4 :: x5 :: x6 :: x7 :: x8 :: x9 :: x10 :: some (jI a) :: T) (st) (I) (R) (n) Q := jg_iinc (i := 11) hd rfl hi hp k
theorem j_istore12 {x0 x1 x2 x3 x4 x5 x6 x7 x8 x9 x10 x11 x12 : Option jV} {T : List (Option jV)} {a : Int} (hd : decode cc pc = .ok (.istore 12, 2)) (hi : 12 < nL) (hp : jprev (x0 :: x1 :: x2 :: x3 :: x4 :: x5 :: x6 :: x7 :: x8 :: x9 :: x10 :: x11 :: x12 :: T) 12 = true) (k : J X own nm cc nL ret d bc bs (pc + 2) (x0 :: x1 :: x2 :: x3 :: x4 :: x5 :: x6 :: x7 :: x8 :: x9 :: x10 :: x11 :: some (jI a) :: T) (st) (I) (R) (n) Q) : J X own nm cc nL ret d bc bs (pc) (x0 :: x1 :: x2 :: x3 :: x4 :: x5 :: x6 :: x7 :: x8 :: x9 :: x10 :: x11 :: x12 :: T) (jI a :: st) (I) (R) (n) Q := jg_istore (i := 12) hd hi hp k
theorem j_astore12 {x0 x1 x2 x3 x4 x5 x6 x7 x8 x9 x10 x11 x12 : Option jV} {T : List (Option jV)} {a : Nat} (hd : decode cc pc = .ok (.astore 12, 2)) (hi : 12 < nL) (hp : jprev (x0 :: x1 :: x2 :: x3 :: x4 :: x5 :: x6 :: x7 :: x8 :: x9 :: x10 :: x11 :: x12 :: T) 12 = true) (k : J X own nm cc nL ret d bc bs (pc + 2) (x0 :: x1 :: x2 :: x3 :: x4 :: x5 :: x6 :: x7 :: x8 :: x9 :: x10 :: x11 :: some (jR a) :: T) (st) (I) (R) (n) Q) : J X own nm cc nL ret d bc bs (pc) (x0 :: x1 :: x2 :: x3 :: x4 :: x5 :: x6 :: x7 :: x8 :: x9 :: x10 :: x11 :: x12 :: T) (jR a :: st) (I) (R) (n) Q := jg_astore (i := 12) hd hi hp k
theorem j_lstore12 {x0 x1 x2 x3 x4 x5 x6 x7 x8 x9 x10 x11 x12 y : Option jV} {T : List (Option jV)} {a : Int} (hd : decode cc pc = .ok (.lstore 12, 2)) (hi : 12 + 1 < nL) (hp : jprev (x0 :: x1 :: x2 :: x3 :: x4 :: x5 :: x6 :: x7 :: x8 :: x9 :: x10 :: x11 :: x12 :: y :: T) 12 = true) (k : J X own nm cc nL ret d bc bs (pc + 2) (x0 :: x1 :: x2 :: x3 :: x4 :: x5 :: x6 :: x7 :: x8 :: x9 :: x10 :: x11 :: some (jL a) :: none :: T) (st) (I) (R) (n) Q) : J X own nm cc nL ret d bc bs (pc) (x0 :: x1 :: x2 :: x3 :: x4 :: x5 :: x6 :: x7 :: x8 :: x9 :: x10 :: x11 :: x12 :: y :: T) (jL a :: st) (I) (R) (n) Q := jg_lstore (i := 12) hd hi hp k
theorem j_iinc12 {x0 x1 x2 x3 x4 x5 x6 x7 x8 x9 x10 x11 : Option jV} {T : List (Option jV)} {a z : Int} (hd : decode cc pc = .ok (.iinc 12 z, 3)) (hi : 12 < nL) (hp : jprev (x0 :: x1 :: x2 :: x3 :: x4 :: x5 :: x6 :: x7 :: x8 :: x9 :: x10 :: x11 :: some (jI a) :: T) 12 = true) (k : J X own nm cc nL ret d bc bs (pc + 3) (x0 :: x1 :: x2 :: x3 :: x4 :: x5 :: x6 :: x7 :: x8 :: x9 :: x10 :: x11 :: some (jI (a + z)) :: T) (st) (I) (R) (n) Q) : J X own nm cc nL ret d bc bs (pc) (x0 :: x1 :: x2 :: x3 :: x4 :: x5 :: x6 :: x7 :: x8 :: x9 :: x10 :: x11 :: some (jI a) :: T) (st) (I) (R) (n) Q := jg_iinc (i := 12) hd rfl hi hp k
theorem j_istore13 {x0 x1 x2 x3 x4 x5 x6 x7 x8 x9 x10 x11 x12 x13 : Option jV} {T : List (Option jV)} {a : Int} (hd : decode cc pc = .ok (.istore 13, 2)) (hi : 13 < nL) (hp : jprev (x0 :: x1 :: x2 :: x3 :: x4 :: x5 :: x6 :: x7 :: x8 :: x9 :: x10 :: x11 :: x12 :: x13 :: T) 13 = true) (k : J X own nm cc nL ret d bc bs (pc + 2) (x0 :: x1 :: x2 :: x3 :: x4 :: x5 :: x6 :: x7 :: x8 :: x9 :: x10 :: x11 :: x12 :: some (jI a) :: T) (st) (I) (R) (n) Q) : J X own nm cc nL ret d bc bs (pc) (x0 :: x1 :: x2 :: x3 :: x4 :: x5 :: x6 :: x7 :: x8 :: x9 :: x10 :: x11 :: x12 :: x13 :: T) (jI a :: st) (I) (R) (n) Q := jg_istore (i := 13) hd hi hp k
theorem j_astore13 {x0 x1 x2 x3 x4 x5 x6 x7 x8 x9 x10 x11 x12 x13 : Option jV} {T : List (Option jV)} {a : Nat} (hd : decode cc pc = .ok (.astore 13, 2)) (hi : 13 < nL) (hp : jprev (x0 :: x1 :: x2 :: x3 :: x4 :: x5 :: x6 :: x7 :: x8 :: x9 :: x10 :: x11 :: x12 :: x13 :: T) 13 = true) (k : J X own nm cc nL ret d bc bs (pc + 2) (x0 :: x1 :: x2 :: x3 :: x4 :: x5 :: x6 :: x7 :: x8 :: x9 :: x10 :: x11 :: x12 :: some (jR a) :: T) (st) (I) (R) (n) Q) : J X own nm cc nL ret d bc bs (pc) (x0 :: x1 :: x2 :: x3 :: x4 :: x5 :: x6 :: x7 :: x8 :: x9 :: x10 :: x11 :: x12 :: x13 :: T) (jR a :: st) (I) (R) (n) Q := jg_astore (i := 13) hd hi hp k
theorem j_lstore13 {x0 x1 x2 x3 x4 x5 x6 x7 x8 x9 x10 x11 x12 x13 y : Option jV} {T : List (Option jV)} {a : Int} (hd : decode cc pc = .ok (.lstore 13, 2)) (hi : 13 + 1 < nL) (hp : jprev (x0 :: x1 :: x2 :: x3 :: x4 :: x5 :: x6 :: x7 :: x8 :: x9 :: x10 :: x11 :: x12 :: x13 :: y :: T) 13 = true) (k : J X own nm cc nL ret d bc bs (pc + 2) (x0 :: x1 :: x2 :: x3 :: x4 :: x5 :: x6 :: x7 :: x8 :: x9 :: x10 :: x11 :: x12 :: some (jL a) :: none :: T) (st) (I) (R) (n) Q) : J X own nm cc nL ret d bc bs (pc) (x0 :: x1 :: x2 :: x3 :: x4 :: x5 :: x6 :: x7 :: x8 :: x9 :: x10 :: x11 :: x12 :: x13 :: y :: T) (jL a :: st) (I) (R) (n) Q := jg_lstore (i := 13) hd hi hp k
theorem j_iinc13 {x0 x1 x2 x3 x4 x5 x6 x7 x8 x9 x10 x11 x12 : Option jV} {T : List (Option jV)} {a z : Int} (hd : decode cc pc = .ok (.iinc 13 z, 3)) (hi : 13 < nL) (hp : jprev (x0 :: x1 :: x2 :: x3 :: x4 :: x5 :: x6 :: x7 :: x8 :: x9 :: x10 :: x11 :: x12 :: some (jI a) :: T) 13 = true) (k : J X own nm cc nL ret d bc bs (pc + 3) (x0 :: x1 :: x2 :: x3 :: x4 :: x5 :: x6 :: x7 :: x8 :: x9 :: x10 :: x11 :: x12 :: some (jI (a + z)) :: T) (st) (I) (R) (n) Q) : J X own nm cc nL ret d bc bs (pc) (x0 :: x1 :: x2 :: x3 :: x4 :: x5 :: x6 :: x7 :: x8 :: x9 :: x10 :: x11 :: x12 :: some (jI a) :: T) (st) (I) (R) (n) Q := jg_iinc (i := 13) hd rfl hi hp k
theorem j_istore14 {x0 x1 x2 x3 x4 x5 x6 x7 x8 x9 x10 x11 x12 x13 x14 : Option jV} {T : List (Option jV)} {a : Int} (hd : decode cc pc = .ok (.istore 14, 2)) (hi : 14 < nL) (hp : jprev (x0 :: x1 :: x2 :: x3 :: x4 :: x5 :: x6 :: x7 :: x8 :: x9 :: x10 :: x11 :: x12 :: x13 :: x14 :: T) 14 = true) (k : J X own nm cc nL ret d bc bs (pc + 2) (x0 :: x1 :: x2 :: x3 :: x4 :: x5 :: x6 :: x7 :: x8 :: x9 :: x10 :: x11 :: x12 :: x13 :: some (jI a) :: T) (st) (I) (R) (n) Q) : J X own nm cc nL ret d bc bs (pc) (x0 :: x1 :: x2 :: x3 :: x4 :: x5 :: x6 :: x7 :: x8 :: x9 :: x10 :: x11 :: x12 :: x13 :: x14 :: T) (jI a :: st) (I) (R) (n) Q := jg_istore (i := 14) hd hi hp k
theorem j_astore14 {x0 x1 x2 x3 x4 x5 x6 x7 x8 x9 x10 x11 x12 x13 x14 : Option jV} {T : List (Option jV)} {a : Nat} (hd : decode cc pc = .ok (.astore 14, 2)) (hi : 14 < nL) (hp : jprev (x0 :: x1 :: x2 :: x3 :: x4 :: x5 :: x6 :: x7 :: x8 :: x9 :: x10 :: x11 :: x12 :: x13 :: x14 :: T) 14 = true) (k : J X own nm cc nL ret d bc bs (pc + 2) (x0 :: x1 :: x2 :: x3 :: x4 :: x5 :: x6 :: x7 :: x8 :: x9 :: x10 :: x11 :: x12 :: x13 :: some (jR a) :: T) (st) (I) (R) (n) Q) : J X own nm cc nL ret d bc bs (pc) (x0 :: x1 :: x2 :: x3 :: x4 :: x5 :: x6 :: x7 :: x8 :: x9 :: x10 :: x11 :: x12 :: x13 :: x14 :: T) (jR a :: st) (I) (R) (n) Q := jg_astore (i := 14) hd hi hp k
theorem j_lstore14 {x0 x1 x2 x3 x4 x5 x6 x7 x8 x9 x10 x11 x12 x13 x14 y : Option jV} {T : List (Option jV)} {a : Int} (hd : decode cc pc = .ok (.lstore 14, 2)) (hi : 14 + 1 < nL) (hp : jprev (x0 :: x1 :: x2 :: x3 :: x4 :: x5 :: x6 :: x7 :: x8 :: x9 :: x10 :: x11 :: x12 :: x13 :: x14 :: y :: T) 14 = true) (k : J X own nm cc nL ret d bc bs (pc + 2) (x0 :: x1 :: x2 :: x3 :: x4 :: x5 :: x6 :: x7 :: x8 :: x9 :: x10 :: x11 :: x12 :: x13 :: some (jL a) :: none :: T) (st) (I) (R) (n) Q) : J X own nm cc nL ret d bc bs (pc) (x0 :: x1 :: x2 :: x3 :: x4 :: x5 :: x6 :: x7 :: x8 :: x9 :: x10 :: x11 :: x12 :: x13 :: x14 :: y :: T) (jL a :: st) (I) (R) (n) Q := jg_lstore (i := 14) hd hi hp k
theorem j_iinc14 {x0 x1 x2 x3 x4 x5 x6 x7 x8 x9 x10 x11 x12 x13 : Option jV} {T : List (Option jV)} {a z : Int} (hd : decode cc pc = .ok (.iinc 14 z, 3)) (hi : 14 < nL) (hp : jprev (x0 :: x1 :: x2 :: x3 :: x4 :: x5 :: x6 :: x7 :: x8 :: x9 :: x10 :: x11 :: x12 :: x13 :: some (jI a) :: T) 14 = true) (k : J X own nm cc nL ret d bc bs (pc + 3) (x0 :: x1 :: x2 :: x3 :: x4 :: x5 :: x6 :: x7 :: x8 :: x9 :: x10 :: x11 :: x12 :: x13 :: some (jI (a + z)) :: T) (st) (I) (R) (n) Q) : J X own nm cc nL ret d bc bs (pc) (x0 :: x1 :: x2 :: x3 :: x4 :: x5 :: x6 :: x7 :: x8 :: x9 :: x10 :: x11 :: x12 :: x13 :: some (jI a) :: T) (st) (I) (R) (n) Q := jg_iinc (i := 14) hd rfl hi hp k
theorem j_istore15 {x0 x1 x2 x3 x4 x5 x6 x7 x8 x9 x10 x11 x12 x13 x14 x15 : Option jV} {T : List (Option jV)} {a : Int} (hd : decode cc pc = .ok (.istore 15, 2)) (hi : 15 < nL) (hp : jprev (x0 :: x1 :: x2 :: x3 :: x4 :: x5 :: x6 :: x7 :: x8 :: x9 :: x10 :: x11 :: x12 :: x13 :: x14 :: x15 :: T) 15 = true) (k : J X own nm cc nL ret d bc bs (pc + 2) (x0 :: x1 :: x2 :: x3 :: x4 :: x5 :: x6 :: x7 :: x8 :: x9 :: x10 :: x11 :: x12 :: x13 :: x14 :: some (jI a) :: T) (st) (I) (R) (n) Q) : J X own nm cc nL ret d bc bs (pc) (x0 :: x1 :: x2 :: x3 :: x4 :: x5 :: x6 :: x7 :: x8 :: x9 :: x10 :: x11 :: x12 :: x13 :: x14 :: x15 :: T) (jI a :: st) (I) (R) (n) Q := jg_istore (i := 15) hd hi hp k
theorem j_astore15 {x0 x1 x2 x3 x4 x5 x6 x7 x8 x9 x10 x11 x12 x13 x14 x15 : Option jV} {T : List (Option jV)} {a : Nat} (hd : decode cc pc = .ok (.astore 15, 2)) (hi : 15 < nL) (hp : jprev (x0 :: x1 :: x2 :: x3 :: x4 :: x5 :: x6 :: x7 :: x8 :: x9 :: x10 :: x11 :: x12 :: x13 :: x14 :: x15 :: T) 15 = true) (k : J X own nm cc nL ret d bc bs (pc + 2) (x0 :: x1 :: x2 :: x3 :: x4 :: x5 :: x6 :: x7 :: x8 :: x9 :: x10 :: x11 :: x12 :: x13 :: x14 :: some (jR a) :: T) (st) (I) (R) (n) Q) : J X own nm cc nL ret d bc bs (pc) (x0 :: x1 :: x2 :: x3 :: x4 :: x5 :: x6 :: x7 :: x8 :: x9 :: x10 :: x11 :: x12 :: x13 :: x14 :: x15 :: T) (jR a :: st) (I) (R) (n) Q := jg_astore (i := 15) hd hi hp k
theorem j_lstore15 {x0 x1 x2 x3 x4 x5 x6 x7 x8 x9 x10 x11 x12 x13 x14 x15 y : Option jV} {T : List (Option jV)} {a : Int} (hd : decode cc pc = .ok (.lstore 15, 2)) (hi : 15 + 1 < nL) (hp : jprev (x0 :: x1 :: x2 :: x3 :: x4 :: x5 :: x6 :: x7 :: x8 :: x9 :: x10 :: x11 :: x12 :: x13 :: x14 :: x15 :: y :: T) 15 = true) (k : J X own nm cc nL ret d bc bs (pc + 2) (x0 :: x1 :: x2 :: x3 :: x4 :: x5 :: x6 :: x7 :: x8 :: x9 :: x10 :: x11 :: x12 :: x13 :: x14 :: some (jL a) :: none :: T) (st) (I) (R) (n) Q) : J X own nm cc nL ret d bc bs (pc) (x0 :: x1 :: x2 :: x3 :: x4 :: x5 :: x6 :: x7 :: x8 :: x9 :: x10 :: x11 :: x12 :: x13 :: x14 :: x15 :: y :: T) (jL a :: st) (I) (R) (n) Q := jg_lstore (i := 15) hd hi hp k
theorem j_iinc15 {x0 x1 x2 x3 x4 x5 x6 x7 x8 x9 x10 x11 x12 x13 x14 : Option jV} {T : List (Option jV)} {a z : Int} (hd : decode cc pc = .ok (.iinc 15 z, 3)) (hi : 15 < nL) (hp : jprev (x0 :: x1 :: x2 :: x3 :: x4 :: x5 :: x6 :: x7 :: x8 :: x9 :: x10 :: x11 :: x12 :: x13 :: x14 :: some (jI a) :: T) 15 = true) (k : J X own nm cc nL ret d bc bs (pc + 3) (x0 :: x1 :: x2 :: x3 :: x4 :: x5 :: x6 :: x7 :: x8 :: x9 :: x10 :: x11 :: x12 :: x13 :: x14 :: some (jI (a + z)) :: T) (st) (I) (R) (n) Q) : J X own nm cc nL ret d bc bs (pc) (x0 :: x1 :: x2 :: x3 :: x4 :: x5 :: x6 :: x7 :: x8 :: x9 :: x10 :: x11 :: x12 :: x13 :: x14 :: some (jI a) :: T) (st) (I) (R) (n) Q := jg_iinc (i := 15) hd rfl hi hp k
theorem j_istore16 {x0 x1 x2 x3 x4 x5 x6 x7 x8 x9 x10 x11 x12 x13 x14 x15 x16 : Option jV} {T : List (Option jV)} {a : Int} (hd : decode cc pc = .ok (.istore 16, 2)) (hi : 16 < nL) (hp : jprev (x0 :: x1 :: x2 :: x3 :: x4 :: x5 :: x6 :: x7 :: x8 :: x9 :: x10 :: x11 :: x12 :: x13 :: x14 :: x15 :: x16 :: T) 16 = true) (k : J X own nm cc nL ret d bc bs (pc + 2) (x0 :: x1 :: x2 :: x3 :: x4 :: x5 :: x6 :: x7 :: x8 :: x9 :: x10 :: x11 :: x12 :: x13 :: x14 :: x15 :: some (jI a) :: T) (st) (I) (R) (n) Q) : J X own nm cc nL ret d bc bs (pc) (x0 :: x1 :: x2 :: x3 :: x4 :: x5 :: x6 :: x7 :: x8 :: x9 :: x10 :: x11 :: x12 :: x13 :: x14 :: x15 :: x16 :: T) (jI a :: st) (I) (R) (n) Q := jg_istore (i := 16) hd hi hp k
theorem j_astore16 {x0 x1 x2 x3 x4 x5 x6 x7 x8 x9 x10 x11 x12 x13 x14 x15 x16 : Option jV} {T : List (Option jV)} {a : Nat} (hd : decode cc pc = .ok (.astore 16, 2)) (hi : 16 < nL) (hp : jprev (x0 :: x1 :: x2 :: x3 :: x4 :: x5 :: x6 :: x7 :: x8 :: x9 :: x10 :: x11 :: x12 :: x13 :: x14 :: x15 :: x16 :: T) 16 = true) (k : J X own nm cc nL ret d bc bs (pc + 2) (x0 :: x1 :: x2 :: x3 :: x4 :: x5 :: x6 :: x7 :: x8 :: x9 :: x10 :: x11 :: x12 :: x13 :: x14 :: x15 :: some (jR a) :: T) (st) (I) (R) (n) Q) : J X own nm cc nL ret d bc bs (pc) (x0 :: x1 :: x2 :: x3 :: x4 :: x5 :: x6 :: x7 :: x8 :: x9 :: x10 :: x11 :: x12 :: x13 :: x14 :: x15 :: x16 :: T) (jR a :: st) (I) (R) (n) Q := jg_astore (i := 16) hd hi hp k
theorem j_lstore16 {x0 x1 x2 x3 x4 x5 x6 x7 x8 x9 x10 x11 x12 x13 x14 x15 x16 y : Option jV} {T : List (Option jV)} {a : Int} (hd : decode cc pc = .ok (.lstore 16, 2)) (hi : 16 + 1 < nL) (hp : jprev (x0 :: x1 :: x2 :: x3 :: x4 :: x5 :: x6 :: x7 :: x8 :: x9 :: x10 :: x11 :: x12 :: x13 :: x14 :: x15 :: x16 :: y :: T) 16 = true) (k : J X own nm cc nL ret d bc bs (pc + 2) (x0 :: x1 :: x2 :: x3 :: x4 :: x5 :: x6 :: x7 :: x8 :: x9 :: x10 :: x11 :: x12 :: x13 :: x14 :: x15 :: some (jL a) :: none :: T) (st) (I) (R) (n) Q) : J X own nm cc nL ret d bc bs (pc) (x0 :: x1 :: x2 :: x3 :: x4 :: x5 :: x6 :: x7 :: x8 :: x9 :: x10 :: x11 :: x12 :: x13 :: x14 :: x15 :: x16 :: y :: T) (jL a :: st) (I) (R) (n) Q := jg_lstore (i := 16) hd hi hp k
theorem j_iinc16 {x0 x1 x2 x3 x4 x5 x6 x7 x8 x9 x10 x11 x12 x13 x14 x15 : Option jV} {T : List (Option jV)} {a z : Int} (hd : decode cc pc = .ok (.iinc 16 z, 3)) (hi : 16 < nL) (hp : jprev (x0 :: x1 :: x2 :: x3 :: x4 :: x5 :: x6 :: x7 :: x8 :: x9 :: x10 :: x11 :: x12 :: x13 :: x14 :: x15 :: some (jI a) :: T) 16 = true) (k : J X own nm cc nL ret d bc bs (pc + 3) (x0 :: x1 :: x2 :: x3 :: x4 :: x5 :: x6 :: x7 :: x8 :: x9 :: x10 :: x11 :: x12 :: x13 :: x14 :: x15 :: some (jI (a + z)) :: T) (st) (I) (R) (n) Q) : J X own nm cc nL ret d bc bs (pc) (x0 :: x1 :: x2 :: x3 :: x4 :: x5 :: x6 :: x7 :: x8 :: x9 :: x10 :: x11 :: x12 :: x13 :: x14 :: x15 :: some (jI a) :: T) (st) (I) (R) (n) Q := jg_iinc (i := 16) hd rfl hi hp k
end JS
end
section
/-! ===== worlds ===== -/
theorem jW_get {X : jX} {I : jMI} {R : jMR} {n k : Nat} (h : k < n) : (jW X I R n)[k]? = some (jB X + k, jen X I R k) := by
  simp [jW, h]
theorem jW_D {X : jX} {I : jMI} {R : jMR} {n : Nat} : va_D (jA X) (jW X I R n) := by
  have key : ∀ (k : Nat) (q : Nat × va_E), (jW X I R n)[k]? = some q → q.1 = jB X + k := by
    intro k q h
    have hl : k < n := by
      have := (List.getElem?_eq_some_iff.mp h).1
      simpa [jW] using this
    rw [jW_get hl] at h
    cases h
    rfl
  refine ⟨fun i j p q hi hj e => ?_, fun k q hk => ?_⟩
  · rw [key i p hi, key j q hj] at e
    omega
  · show jB X ≤ q.1
    rw [key k q hk]
    omega
theorem jW_set {X : jX} {I I' : jMI} {R R' : jMR} {n k : Nat} {e : va_E} (h1 : ∀ j, j ≠ k → jen X I' R' j = jen X I R j) (h2 : jen X I' R' k = e) : (jW X I R n).set k (jB X + k, e) = jW X I' R' n := by
  apply List.ext_getElem?
  intro j
  by_cases hj : j = k
  · subst hj
    by_cases hl : j < n
    · rw [List.getElem?_set_self (by simpa [jW] using hl), jW_get hl, h2]
    · rw [List.getElem?_eq_none (by simp [jW]; omega), List.getElem?_eq_none (by simp [jW]; omega)]
  · rw [List.getElem?_set_ne (Ne.symm hj)]
    by_cases hl : j < n
    · rw [jW_get hl, jW_get hl, h1 j hj]
    · rw [List.getElem?_eq_none (by simp [jW]; omega), List.getElem?_eq_none (by simp [jW]; omega)]
theorem jW_push {X : jX} {I : jMI} {R : jMR} {n : Nat} : jW X I R n ++ [(jB X + n, jen X I R n)] = jW X I R (n + 1) := by
  simp [jW, List.range_succ]
theorem jsh_lt {k : Nat} {q : (FieldType × Nat) ⊕ Nat} (h : jsh k = q) (hq : q ≠ .inr 99) : k < 124 := by
  by_cases hk : k < 124
  · exact hk
  · exfalso
    apply hq
    rw [← h]
    unfold jsh
    rw [List.getD_eq_getElem?_getD, List.getElem?_eq_none (by rw [show jshL.length = 124 from rfl]; omega)]
    rfl
theorem jad_lt {X : jX} {k : Nat} (h : k < 124) : jad X k = jB X + k := by
  unfold jad
  rw [if_pos (by omega)]
theorem j_vwCl {ci : Nat} (h : ci < 13) : vwCl[ci]? = some (jnm ci, jtT ci, jnF ci) := by
  match ci, h with

  | 0, _ => rfl
  | 1, _ => rfl
  | 2, _ => rfl
  | 3, _ => rfl
  | 4, _ => rfl
  | 5, _ => rfl
  | 6, _ => rfl
  | 7, _ => rfl
  | 8, _ => rfl
  | 9, _ => rfl
  | 10, _ => rfl
  | 11, _ => rfl
  | 12, _ => rfl
  | k + 13, h => omega
theorem jin_0 : ∀ w ∈ u_ws (jnm 0) (jtT 0) (jnF 0), w ∈ lw_tbl := by decide +kernel
theorem jin_1 : ∀ w ∈ u_ws (jnm 1) (jtT 1) (jnF 1), w ∈ lw_tbl := by decide +kernel
theorem jin_2 : ∀ w ∈ u_ws (jnm 2) (jtT 2) (jnF 2), w ∈ lw_tbl := by decide +kernel
theorem jin_3 : ∀ w ∈ u_ws (jnm 3) (jtT 3) (jnF 3), w ∈ lw_tbl := by decide +kernel
theorem jin_4 : ∀ w ∈ u_ws (jnm 4) (jtT 4) (jnF 4), w ∈ lw_tbl := by decide +kernel
theorem jin_5 : ∀ w ∈ u_ws (jnm 5) (jtT 5) (jnF 5), w ∈ lw_tbl := by decide +kernel
theorem jin_6 : ∀ w ∈ u_ws (jnm 6) (jtT 6) (jnF 6), w ∈ lw_tbl := by decide +kernel
theorem jin_7 : ∀ w ∈ u_ws (jnm 7) (jtT 7) (jnF 7), w ∈ lw_tbl := by decide +kernel
theorem jin_8 : ∀ w ∈ u_ws (jnm 8) (jtT 8) (jnF 8), w ∈ lw_tbl := by decide +kernel
theorem jin_9 : ∀ w ∈ u_ws (jnm 9) (jtT 9) (jnF 9), w ∈ lw_tbl := by decide +kernel
theorem jin_10 : ∀ w ∈ u_ws (jnm 10) (jtT 10) (jnF 10), w ∈ lw_tbl := by decide +kernel
theorem jin_11 : ∀ w ∈ u_ws (jnm 11) (jtT 11) (jnF 11), w ∈ lw_tbl := by decide +kernel
theorem jin_12 : ∀ w ∈ u_ws (jnm 12) (jtT 12) (jnF 12), w ∈ lw_tbl := by decide +kernel
theorem j_in {ci : Nat} (h : ci < 13) : ∀ w ∈ u_ws (jnm ci) (jtT ci) (jnF ci), w ∈ lw_tbl := by
  match ci, h with
  | 0, _ => exact jin_0
  | 1, _ => exact jin_1
  | 2, _ => exact jin_2
  | 3, _ => exact jin_3
  | 4, _ => exact jin_4
  | 5, _ => exact jin_5
  | 6, _ => exact jin_6
  | 7, _ => exact jin_7
  | 8, _ => exact jin_8
  | 9, _ => exact jin_9
  | 10, _ => exact jin_10
  | 11, _ => exact jin_11
  | 12, _ => exact jin_12
  | k + 13, h => omega
theorem j_tyok {ci : Nat} (h : ci < 13) : ∀ k, k < jnF ci → parseFieldDescriptor (jtT ci k).2.2.1 = some (jty ci k) := by
  match ci, h with
  | 0, _ => exact tyX0_ok
  | 1, _ => exact tyX1_ok
  | 2, _ => exact tyX2_ok
  | 3, _ => exact tyX3_ok
  | 4, _ => exact tyX4_ok
  | 5, _ => exact tyX5_ok
  | 6, _ => exact tyX6_ok
  | 7, _ => exact tyX7_ok
  | 8, _ => exact tyX8_ok
  | 9, _ => exact tyX9_ok
  | 10, _ => exact tyX10_ok
  | 11, _ => exact tyX11_ok
  | 12, _ => exact tyX12_ok
  | k + 13, h => omega
theorem j_nmok {ci : Nat} (h : ci < 13) : ∀ a, a < jnF ci → ∀ b, b < jnF ci → a ≠ b → (jtT ci a).2.1 ≠ (jtT ci b).2.1 := by
  match ci, h with
  | 0, _ => exact nmX0
  | 1, _ => exact nmX1
  | 2, _ => exact nmX2
  | 3, _ => exact nmX3
  | 4, _ => exact nmX4
  | 5, _ => exact nmX5
  | 6, _ => exact nmX6
  | 7, _ => exact nmX7
  | 8, _ => exact nmX8
  | 9, _ => exact nmX9
  | 10, _ => exact nmX10
  | 11, _ => exact nmX11
  | 12, _ => exact nmX12
  | k + 13, h => omega
theorem map_range_set {α : Type} {N j : Nat} {f f' : Nat → α} {v : α} (h1 : f' j = v) (h2 : ∀ i, i ≠ j → f' i = f i) : ((List.range N).map f).set j v = (List.range N).map f' := by
  apply List.ext_getElem?
  intro i
  by_cases hi : i = j
  · subst hi
    by_cases hl : i < N
    · rw [List.getElem?_set_self (by simpa using hl)]
      simp [hl, h1]
    · rw [List.getElem?_eq_none (by simp; omega), List.getElem?_eq_none (by simp; omega)]
  · rw [List.getElem?_set_ne (Ne.symm hi)]
    simp only [List.getElem?_map]
    cases hq : (List.range N)[i]? with
    | none => rfl
    | some q =>
      have : q = i := by
        have := List.getElem?_eq_some_iff.mp hq
        obtain ⟨a, b⟩ := this
        simpa using b.symm
      subst this
      simp [h2 _ hi]
/-- a field's link: own class, pool number; kind and place -/
def jFl (own : String) (idx ci j : Nat) : Prop := .fieldLink own idx (jtT ci j).1 (jtT ci j).2.1 (jtT ci j).2.2.1 ∈ lw_tbl ∧ j < jnF ci ∧ ci < 13
theorem jhts {X : jX} {s : State} (h : jK X s) (args : Array Value) : ∀ w ∈ lw_tbl, w.before args s = true := fun w hw => h.1 w hw args s (State.WarmedH.refl s)
theorem jen_o {X : jX} {I : jMI} {R : jMR} {k ci : Nat} (h : jsh k = .inr ci) : jen X I R k = .inr (ci, jfs X I R ci k) := by
  unfold jen; rw [h]
theorem jen_a {X : jX} {I : jMI} {R : jMR} {k len : Nat} {ty : FieldType} (h : jsh k = .inl (ty, len)) : jen X I R k = .inl (jcA X ty, len, jac X I R ty k) := by
  unfold jen; rw [h]
theorem jfs_at {X : jX} {I : jMI} {R : jMR} {k ci j : Nat} (h : j < jnF ci) : (jfs X I R ci k)[j]? = some (jfv X I R (jty ci j) k j) := by
  simp [jfs, h]
theorem jfv_i {X : jX} {I : jMI} {R : jMR} {ty : FieldType} {k j : Nat} (h : jkd ty = 0) : jfv X I R ty k j = .int (Int32.ofInt (I k j)) := by unfold jfv; rw [h]; rfl
theorem jfv_l {X : jX} {I : jMI} {R : jMR} {ty : FieldType} {k j : Nat} (h : jkd ty = 1) : jfv X I R ty k j = .long (Int64.ofInt (I k j)) := by unfold jfv; rw [h]; rfl
theorem jfv_r {X : jX} {I : jMI} {R : jMR} {ty : FieldType} {k j : Nat} (h : jkd ty = 2) : jfv X I R ty k j = va_rf ((R k j).map (jad X)) := by unfold jfv; rw [h]; rfl
theorem jac_i {X : jX} {I : jMI} {R : jMR} {ty : FieldType} {k : Nat} (h : jkd ty = 0) : jac X I R ty k = .inl (fun j => Int32.ofInt (I k j)) := by unfold jac; rw [h]; rfl
theorem jac_l {X : jX} {I : jMI} {R : jMR} {ty : FieldType} {k : Nat} (h : jkd ty = 1) : jac X I R ty k = .inr (.inl (fun j => Int64.ofInt (I k j))) := by unfold jac; rw [h]; rfl
theorem jac_r {X : jX} {I : jMI} {R : jMR} {ty : FieldType} {k : Nat} (h : jkd ty = 2) : jac X I R ty k = .inr (.inr (.inr (.inr (fun j => (R k j).map (jad X))))) := by unfold jac; rw [h]; rfl
theorem jfv_c {X : jX} {I I' : jMI} {R R' : jMR} {ty : FieldType} {k j : Nat} (h : I' k j = I k j) (h2 : R' k j = R k j) : jfv X I' R' ty k j = jfv X I R ty k j := by unfold jfv; rw [h, h2]
theorem jen_c {X : jX} {I I' : jMI} {R R' : jMR} {k : Nat} (h : ∀ j, I' k j = I k j) (h2 : ∀ j, R' k j = R k j) : jen X I' R' k = jen X I R k := by
  have e1 : I' k = I k := funext h
  have e2 : R' k = R k := funext h2
  unfold jen jac jfs jfv
  rw [e1, e2]
theorem jSt_ne {I : jMI} {k j k' : Nat} {a : Int} (h : k' ≠ k) (i : Nat) : jSt I k j a k' i = I k' i := by
  unfold jSt; rw [if_neg (fun z => h z.1)]
theorem jSt_self {I : jMI} {k j : Nat} {a : Int} : jSt I k j a k j = a := by
  unfold jSt; rw [if_pos ⟨rfl, rfl⟩]
theorem jSt_nj {I : jMI} {k j j' : Nat} {a : Int} (h : j' ≠ j) : jSt I k j a k j' = I k j' := by
  unfold jSt; rw [if_neg (fun z => h z.2)]
theorem jSr_ne {I : jMR} {k j k' : Nat} {a : Option Nat} (h : k' ≠ k) (i : Nat) : jSr I k j a k' i = I k' i := by
  unfold jSr; rw [if_neg (fun z => h z.1)]
theorem jSr_self {I : jMR} {k j : Nat} {a : Option Nat} : jSr I k j a k j = a := by
  unfold jSr; rw [if_pos ⟨rfl, rfl⟩]
theorem jSr_nj {I : jMR} {k j j' : Nat} {a : Option Nat} (h : j' ≠ j) : jSr I k j a k j' = I k j' := by
  unfold jSr; rw [if_neg (fun z => h z.2)]
theorem jfs_setI {X : jX} {I : jMI} {R : jMR} {ci k j : Nat} {a : Int} (h : jkd (jty ci j) = 0) : jfs X (jSt I k j a) R ci k = (jfs X I R ci k).set j (.int (Int32.ofInt a)) := by
  refine (map_range_set ?_ (fun i hi => ?_)).symm
  · rw [jfv_i h, jSt_self]
  · exact jfv_c (jSt_nj hi) rfl
theorem jfs_setL {X : jX} {I : jMI} {R : jMR} {ci k j : Nat} {a : Int} (h : jkd (jty ci j) = 1) : jfs X (jSt I k j a) R ci k = (jfs X I R ci k).set j (.long (Int64.ofInt a)) := by
  refine (map_range_set ?_ (fun i hi => ?_)).symm
  · rw [jfv_l h, jSt_self]
  · exact jfv_c (jSt_nj hi) rfl
theorem jfs_setR {X : jX} {I : jMI} {R : jMR} {ci k j : Nat} {a : Option Nat} (h : jkd (jty ci j) = 2) : jfs X I (jSr R k j a) ci k = (jfs X I R ci k).set j (va_rf (a.map (jad X))) := by
  refine (map_range_set ?_ (fun i hi => ?_)).symm
  · rw [jfv_r h, jSr_self]
  · exact jfv_c rfl (jSr_nj hi)
/-- the world behind a store of the own cells -/
theorem jH_set {X : jX} {I I' : jMI} {R R' : jMR} {n k : Nat} {e : va_E} {s : State} {H H1 : Heap} {locs locs1 : List Loc} (h : jH X I R n s H locs) (h1 : ∀ j, j ≠ k → jen X I' R' j = jen X I R j) (h2 : jen X I' R' k = e) (hP : va_P (jD X) vwCl ((jW X I R n).set k (jB X + k, e)) H1) (hS : va_S (jA X) s.heap H1 locs1) (hz : H1.size = H.size) (hq : ∀ q : Nat, q < jB X → H1[q]? = H[q]?) : jH X I' R' n s H1 locs1 := by
  rw [jW_set h1 h2] at hP
  exact ⟨⟨hP, by rw [hz]; exact h.1.2.1, fun q hb => by rw [hq q hb]; exact h.1.2.2 q hb⟩, hS⟩
theorem jS_low {X : jX} {I : jMI} {R : jMR} {n : Nat} {s : State} {H H1 : Heap} {locs locs1 : List Loc} (h : jH X I R n s H locs) (hb0 : jB X ≤ s.heap.size) (hS : va_S (jA X) s.heap H1 locs1) : ∀ q : Nat, q < jB X → H1[q]? = H[q]? := by
  intro q hq
  have hn : ¬ jA X q := Nat.not_le.mpr hq
  rw [hS.2.1 q (by omega) hn, h.2.2.1 q (by omega) hn]
end
section
/-! ===== rows over the memory ===== -/
theorem jH_put {X : jX} {I I' : jMI} {R R' : jMR} {n k i : Nat} {e : va_E} {s : State} {H H1 : Heap} {locs : List Loc} (h : jH X I R n s H locs) (hk : k < n) (h1 : ∀ j, j ≠ k → jen X I' R' j = jen X I R j) (h2 : jen X I' R' k = e) (he : va_at (jD X) vwCl (jB X + k, e) H1) (z : H1.size = H.size) (oq : ∀ q : Nat, q ≠ jB X + k → H1[q]? = H[q]?) : jH X I' R' n s H1 (locs ++ [⟨jB X + k, i⟩]) := by
  have hP := h.1.1.set jW_D (jW_get hk) he oq
  rw [jW_set h1 h2] at hP
  exact ⟨⟨hP, by rw [z]; exact h.1.2.1, fun q hb => by rw [oq q (by omega)]; exact h.1.2.2 q hb⟩, h.2.put z oq (show jB X ≤ jB X + k by omega)⟩
theorem j_tys {X : jX} {i : Nat} {ty : FieldType} (h : jTs[i]? = some ty) : (jTys X)[i]? = some (jcA X ty, ty) := by
  simp [jTys, h]
section JS
variable {X : jX} {own nm : String} {cc : ByteArray} {nL : Nat} {ret : Option FieldType} {d bc bs pc : Nat} {L : List (Option jV)} {st : List jV} {I : jMI} {R : jMR} {n : Nat} {Q : Option jV → jMI → jMR → Nat → Prop}

theorem j_getI {k ci j idx : Nat} (fl : jFl own idx ci j) (hd : decode cc pc = .ok (.getfield idx, 3)) (hs : jsh k = .inr ci) (ht : jkd (jty ci j) = 0) (hk : k < n) (kk : J X own nm cc nL ret d bc bs (pc + 3) (L) (jI (I k j) :: st) (I) (R) (n) Q) : J X own nm cc nL ret d bc bs (pc) (L) (jR k :: st) (I) (R) (n) Q := by
  intro p l e RR s m args below meth c H locs cells slots QQ ls C hc hs1 hH hL hr
  have hk1 := jsh_lt hs (by intro q; cases q; exact absurd fl.2.2 (by decide))
  show W p l e RR s m args below meth c H locs cells slots QQ (F0 m pc ls (va_rf (some (jad X k)) :: st.map (jv X)))
  rw [jad_lt hk1]
  refine va_get (ci := ci) (C := jnm ci) (T := jtT ci) (N := jnF ci) (ref := (jtT ci j).1) C.1 C.2.1 (jhts C.2.2.2.2.2.2.2.2.1 args) (j_in fl.2.2) C.2.2.2.1 C.2.2.2.2.2.2.2.2.1.2.1 hH.1.1 k (by rw [jW_get hk, jen_o hs]) (j_vwCl fl.2.2) j fl.2.1 (jhts C.2.2.2.2.2.2.2.2.1 args _ fl.1) (fun _ h => h) (v := .int (Int32.ofInt (I k j))) (by rw [jfs_at fl.2.1, jfv_i ht]) hd ?_
  exact kk p l e RR s m args below meth c H locs cells slots QQ ls C hc hs1 hH hL hr

theorem j_getL {k ci j idx : Nat} (fl : jFl own idx ci j) (hd : decode cc pc = .ok (.getfield idx, 3)) (hs : jsh k = .inr ci) (ht : jkd (jty ci j) = 1) (hk : k < n) (kk : J X own nm cc nL ret d bc bs (pc + 3) (L) (jL (I k j) :: st) (I) (R) (n) Q) : J X own nm cc nL ret d bc bs (pc) (L) (jR k :: st) (I) (R) (n) Q := by
  intro p l e RR s m args below meth c H locs cells slots QQ ls C hc hs1 hH hL hr
  have hk1 := jsh_lt hs (by intro q; cases q; exact absurd fl.2.2 (by decide))
  show W p l e RR s m args below meth c H locs cells slots QQ (F0 m pc ls (va_rf (some (jad X k)) :: st.map (jv X)))
  rw [jad_lt hk1]
  refine va_get (ci := ci) (C := jnm ci) (T := jtT ci) (N := jnF ci) (ref := (jtT ci j).1) C.1 C.2.1 (jhts C.2.2.2.2.2.2.2.2.1 args) (j_in fl.2.2) C.2.2.2.1 C.2.2.2.2.2.2.2.2.1.2.1 hH.1.1 k (by rw [jW_get hk, jen_o hs]) (j_vwCl fl.2.2) j fl.2.1 (jhts C.2.2.2.2.2.2.2.2.1 args _ fl.1) (fun _ h => h) (v := .long (Int64.ofInt (I k j))) (by rw [jfs_at fl.2.1, jfv_l ht]) hd ?_
  exact kk p l e RR s m args below meth c H locs cells slots QQ ls C hc hs1 hH hL hr

theorem j_getR {k ci j idx r : Nat} (fl : jFl own idx ci j) (hd : decode cc pc = .ok (.getfield idx, 3)) (hs : jsh k = .inr ci) (ht : jkd (jty ci j) = 2) (hk : k < n) (hR : R k j = some r) (kk : J X own nm cc nL ret d bc bs (pc + 3) (L) (jR r :: st) (I) (R) (n) Q) : J X own nm cc nL ret d bc bs (pc) (L) (jR k :: st) (I) (R) (n) Q := by
  intro p l e RR s m args below meth c H locs cells slots QQ ls C hc hs1 hH hL hr
  have hk1 := jsh_lt hs (by intro q; cases q; exact absurd fl.2.2 (by decide))
  show W p l e RR s m args below meth c H locs cells slots QQ (F0 m pc ls (va_rf (some (jad X k)) :: st.map (jv X)))
  rw [jad_lt hk1]
  refine va_get (ci := ci) (C := jnm ci) (T := jtT ci) (N := jnF ci) (ref := (jtT ci j).1) C.1 C.2.1 (jhts C.2.2.2.2.2.2.2.2.1 args) (j_in fl.2.2) C.2.2.2.1 C.2.2.2.2.2.2.2.2.1.2.1 hH.1.1 k (by rw [jW_get hk, jen_o hs]) (j_vwCl fl.2.2) j fl.2.1 (jhts C.2.2.2.2.2.2.2.2.1 args _ fl.1) (fun _ h => h) (v := va_rf ((R k j).map (jad X))) (by rw [jfs_at fl.2.1, jfv_r ht]) hd ?_
  exact (by
    rw [hR]
    exact kk p l e RR s m args below meth c H locs cells slots QQ ls C hc hs1 hH hL hr)

theorem j_putI {k ci j idx : Nat} {a : Int} (fl : jFl own idx ci j) (hd : decode cc pc = .ok (.putfield idx, 3)) (hs : jsh k = .inr ci) (ht : jty ci j = .int) (hf : (jtT ci j).2.2.2 = false) (hk : k < n) (kk : J X own nm cc nL ret d bc bs (pc + 3) (L) (st) (jSt I k j a) (R) (n) Q) : J X own nm cc nL ret d bc bs (pc) (L) (jI a :: jR k :: st) (I) (R) (n) Q := by
  intro p l e RR s m args below meth c H locs cells slots QQ ls C hc hs1 hH hL hr
  have hk1 := jsh_lt hs (by intro q; cases q; exact absurd fl.2.2 (by decide))
  show W p l e RR s m args below meth c H locs cells slots QQ (F0 m pc ls (Value.int (Int32.ofInt a) :: va_rf (some (jad X k)) :: st.map (jv X)))
  rw [jad_lt hk1]
  have hts := jhts C.2.2.2.2.2.2.2.2.1 args
  have hK := C.2.2.2.2.2.2.2.2.1.2.1
  have hap := va_apart (own := own) hts (j_in fl.2.2) (jty ci) (j_tyok fl.2.2) (j_nmok fl.2.2) hK (j_vwCl fl.2.2)
  obtain ⟨r, h1, cell, q1, q2, q3, q4⟩ := hH.1.1 k _ (by rw [jW_get hk, jen_o hs])
  have hrr : r = (jnm ci, jtT ci, jnF ci) := Option.some.inj (h1.symm.trans (j_vwCl fl.2.2))
  subst hrr
  obtain ⟨hS, hfc, kC, hkC, hkind⟩ := hK.1 ci _ (j_vwCl fl.2.2)
  obtain ⟨cf, kf, fi, f, hi, hsl⟩ := hS j fl.2.1
  have hlay := hts _ (j_in fl.2.2 _ (u_in_lay fl.2.1))
  unfold u_lay at hlay
  rw [if_neg (by rw [hf]; decide)] at hlay
  have hst := (u_facts hfc hkC (u_lays hts (j_in fl.2.2) fl.2.1) hi).1
  have h6 := u_store (v := .int (Int32.ofInt a)) hfc hkC hkind hlay hi ((j_tyok fl.2.2 j fl.2.1).trans (by rw [ht])) rfl rfl
  refine W.putK C.1 C.2.1 (f := f) ⟨C.2.2.2.1, hts _ fl.1, ⟨_, _, _, hi⟩, hst⟩ (by rw [q2]; exact h6) q1 q3 (by rw [hsl]; exact k2_hasslot (q4 j fl.2.1)) rfl rfl hd fun H' e1 e2 e3 => ?_
  rw [hsl] at e1 ⊢
  refine kk p l e RR s m args below meth c H' _ cells slots QQ ls C hc hs1 (jH_put (e := .inr (ci, (jfs X I R ci k).set j (.int (Int32.ofInt a)))) hH hk (fun i hi => jen_c (jSt_ne hi) (fun _ => rfl)) ((jen_o hs).trans (by rw [jfs_setI (by rw [ht]; rfl)])) ⟨_, j_vwCl fl.2.2, t_OB.to (V := updV (vp_V (jfs X I R ci k)) j (.int (Int32.ofInt a))) ⟨_, e1, q2, q3, t_set q4 hap fl.2.1 _⟩ (fun i _ => vp_updV_set (by simpa [jfs] using fl.2.1) _ i)⟩ e2 e3) hL hr

theorem j_putL {k ci j idx : Nat} {a : Int} (fl : jFl own idx ci j) (hd : decode cc pc = .ok (.putfield idx, 3)) (hs : jsh k = .inr ci) (ht : jty ci j = .long) (hf : (jtT ci j).2.2.2 = false) (hk : k < n) (kk : J X own nm cc nL ret d bc bs (pc + 3) (L) (st) (jSt I k j a) (R) (n) Q) : J X own nm cc nL ret d bc bs (pc) (L) (jL a :: jR k :: st) (I) (R) (n) Q := by
  intro p l e RR s m args below meth c H locs cells slots QQ ls C hc hs1 hH hL hr
  have hk1 := jsh_lt hs (by intro q; cases q; exact absurd fl.2.2 (by decide))
  show W p l e RR s m args below meth c H locs cells slots QQ (F0 m pc ls (Value.long (Int64.ofInt a) :: va_rf (some (jad X k)) :: st.map (jv X)))
  rw [jad_lt hk1]
  have hts := jhts C.2.2.2.2.2.2.2.2.1 args
  have hK := C.2.2.2.2.2.2.2.2.1.2.1
  have hap := va_apart (own := own) hts (j_in fl.2.2) (jty ci) (j_tyok fl.2.2) (j_nmok fl.2.2) hK (j_vwCl fl.2.2)
  obtain ⟨r, h1, cell, q1, q2, q3, q4⟩ := hH.1.1 k _ (by rw [jW_get hk, jen_o hs])
  have hrr : r = (jnm ci, jtT ci, jnF ci) := Option.some.inj (h1.symm.trans (j_vwCl fl.2.2))
  subst hrr
  obtain ⟨hS, hfc, kC, hkC, hkind⟩ := hK.1 ci _ (j_vwCl fl.2.2)
  obtain ⟨cf, kf, fi, f, hi, hsl⟩ := hS j fl.2.1
  have hlay := hts _ (j_in fl.2.2 _ (u_in_lay fl.2.1))
  unfold u_lay at hlay
  rw [if_neg (by rw [hf]; decide)] at hlay
  have hst := (u_facts hfc hkC (u_lays hts (j_in fl.2.2) fl.2.1) hi).1
  have h6 := u_store (v := .long (Int64.ofInt a)) hfc hkC hkind hlay hi ((j_tyok fl.2.2 j fl.2.1).trans (by rw [ht])) rfl rfl
  refine W.putK C.1 C.2.1 (f := f) ⟨C.2.2.2.1, hts _ fl.1, ⟨_, _, _, hi⟩, hst⟩ (by rw [q2]; exact h6) q1 q3 (by rw [hsl]; exact k2_hasslot (q4 j fl.2.1)) rfl rfl hd fun H' e1 e2 e3 => ?_
  rw [hsl] at e1 ⊢
  refine kk p l e RR s m args below meth c H' _ cells slots QQ ls C hc hs1 (jH_put (e := .inr (ci, (jfs X I R ci k).set j (.long (Int64.ofInt a)))) hH hk (fun i hi => jen_c (jSt_ne hi) (fun _ => rfl)) ((jen_o hs).trans (by rw [jfs_setL (by rw [ht]; rfl)])) ⟨_, j_vwCl fl.2.2, t_OB.to (V := updV (vp_V (jfs X I R ci k)) j (.long (Int64.ofInt a))) ⟨_, e1, q2, q3, t_set q4 hap fl.2.1 _⟩ (fun i _ => vp_updV_set (by simpa [jfs] using fl.2.1) _ i)⟩ e2 e3) hL hr

theorem j_putF {k ci j idx r : Nat} (fl : jFl own idx ci j) (hd : decode cc pc = .ok (.putfield idx, 3)) (hs : jsh k = .inr ci) (ht : jkd (jty ci j) = 2) (hf : (jtT ci j).2.2.2 = true) (hin2 : nm = "<init>") (hdecl : (jtT ci j).1 = own) (hk : k < n) (kk : J X own nm cc nL ret d bc bs (pc + 3) (L) (st) (I) (jSr R k j (some r)) (n) Q) : J X own nm cc nL ret d bc bs (pc) (L) (jR r :: jR k :: st) (I) (R) (n) Q := by
  intro p l e RR s m args below meth c H locs cells slots QQ ls C hc hs1 hH hL hr
  have hk1 := jsh_lt hs (by intro q; cases q; exact absurd fl.2.2 (by decide))
  show W p l e RR s m args below meth c H locs cells slots QQ (F0 m pc ls (va_rf (some (jad X r)) :: va_rf (some (jad X k)) :: st.map (jv X)))
  rw [jad_lt hk1]
  have hts := jhts C.2.2.2.2.2.2.2.2.1 args
  have hK := C.2.2.2.2.2.2.2.2.1.2.1
  have hap := va_apart (own := own) hts (j_in fl.2.2) (jty ci) (j_tyok fl.2.2) (j_nmok fl.2.2) hK (j_vwCl fl.2.2)
  obtain ⟨r9, h1, cell, q1, q2, q3, q4⟩ := hH.1.1 k _ (by rw [jW_get hk, jen_o hs])
  have hrr : r9 = (jnm ci, jtT ci, jnF ci) := Option.some.inj (h1.symm.trans (j_vwCl fl.2.2))
  subst hrr
  obtain ⟨hS, hfc, kC, hkC, hkind⟩ := hK.1 ci _ (j_vwCl fl.2.2)
  obtain ⟨cf, kf, fi, f, hi, hsl⟩ := hS j fl.2.1
  have hlay := hts _ (j_in fl.2.2 _ (u_in_lay fl.2.1))
  unfold u_lay at hlay
  rw [if_pos hf] at hlay
  have hst := (u_facts hfc hkC (u_lays hts (j_in fl.2.2) fl.2.1) hi).1
  have hcf : m.cls = cf := by
    obtain ⟨_, _, c', _, _, _, -, -, hf', -, -, -, hown2, -⟩ := Cond.laysFinal_spec hlay
    have e1 : c' = cf := by have := hi.symm.trans hf'; simp at this; exact this.1.symm
    rw [hdecl] at hown2
    rw [← e1]; exact Option.some.inj (C.2.2.2.1.symm.trans hown2)
  have h6 := u_fits (v := .ref (jad X r)) hfc hkC hkind (Or.inr hlay) hi (j_tyok fl.2.2 j fl.2.1) (by cases hq : jty ci j <;> rw [hq] at ht <;> first | rfl | cases ht) (by cases hq : jty ci j <;> rw [hq] at ht <;> first | rfl | cases ht)
  refine W.putFinK C.1 C.2.1 C.2.2.2.1 (hts _ fl.1) hi hst hcf (C.2.2.2.2.2.2.2.2.2.trans hin2) (by rw [q2]; exact h6) q1 q3 (by rw [hsl]; exact k2_hasslot (q4 j fl.2.1)) rfl rfl hd fun H' e1 e2 e3 => ?_
  rw [hsl] at e1 ⊢
  refine kk p l e RR s m args below meth c H' _ cells slots QQ ls C hc hs1 (jH_put (e := .inr (ci, (jfs X I R ci k).set j (.ref (jad X r)))) hH hk (fun i hi => jen_c (fun _ => rfl) (jSr_ne hi)) ((jen_o hs).trans (by rw [jfs_setR ht]; rfl)) ⟨_, j_vwCl fl.2.2, t_OB.to (V := updV (vp_V (jfs X I R ci k)) j (.ref (jad X r))) ⟨_, e1, q2, q3, t_set q4 hap fl.2.1 _⟩ (fun i _ => vp_updV_set (by simpa [jfs] using fl.2.1) _ i)⟩ e2 e3) hL hr

theorem j_iald {k len : Nat} {i : Int} (hd : decode cc pc = .ok (.iaload, 1)) (hs : jsh k = .inl (.int, len)) (hk : k < n) (hi : 0 ≤ i ∧ i < (len : Int)) (hlen : len ≤ 1000) (kk : J X own nm cc nL ret d bc bs (pc + 1) (L) (jI (I k i.toNat) :: st) (I) (R) (n) Q) : J X own nm cc nL ret d bc bs (pc) (L) (jI i :: jR k :: st) (I) (R) (n) Q := by
  intro p l e RR s m args below meth c H locs cells slots QQ ls C hc hs1 hH hL hr
  have hk1 := jsh_lt hs (by intro q; cases q)
  show W p l e RR s m args below meth c H locs cells slots QQ (F0 m pc ls (.int (Int32.ofInt i) :: va_rf (some (jad X k)) :: st.map (jv X)))
  rw [jad_lt hk1]
  refine va_iald (cA := jcA X .int) (n := len) C.1 C.2.1 C.2.2.2.2.2.2.2.2.1.2.1 hH.1.1 k 0 (by rw [jW_get hk, jen_a hs, jac_i rfl]) (j_tys rfl) (jr_in hi hlen) hd ?_
  rw [jr_cl hi hlen]
  exact kk p l e RR s m args below meth c H locs cells slots QQ ls C hc hs1 hH hL hr

theorem j_bald {k len : Nat} {i : Int} (hd : decode cc pc = .ok (.baload, 1)) (hs : jsh k = .inl (.byte, len)) (hk : k < n) (hi : 0 ≤ i ∧ i < (len : Int)) (hlen : len ≤ 1000) (kk : J X own nm cc nL ret d bc bs (pc + 1) (L) (jI (I k i.toNat) :: st) (I) (R) (n) Q) : J X own nm cc nL ret d bc bs (pc) (L) (jI i :: jR k :: st) (I) (R) (n) Q := by
  intro p l e RR s m args below meth c H locs cells slots QQ ls C hc hs1 hH hL hr
  have hk1 := jsh_lt hs (by intro q; cases q)
  show W p l e RR s m args below meth c H locs cells slots QQ (F0 m pc ls (.int (Int32.ofInt i) :: va_rf (some (jad X k)) :: st.map (jv X)))
  rw [jad_lt hk1]
  refine va_bald (cA := jcA X .byte) (n := len) C.1 C.2.1 C.2.2.2.2.2.2.2.2.1.2.1 hH.1.1 k 2 (by rw [jW_get hk, jen_a hs, jac_i rfl]) (j_tys rfl) (jr_in hi hlen) hd ?_
  rw [jr_cl hi hlen]
  exact kk p l e RR s m args below meth c H locs cells slots QQ ls C hc hs1 hH hL hr

theorem j_zald {k len : Nat} {i : Int} (hd : decode cc pc = .ok (.baload, 1)) (hs : jsh k = .inl (.boolean, len)) (hk : k < n) (hi : 0 ≤ i ∧ i < (len : Int)) (hlen : len ≤ 1000) (kk : J X own nm cc nL ret d bc bs (pc + 1) (L) (jI (I k i.toNat) :: st) (I) (R) (n) Q) : J X own nm cc nL ret d bc bs (pc) (L) (jI i :: jR k :: st) (I) (R) (n) Q := by
  intro p l e RR s m args below meth c H locs cells slots QQ ls C hc hs1 hH hL hr
  have hk1 := jsh_lt hs (by intro q; cases q)
  show W p l e RR s m args below meth c H locs cells slots QQ (F0 m pc ls (.int (Int32.ofInt i) :: va_rf (some (jad X k)) :: st.map (jv X)))
  rw [jad_lt hk1]
  refine va_zald (cA := jcA X .boolean) (n := len) C.1 C.2.1 C.2.2.2.2.2.2.2.2.1.2.1 hH.1.1 k 3 (by rw [jW_get hk, jen_a hs, jac_i rfl]) (j_tys rfl) (jr_in hi hlen) hd ?_
  rw [jr_cl hi hlen]
  exact kk p l e RR s m args below meth c H locs cells slots QQ ls C hc hs1 hH hL hr

theorem j_lald {k len : Nat} {i : Int} (hd : decode cc pc = .ok (.laload, 1)) (hs : jsh k = .inl (.long, len)) (hk : k < n) (hi : 0 ≤ i ∧ i < (len : Int)) (hlen : len ≤ 1000) (kk : J X own nm cc nL ret d bc bs (pc + 1) (L) (jL (I k i.toNat) :: st) (I) (R) (n) Q) : J X own nm cc nL ret d bc bs (pc) (L) (jI i :: jR k :: st) (I) (R) (n) Q := by
  intro p l e RR s m args below meth c H locs cells slots QQ ls C hc hs1 hH hL hr
  have hk1 := jsh_lt hs (by intro q; cases q)
  show W p l e RR s m args below meth c H locs cells slots QQ (F0 m pc ls (.int (Int32.ofInt i) :: va_rf (some (jad X k)) :: st.map (jv X)))
  rw [jad_lt hk1]
  refine va_lald (cA := jcA X .long) (n := len) C.1 C.2.1 C.2.2.2.2.2.2.2.2.1.2.1 hH.1.1 k 1 (by rw [jW_get hk, jen_a hs, jac_l rfl]) (j_tys rfl) (jr_in hi hlen) hd ?_
  rw [jr_cl hi hlen]
  exact kk p l e RR s m args below meth c H locs cells slots QQ ls C hc hs1 hH hL hr

theorem j_iast {k len : Nat} {i a : Int} (hd : decode cc pc = .ok (.iastore, 1)) (hs : jsh k = .inl (.int, len)) (hk : k < n) (hi : 0 ≤ i ∧ i < (len : Int)) (hlen : len ≤ 1000) (kk : J X own nm cc nL ret d bc bs (pc + 1) (L) (st) (jSt I k i.toNat a) (R) (n) Q) : J X own nm cc nL ret d bc bs (pc) (L) (jI a :: jI i :: jR k :: st) (I) (R) (n) Q := by
  intro p l e RR s m args below meth c H locs cells slots QQ ls C hc hs1 hH hL hr
  have hk1 := jsh_lt hs (by intro q; cases q)
  show W p l e RR s m args below meth c H locs cells slots QQ (F0 m pc ls (.int (Int32.ofInt a) :: .int (Int32.ofInt i) :: va_rf (some (jad X k)) :: st.map (jv X)))
  rw [jad_lt hk1]
  have hcell : H[jB X + k]? = some (vp_cell (jcA X .int) (len, jac X I R .int k)) := hH.1.1 k (jB X + k, .inl (jcA X .int, len, jac X I R .int k)) (by rw [jW_get hk, jen_a hs])
  rw [jac_i rfl] at hcell
  have hsz : (vp_cell (jcA X .int) (len, .inl (fun j => Int32.ofInt (I k j)))).slots.size = len := arrV_size _ _ _
  have hin := jr_in hi hlen
  refine W.iast C.1 C.2.1 hcell ((C.2.2.2.2.2.2.2.2.1.2.1.2 0 _ (j_tys rfl)).1 len _) (fun q => by cases q) (by rw [hsz]; exact hin) rfl rfl hd fun H1 e1 e2 e3 => ?_
  rw [jr_cl hi hlen] at e1 ⊢
  refine kk p l e RR s m args below meth c H1 _ cells slots QQ ls C hc hs1 (jH_put hH hk (fun i hi => jen_c (jSt_ne hi) (fun _ => rfl)) (jen_a hs) ?_ e2 e3) hL hr
  show H1[jB X + k]? = some (vp_cell _ _)
  rw [e1, jac_i rfl, vp_cell_i, vp_cell_i, arrV_store]
  congr 2
  funext q
  by_cases hq : q = i.toNat
  · subst hq
    simp [updV, jSt_self]
  · simp [updV, hq, jSt_nj hq]

theorem j_last {k len : Nat} {i a : Int} (hd : decode cc pc = .ok (.lastore, 1)) (hs : jsh k = .inl (.long, len)) (hk : k < n) (hi : 0 ≤ i ∧ i < (len : Int)) (hlen : len ≤ 1000) (kk : J X own nm cc nL ret d bc bs (pc + 1) (L) (st) (jSt I k i.toNat a) (R) (n) Q) : J X own nm cc nL ret d bc bs (pc) (L) (jL a :: jI i :: jR k :: st) (I) (R) (n) Q := by
  intro p l e RR s m args below meth c H locs cells slots QQ ls C hc hs1 hH hL hr
  have hk1 := jsh_lt hs (by intro q; cases q)
  show W p l e RR s m args below meth c H locs cells slots QQ (F0 m pc ls (.long (Int64.ofInt a) :: .int (Int32.ofInt i) :: va_rf (some (jad X k)) :: st.map (jv X)))
  rw [jad_lt hk1]
  have hcell : H[jB X + k]? = some (vp_cell (jcA X .long) (len, jac X I R .long k)) := hH.1.1 k (jB X + k, .inl (jcA X .long, len, jac X I R .long k)) (by rw [jW_get hk, jen_a hs])
  rw [jac_l rfl] at hcell
  have hsz : (vp_cell (jcA X .long) (len, .inr (.inl (fun j => Int64.ofInt (I k j))))).slots.size = len := arrV_size _ _ _
  have hin := jr_in hi hlen
  refine W.last C.1 C.2.1 hcell ((C.2.2.2.2.2.2.2.2.1.2.1.2 1 _ (j_tys rfl)).1 len _) (fun q => by cases q) (by rw [hsz]; exact hin) rfl rfl hd fun H1 e1 e2 e3 => ?_
  rw [jr_cl hi hlen] at e1 ⊢
  refine kk p l e RR s m args below meth c H1 _ cells slots QQ ls C hc hs1 (jH_put hH hk (fun i hi => jen_c (jSt_ne hi) (fun _ => rfl)) (jen_a hs) ?_ e2 e3) hL hr
  show H1[jB X + k]? = some (vp_cell _ _)
  rw [e1, jac_l rfl, vp_cell_l, vp_cell_l, arrV_store]
  congr 2
  funext q
  by_cases hq : q = i.toNat
  · subst hq
    simp [updV, jSt_self]
  · simp [updV, hq, jSt_nj hq]

theorem j_bast {k len : Nat} {i a : Int} (hd : decode cc pc = .ok (.bastore, 1)) (hs : jsh k = .inl (.byte, len)) (hk : k < n) (hi : 0 ≤ i ∧ i < (len : Int)) (hv : narrow .byte (.int (Int32.ofInt a)) = .int (Int32.ofInt a)) (hlen : len ≤ 1000) (kk : J X own nm cc nL ret d bc bs (pc + 1) (L) (st) (jSt I k i.toNat a) (R) (n) Q) : J X own nm cc nL ret d bc bs (pc) (L) (jI a :: jI i :: jR k :: st) (I) (R) (n) Q := by
  intro p l e RR s m args below meth c H locs cells slots QQ ls C hc hs1 hH hL hr
  have hk1 := jsh_lt hs (by intro q; cases q)
  show W p l e RR s m args below meth c H locs cells slots QQ (F0 m pc ls (.int (Int32.ofInt a) :: .int (Int32.ofInt i) :: va_rf (some (jad X k)) :: st.map (jv X)))
  rw [jad_lt hk1]
  have hcell : H[jB X + k]? = some (vp_cell (jcA X .byte) (len, jac X I R .byte k)) := hH.1.1 k (jB X + k, .inl (jcA X .byte, len, jac X I R .byte k)) (by rw [jW_get hk, jen_a hs])
  rw [jac_i rfl] at hcell
  have hsz : (vp_cell (jcA X .byte) (len, .inl (fun j => Int32.ofInt (I k j)))).slots.size = len := arrV_size _ _ _
  have hin := jr_in hi hlen
  refine W.bast C.1 C.2.1 hcell ((C.2.2.2.2.2.2.2.2.1.2.1.2 2 _ (j_tys rfl)).1 len _) (fun q => by cases q) (by rw [hsz]; exact hin) rfl rfl hd fun H1 e1 e2 e3 => ?_
  rw [jr_cl hi hlen] at e1 ⊢
  refine kk p l e RR s m args below meth c H1 _ cells slots QQ ls C hc hs1 (jH_put hH hk (fun i hi => jen_c (jSt_ne hi) (fun _ => rfl)) (jen_a hs) ?_ e2 e3) hL hr
  show H1[jB X + k]? = some (vp_cell _ _)
  rw [e1, jac_i rfl, vp_cell_i, vp_cell_i, arrV_store]
  congr 2
  funext q
  by_cases hq : q = i.toNat
  · subst hq
    simp [updV, jSt_self, hv]
  · simp [updV, hq, jSt_nj hq]

theorem j_zast {k len : Nat} {i a : Int} (hd : decode cc pc = .ok (.bastore, 1)) (hs : jsh k = .inl (.boolean, len)) (hk : k < n) (hi : 0 ≤ i ∧ i < (len : Int)) (hv : narrow .boolean (.int (Int32.ofInt a)) = .int (Int32.ofInt a)) (hlen : len ≤ 1000) (kk : J X own nm cc nL ret d bc bs (pc + 1) (L) (st) (jSt I k i.toNat a) (R) (n) Q) : J X own nm cc nL ret d bc bs (pc) (L) (jI a :: jI i :: jR k :: st) (I) (R) (n) Q := by
  intro p l e RR s m args below meth c H locs cells slots QQ ls C hc hs1 hH hL hr
  have hk1 := jsh_lt hs (by intro q; cases q)
  show W p l e RR s m args below meth c H locs cells slots QQ (F0 m pc ls (.int (Int32.ofInt a) :: .int (Int32.ofInt i) :: va_rf (some (jad X k)) :: st.map (jv X)))
  rw [jad_lt hk1]
  have hcell : H[jB X + k]? = some (vp_cell (jcA X .boolean) (len, jac X I R .boolean k)) := hH.1.1 k (jB X + k, .inl (jcA X .boolean, len, jac X I R .boolean k)) (by rw [jW_get hk, jen_a hs])
  rw [jac_i rfl] at hcell
  have hsz : (vp_cell (jcA X .boolean) (len, .inl (fun j => Int32.ofInt (I k j)))).slots.size = len := arrV_size _ _ _
  have hin := jr_in hi hlen
  refine W.zast C.1 C.2.1 hcell ((C.2.2.2.2.2.2.2.2.1.2.1.2 3 _ (j_tys rfl)).1 len _) (fun q => by cases q) (by rw [hsz]; exact hin) rfl rfl hd fun H1 e1 e2 e3 => ?_
  rw [jr_cl hi hlen] at e1 ⊢
  refine kk p l e RR s m args below meth c H1 _ cells slots QQ ls C hc hs1 (jH_put hH hk (fun i hi => jen_c (jSt_ne hi) (fun _ => rfl)) (jen_a hs) ?_ e2 e3) hL hr
  show H1[jB X + k]? = some (vp_cell _ _)
  rw [e1, jac_i rfl, vp_cell_i, vp_cell_i, arrV_store]
  congr 2
  funext q
  by_cases hq : q = i.toNat
  · subst hq
    simp [updV, jSt_self, hv]
  · simp [updV, hq, jSt_nj hq]

theorem j_aald {k len r : Nat} {i : Int} {C0 : String} (t0 : Nat) (hd : decode cc pc = .ok (.aaload, 1)) (hs : jsh k = .inl (.object C0, len)) (ht : jTs[t0]? = some (.object C0)) (hk : k < n) (hi : 0 ≤ i ∧ i < (len : Int)) (hR : R k i.toNat = some r) (hlen : len ≤ 1000) (kk : J X own nm cc nL ret d bc bs (pc + 1) (L) (jR r :: st) (I) (R) (n) Q) : J X own nm cc nL ret d bc bs (pc) (L) (jI i :: jR k :: st) (I) (R) (n) Q := by
  intro p l e RR s m args below meth c H locs cells slots QQ ls C hc hs1 hH hL hr
  have hk1 := jsh_lt hs (by intro q; cases q)
  show W p l e RR s m args below meth c H locs cells slots QQ (F0 m pc ls (.int (Int32.ofInt i) :: va_rf (some (jad X k)) :: st.map (jv X)))
  rw [jad_lt hk1]
  refine va_aldq (C := C0) (cA := jcA X (.object C0)) (n := len) C.1 C.2.1 C.2.2.2.2.2.2.2.2.1.2.1 hH.1.1 k t0 (by rw [jW_get hk, jen_a hs, jac_r rfl]) (j_tys ht) (jr_in hi hlen) hd ?_
  rw [jr_cl hi hlen, hR]
  exact kk p l e RR s m args below meth c H locs cells slots QQ ls C hc hs1 hH hL hr

theorem j_alen {k len : Nat} {ty : FieldType} (t0 : Nat) (hd : decode cc pc = .ok (.arraylength, 1)) (hs : jsh k = .inl (ty, len)) (ht : jTs[t0]? = some ty) (hk : k < n) (kk : J X own nm cc nL ret d bc bs (pc + 1) (L) (jI (len : Int) :: st) (I) (R) (n) Q) : J X own nm cc nL ret d bc bs (pc) (L) (jR k :: st) (I) (R) (n) Q := by
  intro p l e RR s m args below meth c H locs cells slots QQ ls C hc hs1 hH hL hr
  have hk1 := jsh_lt hs (by intro q; cases q)
  show W p l e RR s m args below meth c H locs cells slots QQ (F0 m pc ls (va_rf (some (jad X k)) :: st.map (jv X)))
  rw [jad_lt hk1]
  refine va_alen (cA := jcA X ty) C.1 C.2.1 C.2.2.2.2.2.2.2.2.1.2.1 hH.1.1 k t0 (by rw [jW_get hk, jen_a hs]) (j_tys ht) (v := Int32.ofInt (len : Int)) (Int32.ofInt_eq_ofNat).symm hd ?_
  exact kk p l e RR s m args below meth c H locs cells slots QQ ls C hc hs1 hH hL hr

theorem j_ldc2 {idx : Nat} {a : Int} (hw : .constantLong own idx (Int64.ofInt a) ∈ lw_tbl) (hd : decode cc pc = .ok (.ldc2_w idx, 3)) (kk : J X own nm cc nL ret d bc bs (pc + 3) (L) (jL a :: st) (I) (R) (n) Q) : J X own nm cc nL ret d bc bs (pc) (L) (st) (I) (R) (n) Q := by
  intro p l e RR s m args below meth c H locs cells slots QQ ls C hc hs1 hH hL hr
  exact W.ldc2 C.1 C.2.1 C.2.2.2.1 (jhts C.2.2.2.2.2.2.2.2.1 args _ hw) rfl hd (kk p l e RR s m args below meth c H locs cells slots QQ ls C hc hs1 hH hL hr)

theorem j_ldc {idx : Nat} {a : Int} (hw : .constant own idx (Int32.ofInt a) ∈ lw_tbl) (hd : decode cc pc = .ok (.ldc idx, 2)) (kk : J X own nm cc nL ret d bc bs (pc + 2) (L) (jI a :: st) (I) (R) (n) Q) : J X own nm cc nL ret d bc bs (pc) (L) (st) (I) (R) (n) Q := by
  intro p l e RR s m args below meth c H locs cells slots QQ ls C hc hs1 hH hL hr
  exact W.ldc C.1 C.2.1 C.2.2.2.1 (jhts C.2.2.2.2.2.2.2.2.1 args _ hw) rfl hd (kk p l e RR s m args below meth c H locs cells slots QQ ls C hc hs1 hH hL hr)

theorem j_ldcw {idx : Nat} {a : Int} (hw : .constant own idx (Int32.ofInt a) ∈ lw_tbl) (hd : decode cc pc = .ok (.ldc_w idx, 3)) (kk : J X own nm cc nL ret d bc bs (pc + 3) (L) (jI a :: st) (I) (R) (n) Q) : J X own nm cc nL ret d bc bs (pc) (L) (st) (I) (R) (n) Q := by
  intro p l e RR s m args below meth c H locs cells slots QQ ls C hc hs1 hH hL hr
  exact lv_ldcw C.1 C.2.1 C.2.2.2.1 (jhts C.2.2.2.2.2.2.2.2.1 args _ hw) hd (kk p l e RR s m args below meth c H locs cells slots QQ ls C hc hs1 hH hL hr)

theorem j_iret {a : Int} (hd : decode cc pc = .ok (.ireturn, 1)) (hq : Q (some (jI a)) I R n) (hret : ret = some .int) : J X own nm cc nL ret d bc bs pc L [jI a] I R n Q := by
  intro p l e RR s m args below meth c H locs cells slots QQ ls C hc hs1 hH hL hr
  exact hr (some (jI a)) I R n H locs cells slots pc ls hq hH (by omega) (by omega) (Or.inl hret) hd
theorem j_zret {a : Int} (hd : decode cc pc = .ok (.ireturn, 1)) (ha : a = 0 ∨ a = 1) (hq : Q (some (jI a)) I R n) (hret : ret = some .boolean) : J X own nm cc nL ret d bc bs pc L [jI a] I R n Q := by
  intro p l e RR s m args below meth c H locs cells slots QQ ls C hc hs1 hH hL hr
  exact hr (some (jI a)) I R n H locs cells slots pc ls hq hH (by omega) (by omega) (Or.inr ⟨.boolean, hret, by rcases ha with rfl | rfl <;> decide⟩) hd
theorem j_nret {a : Int} (ty : FieldType) (hd : decode cc pc = .ok (.ireturn, 1)) (ha : narrow ty (.int (Int32.ofInt a)) = .int (Int32.ofInt a)) (hq : Q (some (jI a)) I R n) (hret : ret = some ty) : J X own nm cc nL ret d bc bs pc L [jI a] I R n Q := by
  intro p l e RR s m args below meth c H locs cells slots QQ ls C hc hs1 hH hL hr
  exact hr (some (jI a)) I R n H locs cells slots pc ls hq hH (by omega) (by omega) (Or.inr ⟨ty, hret, ha⟩) hd
theorem j_lret {a : Int} (hd : decode cc pc = .ok (.lreturn, 1)) (hq : Q (some (jL a)) I R n) (hret : ret = some .long) : J X own nm cc nL ret d bc bs pc L [jL a] I R n Q := by
  intro p l e RR s m args below meth c H locs cells slots QQ ls C hc hs1 hH hL hr
  exact hr (some (jL a)) I R n H locs cells slots pc ls hq hH (by omega) (by omega) hret hd
theorem j_vret (hd : decode cc pc = .ok (.return_, 1)) (hq : Q none I R n) (hret : ret = none) : J X own nm cc nL ret d bc bs pc L [] I R n Q := by
  intro p l e RR s m args below meth c H locs cells slots QQ ls C hc hs1 hH hL hr
  exact hr none I R n H locs cells slots pc ls hq hH (by omega) (by omega) hret hd
end JS
end
