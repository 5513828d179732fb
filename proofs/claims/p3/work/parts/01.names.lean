-- ===== PART A: goes FIRST, ahead of the names: the tables' words, and 'selects' of the private methods out of them =====
/-- a private method of a class that the tables say can be made, by its rows of tables_1 -/
def lw_okq (q : MethodName × Nat) : Prop := (q.1.cls ≠ "java/lang/invoke/MethodHandle" ∧ q.1.cls ≠ "java/lang/invoke/VarHandle") ∧ Cond.instantiable q.1.cls q.2 ∈ tables_1 ∧ Cond.privateMethod q.1 ∈ tables_1 ∧ Cond.instanceMethod q.1 ∈ tables_1
theorem lw_p0 : lw_okq (⟨"BitDesk$Reader", "readSize", "(LBitDesk$State;)V"⟩, 7) := ⟨⟨by decide +kernel, by decide +kernel⟩, List.mem_of_getElem? (i := 30) (by decide +kernel), List.mem_of_getElem? (i := 259) (by decide +kernel), List.mem_of_getElem? (i := 260) (by decide +kernel)⟩
theorem lw_p1 : lw_okq (⟨"BitDesk$Reader", "takeWord", "()V"⟩, 7) := ⟨⟨by decide +kernel, by decide +kernel⟩, List.mem_of_getElem? (i := 30) (by decide +kernel), List.mem_of_getElem? (i := 263) (by decide +kernel), List.mem_of_getElem? (i := 264) (by decide +kernel)⟩
theorem lw_p2 : lw_okq (⟨"BitDesk$Reader", "skipSpaces", "()V"⟩, 7) := ⟨⟨by decide +kernel, by decide +kernel⟩, List.mem_of_getElem? (i := 30) (by decide +kernel), List.mem_of_getElem? (i := 267) (by decide +kernel), List.mem_of_getElem? (i := 268) (by decide +kernel)⟩
theorem lw_p3 : lw_okq (⟨"BitDesk$Reader", "isWord", "(Ljava/lang/String;)Z"⟩, 7) := ⟨⟨by decide +kernel, by decide +kernel⟩, List.mem_of_getElem? (i := 30) (by decide +kernel), List.mem_of_getElem? (i := 272) (by decide +kernel), List.mem_of_getElem? (i := 273) (by decide +kernel)⟩
theorem lw_p4 : lw_okq (⟨"BitDesk$Reader", "fail", "(II)V"⟩, 7) := ⟨⟨by decide +kernel, by decide +kernel⟩, List.mem_of_getElem? (i := 30) (by decide +kernel), List.mem_of_getElem? (i := 324) (by decide +kernel), List.mem_of_getElem? (i := 325) (by decide +kernel)⟩
theorem lw_p5 : lw_okq (⟨"BitDesk$Reader", "takeNumber", "(II)I"⟩, 7) := ⟨⟨by decide +kernel, by decide +kernel⟩, List.mem_of_getElem? (i := 30) (by decide +kernel), List.mem_of_getElem? (i := 328) (by decide +kernel), List.mem_of_getElem? (i := 329) (by decide +kernel)⟩
theorem lw_p6 : lw_okq (⟨"BitDesk$Reader", "takeDigits", "()V"⟩, 7) := ⟨⟨by decide +kernel, by decide +kernel⟩, List.mem_of_getElem? (i := 30) (by decide +kernel), List.mem_of_getElem? (i := 332) (by decide +kernel), List.mem_of_getElem? (i := 333) (by decide +kernel)⟩
theorem lw_p7 : lw_okq (⟨"BitDesk$Reader", "hasMore", "()Z"⟩, 7) := ⟨⟨by decide +kernel, by decide +kernel⟩, List.mem_of_getElem? (i := 30) (by decide +kernel), List.mem_of_getElem? (i := 347) (by decide +kernel), List.mem_of_getElem? (i := 348) (by decide +kernel)⟩
theorem lw_p8 : lw_okq (⟨"BitDesk$Reader", "takeSemicolon", "()V"⟩, 7) := ⟨⟨by decide +kernel, by decide +kernel⟩, List.mem_of_getElem? (i := 30) (by decide +kernel), List.mem_of_getElem? (i := 351) (by decide +kernel), List.mem_of_getElem? (i := 352) (by decide +kernel)⟩
theorem lw_p9 : lw_okq (⟨"BitDesk$Reader", "readStatement", "(LBitDesk$State;)V"⟩, 7) := ⟨⟨by decide +kernel, by decide +kernel⟩, List.mem_of_getElem? (i := 30) (by decide +kernel), List.mem_of_getElem? (i := 355) (by decide +kernel), List.mem_of_getElem? (i := 356) (by decide +kernel)⟩
theorem lw_p10 : lw_okq (⟨"BitDesk$Reader", "readEdge", "(LBitDesk$State;)V"⟩, 7) := ⟨⟨by decide +kernel, by decide +kernel⟩, List.mem_of_getElem? (i := 30) (by decide +kernel), List.mem_of_getElem? (i := 360) (by decide +kernel), List.mem_of_getElem? (i := 361) (by decide +kernel)⟩
theorem lw_p11 : lw_okq (⟨"BitDesk$Reader", "readRow", "(LBitDesk$State;)V"⟩, 7) := ⟨⟨by decide +kernel, by decide +kernel⟩, List.mem_of_getElem? (i := 30) (by decide +kernel), List.mem_of_getElem? (i := 365) (by decide +kernel), List.mem_of_getElem? (i := 366) (by decide +kernel)⟩
theorem lw_p12 : lw_okq (⟨"BitDesk$Reader", "takeBits", "(I)I"⟩, 7) := ⟨⟨by decide +kernel, by decide +kernel⟩, List.mem_of_getElem? (i := 30) (by decide +kernel), List.mem_of_getElem? (i := 369) (by decide +kernel), List.mem_of_getElem? (i := 370) (by decide +kernel)⟩
theorem lw_p13 : lw_okq (⟨"BitDesk$Reader", "readFill", "(LBitDesk$State;)V"⟩, 7) := ⟨⟨by decide +kernel, by decide +kernel⟩, List.mem_of_getElem? (i := 30) (by decide +kernel), List.mem_of_getElem? (i := 374) (by decide +kernel), List.mem_of_getElem? (i := 375) (by decide +kernel)⟩
theorem lw_p14 : lw_okq (⟨"BitDesk$Reader", "rowOfKind", "(II)I"⟩, 7) := ⟨⟨by decide +kernel, by decide +kernel⟩, List.mem_of_getElem? (i := 30) (by decide +kernel), List.mem_of_getElem? (i := 378) (by decide +kernel), List.mem_of_getElem? (i := 379) (by decide +kernel)⟩
theorem lw_p15 : lw_okq (⟨"BitDesk$Reader", "readKeep", "(LBitDesk$State;)V"⟩, 7) := ⟨⟨by decide +kernel, by decide +kernel⟩, List.mem_of_getElem? (i := 30) (by decide +kernel), List.mem_of_getElem? (i := 390) (by decide +kernel), List.mem_of_getElem? (i := 391) (by decide +kernel)⟩
def lw_privs_1 : List (MethodName × Nat) := [(⟨"BitDesk$Reader", "readSize", "(LBitDesk$State;)V"⟩, 7), (⟨"BitDesk$Reader", "takeWord", "()V"⟩, 7), (⟨"BitDesk$Reader", "skipSpaces", "()V"⟩, 7), (⟨"BitDesk$Reader", "isWord", "(Ljava/lang/String;)Z"⟩, 7), (⟨"BitDesk$Reader", "fail", "(II)V"⟩, 7), (⟨"BitDesk$Reader", "takeNumber", "(II)I"⟩, 7), (⟨"BitDesk$Reader", "takeDigits", "()V"⟩, 7), (⟨"BitDesk$Reader", "hasMore", "()Z"⟩, 7), (⟨"BitDesk$Reader", "takeSemicolon", "()V"⟩, 7), (⟨"BitDesk$Reader", "readStatement", "(LBitDesk$State;)V"⟩, 7), (⟨"BitDesk$Reader", "readEdge", "(LBitDesk$State;)V"⟩, 7), (⟨"BitDesk$Reader", "readRow", "(LBitDesk$State;)V"⟩, 7), (⟨"BitDesk$Reader", "takeBits", "(I)I"⟩, 7), (⟨"BitDesk$Reader", "readFill", "(LBitDesk$State;)V"⟩, 7), (⟨"BitDesk$Reader", "rowOfKind", "(II)I"⟩, 7), (⟨"BitDesk$Reader", "readKeep", "(LBitDesk$State;)V"⟩, 7)]
theorem lw_r1 : ∀ q ∈ lw_privs_1, lw_okq q := List.forall_mem_cons.mpr ⟨lw_p0, List.forall_mem_cons.mpr ⟨lw_p1, List.forall_mem_cons.mpr ⟨lw_p2, List.forall_mem_cons.mpr ⟨lw_p3, List.forall_mem_cons.mpr ⟨lw_p4, List.forall_mem_cons.mpr ⟨lw_p5, List.forall_mem_cons.mpr ⟨lw_p6, List.forall_mem_cons.mpr ⟨lw_p7, List.forall_mem_cons.mpr ⟨lw_p8, List.forall_mem_cons.mpr ⟨lw_p9, List.forall_mem_cons.mpr ⟨lw_p10, List.forall_mem_cons.mpr ⟨lw_p11, List.forall_mem_cons.mpr ⟨lw_p12, List.forall_mem_cons.mpr ⟨lw_p13, List.forall_mem_cons.mpr ⟨lw_p14, List.forall_mem_cons.mpr ⟨lw_p15, fun _ h => absurd h List.not_mem_nil⟩⟩⟩⟩⟩⟩⟩⟩⟩⟩⟩⟩⟩⟩⟩⟩
theorem lw_p16 : lw_okq (⟨"BitDesk", "replaceState", "(LBitDesk$State;)V"⟩, 15) := ⟨⟨by decide +kernel, by decide +kernel⟩, List.mem_of_getElem? (i := 22) (by decide +kernel), List.mem_of_getElem? (i := 403) (by decide +kernel), List.mem_of_getElem? (i := 404) (by decide +kernel)⟩
theorem lw_p17 : lw_okq (⟨"BitDesk", "dropClosures", "()V"⟩, 15) := ⟨⟨by decide +kernel, by decide +kernel⟩, List.mem_of_getElem? (i := 22) (by decide +kernel), List.mem_of_getElem? (i := 418) (by decide +kernel), List.mem_of_getElem? (i := 419) (by decide +kernel)⟩
theorem lw_p18 : lw_okq (⟨"BitDesk", "needRange", "(III)V"⟩, 15) := ⟨⟨by decide +kernel, by decide +kernel⟩, List.mem_of_getElem? (i := 22) (by decide +kernel), List.mem_of_getElem? (i := 447) (by decide +kernel), List.mem_of_getElem? (i := 448) (by decide +kernel)⟩
theorem lw_p19 : lw_okq (⟨"java/lang/Throwable", "fillInStackTrace", "(I)Ljava/lang/Throwable;"⟩, 6) := ⟨⟨by decide +kernel, by decide +kernel⟩, List.mem_of_getElem? (i := 488) (by decide +kernel), List.mem_of_getElem? (i := 486) (by decide +kernel), List.mem_of_getElem? (i := 487) (by decide +kernel)⟩
theorem lw_p20 : lw_okq (⟨"BitDesk", "keptSlots", "()I"⟩, 15) := ⟨⟨by decide +kernel, by decide +kernel⟩, List.mem_of_getElem? (i := 22) (by decide +kernel), List.mem_of_getElem? (i := 517) (by decide +kernel), List.mem_of_getElem? (i := 518) (by decide +kernel)⟩
theorem lw_p21 : lw_okq (⟨"BitDesk", "needCell", "(III)V"⟩, 15) := ⟨⟨by decide +kernel, by decide +kernel⟩, List.mem_of_getElem? (i := 22) (by decide +kernel), List.mem_of_getElem? (i := 529) (by decide +kernel), List.mem_of_getElem? (i := 530) (by decide +kernel)⟩
theorem lw_p22 : lw_okq (⟨"BitDesk", "needRow", "(II)V"⟩, 15) := ⟨⟨by decide +kernel, by decide +kernel⟩, List.mem_of_getElem? (i := 22) (by decide +kernel), List.mem_of_getElem? (i := 533) (by decide +kernel), List.mem_of_getElem? (i := 534) (by decide +kernel)⟩
theorem lw_p23 : lw_okq (⟨"BitDesk", "needSlot", "(I)V"⟩, 15) := ⟨⟨by decide +kernel, by decide +kernel⟩, List.mem_of_getElem? (i := 22) (by decide +kernel), List.mem_of_getElem? (i := 537) (by decide +kernel), List.mem_of_getElem? (i := 538) (by decide +kernel)⟩
theorem lw_p24 : lw_okq (⟨"BitDesk", "needNode", "(I)V"⟩, 15) := ⟨⟨by decide +kernel, by decide +kernel⟩, List.mem_of_getElem? (i := 22) (by decide +kernel), List.mem_of_getElem? (i := 557) (by decide +kernel), List.mem_of_getElem? (i := 558) (by decide +kernel)⟩
theorem lw_p25 : lw_okq (⟨"BitDesk", "rowsOf", "(I)[I"⟩, 15) := ⟨⟨by decide +kernel, by decide +kernel⟩, List.mem_of_getElem? (i := 22) (by decide +kernel), List.mem_of_getElem? (i := 562) (by decide +kernel), List.mem_of_getElem? (i := 563) (by decide +kernel)⟩
theorem lw_p26 : lw_okq (⟨"BitDesk", "firstEqual", "([II)I"⟩, 15) := ⟨⟨by decide +kernel, by decide +kernel⟩, List.mem_of_getElem? (i := 22) (by decide +kernel), List.mem_of_getElem? (i := 631) (by decide +kernel), List.mem_of_getElem? (i := 632) (by decide +kernel)⟩
theorem lw_p27 : lw_okq (⟨"BitDesk", "firstRows", "([II)I"⟩, 15) := ⟨⟨by decide +kernel, by decide +kernel⟩, List.mem_of_getElem? (i := 22) (by decide +kernel), List.mem_of_getElem? (i := 642) (by decide +kernel), List.mem_of_getElem? (i := 643) (by decide +kernel)⟩
theorem lw_p28 : lw_okq (⟨"BitDesk", "closureOf", "(I)LBitDesk$Closure;"⟩, 15) := ⟨⟨by decide +kernel, by decide +kernel⟩, List.mem_of_getElem? (i := 22) (by decide +kernel), List.mem_of_getElem? (i := 689) (by decide +kernel), List.mem_of_getElem? (i := 690) (by decide +kernel)⟩
theorem lw_p29 : lw_okq (⟨"BitDesk", "fewestEdges", "([III)I"⟩, 15) := ⟨⟨by decide +kernel, by decide +kernel⟩, List.mem_of_getElem? (i := 22) (by decide +kernel), List.mem_of_getElem? (i := 750) (by decide +kernel), List.mem_of_getElem? (i := 751) (by decide +kernel)⟩
theorem lw_p30 : lw_okq (⟨"BitDesk", "joinedRows", "([II)I"⟩, 15) := ⟨⟨by decide +kernel, by decide +kernel⟩, List.mem_of_getElem? (i := 22) (by decide +kernel), List.mem_of_getElem? (i := 754) (by decide +kernel), List.mem_of_getElem? (i := 755) (by decide +kernel)⟩
theorem lw_p31 : lw_okq (⟨"BitDesk", "fillLevels", "([III)V"⟩, 15) := ⟨⟨by decide +kernel, by decide +kernel⟩, List.mem_of_getElem? (i := 22) (by decide +kernel), List.mem_of_getElem? (i := 766) (by decide +kernel), List.mem_of_getElem? (i := 767) (by decide +kernel)⟩
def lw_privs_2 : List (MethodName × Nat) := [(⟨"BitDesk", "replaceState", "(LBitDesk$State;)V"⟩, 15), (⟨"BitDesk", "dropClosures", "()V"⟩, 15), (⟨"BitDesk", "needRange", "(III)V"⟩, 15), (⟨"java/lang/Throwable", "fillInStackTrace", "(I)Ljava/lang/Throwable;"⟩, 6), (⟨"BitDesk", "keptSlots", "()I"⟩, 15), (⟨"BitDesk", "needCell", "(III)V"⟩, 15), (⟨"BitDesk", "needRow", "(II)V"⟩, 15), (⟨"BitDesk", "needSlot", "(I)V"⟩, 15), (⟨"BitDesk", "needNode", "(I)V"⟩, 15), (⟨"BitDesk", "rowsOf", "(I)[I"⟩, 15), (⟨"BitDesk", "firstEqual", "([II)I"⟩, 15), (⟨"BitDesk", "firstRows", "([II)I"⟩, 15), (⟨"BitDesk", "closureOf", "(I)LBitDesk$Closure;"⟩, 15), (⟨"BitDesk", "fewestEdges", "([III)I"⟩, 15), (⟨"BitDesk", "joinedRows", "([II)I"⟩, 15), (⟨"BitDesk", "fillLevels", "([III)V"⟩, 15)]
theorem lw_r2 : ∀ q ∈ lw_privs_2, lw_okq q := List.forall_mem_cons.mpr ⟨lw_p16, List.forall_mem_cons.mpr ⟨lw_p17, List.forall_mem_cons.mpr ⟨lw_p18, List.forall_mem_cons.mpr ⟨lw_p19, List.forall_mem_cons.mpr ⟨lw_p20, List.forall_mem_cons.mpr ⟨lw_p21, List.forall_mem_cons.mpr ⟨lw_p22, List.forall_mem_cons.mpr ⟨lw_p23, List.forall_mem_cons.mpr ⟨lw_p24, List.forall_mem_cons.mpr ⟨lw_p25, List.forall_mem_cons.mpr ⟨lw_p26, List.forall_mem_cons.mpr ⟨lw_p27, List.forall_mem_cons.mpr ⟨lw_p28, List.forall_mem_cons.mpr ⟨lw_p29, List.forall_mem_cons.mpr ⟨lw_p30, List.forall_mem_cons.mpr ⟨lw_p31, fun _ h => absurd h List.not_mem_nil⟩⟩⟩⟩⟩⟩⟩⟩⟩⟩⟩⟩⟩⟩⟩⟩
theorem lw_p32 : lw_okq (⟨"BitDesk", "lossWithout", "(III)I"⟩, 15) := ⟨⟨by decide +kernel, by decide +kernel⟩, List.mem_of_getElem? (i := 22) (by decide +kernel), List.mem_of_getElem? (i := 815) (by decide +kernel), List.mem_of_getElem? (i := 816) (by decide +kernel)⟩
theorem lw_p33 : lw_okq (⟨"BitDesk$Elimination", "eliminateAll", "([II)V"⟩, 4) := ⟨⟨by decide +kernel, by decide +kernel⟩, List.mem_of_getElem? (i := 175) (by decide +kernel), List.mem_of_getElem? (i := 863) (by decide +kernel), List.mem_of_getElem? (i := 864) (by decide +kernel)⟩
theorem lw_p34 : lw_okq (⟨"BitDesk$Elimination", "rowNotTaken", "(II)I"⟩, 4) := ⟨⟨by decide +kernel, by decide +kernel⟩, List.mem_of_getElem? (i := 175) (by decide +kernel), List.mem_of_getElem? (i := 868) (by decide +kernel), List.mem_of_getElem? (i := 869) (by decide +kernel)⟩
theorem lw_p35 : lw_okq (⟨"BitDesk$Elimination", "swapRows", "(II)V"⟩, 4) := ⟨⟨by decide +kernel, by decide +kernel⟩, List.mem_of_getElem? (i := 175) (by decide +kernel), List.mem_of_getElem? (i := 873) (by decide +kernel), List.mem_of_getElem? (i := 874) (by decide +kernel)⟩
theorem lw_p36 : lw_okq (⟨"BitDesk$Elimination", "clearOthers", "(III)V"⟩, 4) := ⟨⟨by decide +kernel, by decide +kernel⟩, List.mem_of_getElem? (i := 175) (by decide +kernel), List.mem_of_getElem? (i := 877) (by decide +kernel), List.mem_of_getElem? (i := 878) (by decide +kernel)⟩
theorem lw_p37 : lw_okq (⟨"BitDesk", "remember", "()V"⟩, 15) := ⟨⟨by decide +kernel, by decide +kernel⟩, List.mem_of_getElem? (i := 22) (by decide +kernel), List.mem_of_getElem? (i := 922) (by decide +kernel), List.mem_of_getElem? (i := 923) (by decide +kernel)⟩
theorem lw_p38 : lw_okq (⟨"BitDesk", "noteChange", "(I)V"⟩, 15) := ⟨⟨by decide +kernel, by decide +kernel⟩, List.mem_of_getElem? (i := 22) (by decide +kernel), List.mem_of_getElem? (i := 944) (by decide +kernel), List.mem_of_getElem? (i := 945) (by decide +kernel)⟩
theorem lw_p39 : lw_okq (⟨"BitDesk", "store", "([II)I"⟩, 15) := ⟨⟨by decide +kernel, by decide +kernel⟩, List.mem_of_getElem? (i := 22) (by decide +kernel), List.mem_of_getElem? (i := 956) (by decide +kernel), List.mem_of_getElem? (i := 957) (by decide +kernel)⟩
theorem lw_p40 : lw_okq (⟨"BitDesk$Multiplier", "fillTable", "([III)V"⟩, 8) := ⟨⟨by decide +kernel, by decide +kernel⟩, List.mem_of_getElem? (i := 142) (by decide +kernel), List.mem_of_getElem? (i := 993) (by decide +kernel), List.mem_of_getElem? (i := 994) (by decide +kernel)⟩
theorem lw_p41 : lw_okq (⟨"BitDesk$Multiplier", "joined", "(II)I"⟩, 8) := ⟨⟨by decide +kernel, by decide +kernel⟩, List.mem_of_getElem? (i := 142) (by decide +kernel), List.mem_of_getElem? (i := 997) (by decide +kernel), List.mem_of_getElem? (i := 998) (by decide +kernel)⟩
theorem lw_p42 : lw_okq (⟨"BitDesk$Multiplier", "takeEntries", "([I[III)V"⟩, 8) := ⟨⟨by decide +kernel, by decide +kernel⟩, List.mem_of_getElem? (i := 142) (by decide +kernel), List.mem_of_getElem? (i := 1001) (by decide +kernel), List.mem_of_getElem? (i := 1002) (by decide +kernel)⟩
theorem lw_p43 : lw_okq (⟨"BitDesk", "noteWork", "()V"⟩, 15) := ⟨⟨by decide +kernel, by decide +kernel⟩, List.mem_of_getElem? (i := 22) (by decide +kernel), List.mem_of_getElem? (i := 1006) (by decide +kernel), List.mem_of_getElem? (i := 1007) (by decide +kernel)⟩
theorem lw_p44 : lw_okq (⟨"BitDesk", "dropNeedless", "([II)V"⟩, 15) := ⟨⟨by decide +kernel, by decide +kernel⟩, List.mem_of_getElem? (i := 22) (by decide +kernel), List.mem_of_getElem? (i := 1049) (by decide +kernel), List.mem_of_getElem? (i := 1050) (by decide +kernel)⟩
theorem lw_p45 : lw_okq (⟨"BitDeskModel", "sizePart", "()V"⟩, 25) := ⟨⟨by decide +kernel, by decide +kernel⟩, List.mem_of_getElem? (i := 1113) (by decide +kernel), List.mem_of_getElem? (i := 1212) (by decide +kernel), List.mem_of_getElem? (i := 1213) (by decide +kernel)⟩
theorem lw_p46 : lw_okq (⟨"BitDeskModel", "reads", "()V"⟩, 25) := ⟨⟨by decide +kernel, by decide +kernel⟩, List.mem_of_getElem? (i := 1113) (by decide +kernel), List.mem_of_getElem? (i := 1216) (by decide +kernel), List.mem_of_getElem? (i := 1217) (by decide +kernel)⟩
theorem lw_p47 : lw_okq (⟨"BitDeskModel", "next", "()I"⟩, 25) := ⟨⟨by decide +kernel, by decide +kernel⟩, List.mem_of_getElem? (i := 1113) (by decide +kernel), List.mem_of_getElem? (i := 1220) (by decide +kernel), List.mem_of_getElem? (i := 1221) (by decide +kernel)⟩
def lw_privs_3 : List (MethodName × Nat) := [(⟨"BitDesk", "lossWithout", "(III)I"⟩, 15), (⟨"BitDesk$Elimination", "eliminateAll", "([II)V"⟩, 4), (⟨"BitDesk$Elimination", "rowNotTaken", "(II)I"⟩, 4), (⟨"BitDesk$Elimination", "swapRows", "(II)V"⟩, 4), (⟨"BitDesk$Elimination", "clearOthers", "(III)V"⟩, 4), (⟨"BitDesk", "remember", "()V"⟩, 15), (⟨"BitDesk", "noteChange", "(I)V"⟩, 15), (⟨"BitDesk", "store", "([II)I"⟩, 15), (⟨"BitDesk$Multiplier", "fillTable", "([III)V"⟩, 8), (⟨"BitDesk$Multiplier", "joined", "(II)I"⟩, 8), (⟨"BitDesk$Multiplier", "takeEntries", "([I[III)V"⟩, 8), (⟨"BitDesk", "noteWork", "()V"⟩, 15), (⟨"BitDesk", "dropNeedless", "([II)V"⟩, 15), (⟨"BitDeskModel", "sizePart", "()V"⟩, 25), (⟨"BitDeskModel", "reads", "()V"⟩, 25), (⟨"BitDeskModel", "next", "()I"⟩, 25)]
theorem lw_r3 : ∀ q ∈ lw_privs_3, lw_okq q := List.forall_mem_cons.mpr ⟨lw_p32, List.forall_mem_cons.mpr ⟨lw_p33, List.forall_mem_cons.mpr ⟨lw_p34, List.forall_mem_cons.mpr ⟨lw_p35, List.forall_mem_cons.mpr ⟨lw_p36, List.forall_mem_cons.mpr ⟨lw_p37, List.forall_mem_cons.mpr ⟨lw_p38, List.forall_mem_cons.mpr ⟨lw_p39, List.forall_mem_cons.mpr ⟨lw_p40, List.forall_mem_cons.mpr ⟨lw_p41, List.forall_mem_cons.mpr ⟨lw_p42, List.forall_mem_cons.mpr ⟨lw_p43, List.forall_mem_cons.mpr ⟨lw_p44, List.forall_mem_cons.mpr ⟨lw_p45, List.forall_mem_cons.mpr ⟨lw_p46, List.forall_mem_cons.mpr ⟨lw_p47, fun _ h => absurd h List.not_mem_nil⟩⟩⟩⟩⟩⟩⟩⟩⟩⟩⟩⟩⟩⟩⟩⟩
theorem lw_p48 : lw_okq (⟨"BitDeskModel", "here", "()I"⟩, 25) := ⟨⟨by decide +kernel, by decide +kernel⟩, List.mem_of_getElem? (i := 1113) (by decide +kernel), List.mem_of_getElem? (i := 1224) (by decide +kernel), List.mem_of_getElem? (i := 1225) (by decide +kernel)⟩
theorem lw_p49 : lw_okq (⟨"BitDeskModel", "isWord", "(Ljava/lang/String;)Z"⟩, 25) := ⟨⟨by decide +kernel, by decide +kernel⟩, List.mem_of_getElem? (i := 1113) (by decide +kernel), List.mem_of_getElem? (i := 1234) (by decide +kernel), List.mem_of_getElem? (i := 1235) (by decide +kernel)⟩
theorem lw_p50 : lw_okq (⟨"BitDeskModel", "fails", "(I)V"⟩, 25) := ⟨⟨by decide +kernel, by decide +kernel⟩, List.mem_of_getElem? (i := 1113) (by decide +kernel), List.mem_of_getElem? (i := 1240) (by decide +kernel), List.mem_of_getElem? (i := 1241) (by decide +kernel)⟩
theorem lw_p51 : lw_okq (⟨"BitDeskModel", "number", "(II)I"⟩, 25) := ⟨⟨by decide +kernel, by decide +kernel⟩, List.mem_of_getElem? (i := 1113) (by decide +kernel), List.mem_of_getElem? (i := 1244) (by decide +kernel), List.mem_of_getElem? (i := 1245) (by decide +kernel)⟩
theorem lw_p52 : lw_okq (⟨"BitDeskModel", "isMore", "()Z"⟩, 25) := ⟨⟨by decide +kernel, by decide +kernel⟩, List.mem_of_getElem? (i := 1113) (by decide +kernel), List.mem_of_getElem? (i := 1252) (by decide +kernel), List.mem_of_getElem? (i := 1253) (by decide +kernel)⟩
theorem lw_p53 : lw_okq (⟨"BitDeskModel", "statement", "()V"⟩, 25) := ⟨⟨by decide +kernel, by decide +kernel⟩, List.mem_of_getElem? (i := 1113) (by decide +kernel), List.mem_of_getElem? (i := 1256) (by decide +kernel), List.mem_of_getElem? (i := 1257) (by decide +kernel)⟩
theorem lw_p54 : lw_okq (⟨"BitDeskModel", "edgePart", "()V"⟩, 25) := ⟨⟨by decide +kernel, by decide +kernel⟩, List.mem_of_getElem? (i := 1113) (by decide +kernel), List.mem_of_getElem? (i := 1261) (by decide +kernel), List.mem_of_getElem? (i := 1262) (by decide +kernel)⟩
theorem lw_p55 : lw_okq (⟨"BitDeskModel", "readSlot", "()I"⟩, 25) := ⟨⟨by decide +kernel, by decide +kernel⟩, List.mem_of_getElem? (i := 1113) (by decide +kernel), List.mem_of_getElem? (i := 1265) (by decide +kernel), List.mem_of_getElem? (i := 1266) (by decide +kernel)⟩
theorem lw_p56 : lw_okq (⟨"BitDeskModel", "readNode", "()I"⟩, 25) := ⟨⟨by decide +kernel, by decide +kernel⟩, List.mem_of_getElem? (i := 1113) (by decide +kernel), List.mem_of_getElem? (i := 1269) (by decide +kernel), List.mem_of_getElem? (i := 1270) (by decide +kernel)⟩
theorem lw_p57 : lw_okq (⟨"BitDeskModel", "rowPart", "()V"⟩, 25) := ⟨⟨by decide +kernel, by decide +kernel⟩, List.mem_of_getElem? (i := 1113) (by decide +kernel), List.mem_of_getElem? (i := 1274) (by decide +kernel), List.mem_of_getElem? (i := 1275) (by decide +kernel)⟩
theorem lw_p58 : lw_okq (⟨"BitDeskModel", "fillPart", "()V"⟩, 25) := ⟨⟨by decide +kernel, by decide +kernel⟩, List.mem_of_getElem? (i := 1113) (by decide +kernel), List.mem_of_getElem? (i := 1279) (by decide +kernel), List.mem_of_getElem? (i := 1280) (by decide +kernel)⟩
theorem lw_p59 : lw_okq (⟨"BitDeskModel", "kindHere", "()I"⟩, 25) := ⟨⟨by decide +kernel, by decide +kernel⟩, List.mem_of_getElem? (i := 1113) (by decide +kernel), List.mem_of_getElem? (i := 1283) (by decide +kernel), List.mem_of_getElem? (i := 1284) (by decide +kernel)⟩
theorem lw_p60 : lw_okq (⟨"BitDeskModel", "keepPart", "()V"⟩, 25) := ⟨⟨by decide +kernel, by decide +kernel⟩, List.mem_of_getElem? (i := 1113) (by decide +kernel), List.mem_of_getElem? (i := 1295) (by decide +kernel), List.mem_of_getElem? (i := 1296) (by decide +kernel)⟩
theorem lw_p61 : lw_okq (⟨"BitDeskModel", "madeAnew", "(I)V"⟩, 25) := ⟨⟨by decide +kernel, by decide +kernel⟩, List.mem_of_getElem? (i := 1113) (by decide +kernel), List.mem_of_getElem? (i := 1303) (by decide +kernel), List.mem_of_getElem? (i := 1304) (by decide +kernel)⟩
theorem lw_p62 : lw_okq (⟨"BitDeskModel", "size", "()I"⟩, 25) := ⟨⟨by decide +kernel, by decide +kernel⟩, List.mem_of_getElem? (i := 1113) (by decide +kernel), List.mem_of_getElem? (i := 1307) (by decide +kernel), List.mem_of_getElem? (i := 1308) (by decide +kernel)⟩
theorem lw_p63 : lw_okq (⟨"BitDeskModel", "looks", "(II)V"⟩, 25) := ⟨⟨by decide +kernel, by decide +kernel⟩, List.mem_of_getElem? (i := 1113) (by decide +kernel), List.mem_of_getElem? (i := 1311) (by decide +kernel), List.mem_of_getElem? (i := 1312) (by decide +kernel)⟩
def lw_privs_4 : List (MethodName × Nat) := [(⟨"BitDeskModel", "here", "()I"⟩, 25), (⟨"BitDeskModel", "isWord", "(Ljava/lang/String;)Z"⟩, 25), (⟨"BitDeskModel", "fails", "(I)V"⟩, 25), (⟨"BitDeskModel", "number", "(II)I"⟩, 25), (⟨"BitDeskModel", "isMore", "()Z"⟩, 25), (⟨"BitDeskModel", "statement", "()V"⟩, 25), (⟨"BitDeskModel", "edgePart", "()V"⟩, 25), (⟨"BitDeskModel", "readSlot", "()I"⟩, 25), (⟨"BitDeskModel", "readNode", "()I"⟩, 25), (⟨"BitDeskModel", "rowPart", "()V"⟩, 25), (⟨"BitDeskModel", "fillPart", "()V"⟩, 25), (⟨"BitDeskModel", "kindHere", "()I"⟩, 25), (⟨"BitDeskModel", "keepPart", "()V"⟩, 25), (⟨"BitDeskModel", "madeAnew", "(I)V"⟩, 25), (⟨"BitDeskModel", "size", "()I"⟩, 25), (⟨"BitDeskModel", "looks", "(II)V"⟩, 25)]
theorem lw_r4 : ∀ q ∈ lw_privs_4, lw_okq q := List.forall_mem_cons.mpr ⟨lw_p48, List.forall_mem_cons.mpr ⟨lw_p49, List.forall_mem_cons.mpr ⟨lw_p50, List.forall_mem_cons.mpr ⟨lw_p51, List.forall_mem_cons.mpr ⟨lw_p52, List.forall_mem_cons.mpr ⟨lw_p53, List.forall_mem_cons.mpr ⟨lw_p54, List.forall_mem_cons.mpr ⟨lw_p55, List.forall_mem_cons.mpr ⟨lw_p56, List.forall_mem_cons.mpr ⟨lw_p57, List.forall_mem_cons.mpr ⟨lw_p58, List.forall_mem_cons.mpr ⟨lw_p59, List.forall_mem_cons.mpr ⟨lw_p60, List.forall_mem_cons.mpr ⟨lw_p61, List.forall_mem_cons.mpr ⟨lw_p62, List.forall_mem_cons.mpr ⟨lw_p63, fun _ h => absurd h List.not_mem_nil⟩⟩⟩⟩⟩⟩⟩⟩⟩⟩⟩⟩⟩⟩⟩⟩
theorem lw_p64 : lw_okq (⟨"BitDeskModel", "isThrown", "(ZI)Z"⟩, 25) := ⟨⟨by decide +kernel, by decide +kernel⟩, List.mem_of_getElem? (i := 1113) (by decide +kernel), List.mem_of_getElem? (i := 1328) (by decide +kernel), List.mem_of_getElem? (i := 1329) (by decide +kernel)⟩
theorem lw_p65 : lw_okq (⟨"BitDeskModel", "keptMany", "()I"⟩, 25) := ⟨⟨by decide +kernel, by decide +kernel⟩, List.mem_of_getElem? (i := 1113) (by decide +kernel), List.mem_of_getElem? (i := 1332) (by decide +kernel), List.mem_of_getElem? (i := 1333) (by decide +kernel)⟩
theorem lw_p66 : lw_okq (⟨"BitDeskModel", "areIn", "(II)Z"⟩, 25) := ⟨⟨by decide +kernel, by decide +kernel⟩, List.mem_of_getElem? (i := 1113) (by decide +kernel), List.mem_of_getElem? (i := 1340) (by decide +kernel), List.mem_of_getElem? (i := 1341) (by decide +kernel)⟩
theorem lw_p67 : lw_okq (⟨"BitDeskModel", "isNode", "(I)Z"⟩, 25) := ⟨⟨by decide +kernel, by decide +kernel⟩, List.mem_of_getElem? (i := 1113) (by decide +kernel), List.mem_of_getElem? (i := 1348) (by decide +kernel), List.mem_of_getElem? (i := 1349) (by decide +kernel)⟩
theorem lw_p68 : lw_okq (⟨"BitDeskModel", "rowOf", "(II)J"⟩, 25) := ⟨⟨by decide +kernel, by decide +kernel⟩, List.mem_of_getElem? (i := 1113) (by decide +kernel), List.mem_of_getElem? (i := 1352) (by decide +kernel), List.mem_of_getElem? (i := 1353) (by decide +kernel)⟩
theorem lw_p69 : lw_okq (⟨"BitDeskModel", "onesOf", "(I)I"⟩, 25) := ⟨⟨by decide +kernel, by decide +kernel⟩, List.mem_of_getElem? (i := 1113) (by decide +kernel), List.mem_of_getElem? (i := 1378) (by decide +kernel), List.mem_of_getElem? (i := 1379) (by decide +kernel)⟩
theorem lw_p70 : lw_okq (⟨"BitDeskModel", "firstAs", "(II)I"⟩, 25) := ⟨⟨by decide +kernel, by decide +kernel⟩, List.mem_of_getElem? (i := 1113) (by decide +kernel), List.mem_of_getElem? (i := 1390) (by decide +kernel), List.mem_of_getElem? (i := 1391) (by decide +kernel)⟩
theorem lw_p71 : lw_okq (⟨"BitDeskModel", "all", "()J"⟩, 25) := ⟨⟨by decide +kernel, by decide +kernel⟩, List.mem_of_getElem? (i := 1113) (by decide +kernel), List.mem_of_getElem? (i := 1398) (by decide +kernel), List.mem_of_getElem? (i := 1399) (by decide +kernel)⟩
theorem lw_p72 : lw_okq (⟨"BitDeskModel", "classesAhead", "(II)I"⟩, 25) := ⟨⟨by decide +kernel, by decide +kernel⟩, List.mem_of_getElem? (i := 1113) (by decide +kernel), List.mem_of_getElem? (i := 1406) (by decide +kernel), List.mem_of_getElem? (i := 1407) (by decide +kernel)⟩
theorem lw_p73 : lw_okq (⟨"BitDeskModel", "closure", "(I)V"⟩, 25) := ⟨⟨by decide +kernel, by decide +kernel⟩, List.mem_of_getElem? (i := 1113) (by decide +kernel), List.mem_of_getElem? (i := 1430) (by decide +kernel), List.mem_of_getElem? (i := 1431) (by decide +kernel)⟩
theorem lw_p74 : lw_okq (⟨"BitDeskModel", "takes", "(I[J)V"⟩, 25) := ⟨⟨by decide +kernel, by decide +kernel⟩, List.mem_of_getElem? (i := 1113) (by decide +kernel), List.mem_of_getElem? (i := 1434) (by decide +kernel), List.mem_of_getElem? (i := 1435) (by decide +kernel)⟩
theorem lw_p75 : lw_okq (⟨"BitDeskModel", "closes", "([J)V"⟩, 25) := ⟨⟨by decide +kernel, by decide +kernel⟩, List.mem_of_getElem? (i := 1113) (by decide +kernel), List.mem_of_getElem? (i := 1438) (by decide +kernel), List.mem_of_getElem? (i := 1439) (by decide +kernel)⟩
theorem lw_p76 : lw_okq (⟨"BitDeskModel", "pairsOf", "(I)I"⟩, 25) := ⟨⟨by decide +kernel, by decide +kernel⟩, List.mem_of_getElem? (i := 1113) (by decide +kernel), List.mem_of_getElem? (i := 1450) (by decide +kernel), List.mem_of_getElem? (i := 1451) (by decide +kernel)⟩
theorem lw_p77 : lw_okq (⟨"BitDeskModel", "sumOf", "([J)I"⟩, 25) := ⟨⟨by decide +kernel, by decide +kernel⟩, List.mem_of_getElem? (i := 1113) (by decide +kernel), List.mem_of_getElem? (i := 1454) (by decide +kernel), List.mem_of_getElem? (i := 1455) (by decide +kernel)⟩
theorem lw_p78 : lw_okq (⟨"BitDeskModel", "componentOf", "(I)I"⟩, 25) := ⟨⟨by decide +kernel, by decide +kernel⟩, List.mem_of_getElem? (i := 1113) (by decide +kernel), List.mem_of_getElem? (i := 1466) (by decide +kernel), List.mem_of_getElem? (i := 1467) (by decide +kernel)⟩
theorem lw_p79 : lw_okq (⟨"BitDeskModel", "measures", "(II)V"⟩, 25) := ⟨⟨by decide +kernel, by decide +kernel⟩, List.mem_of_getElem? (i := 1113) (by decide +kernel), List.mem_of_getElem? (i := 1478) (by decide +kernel), List.mem_of_getElem? (i := 1479) (by decide +kernel)⟩
def lw_privs_5 : List (MethodName × Nat) := [(⟨"BitDeskModel", "isThrown", "(ZI)Z"⟩, 25), (⟨"BitDeskModel", "keptMany", "()I"⟩, 25), (⟨"BitDeskModel", "areIn", "(II)Z"⟩, 25), (⟨"BitDeskModel", "isNode", "(I)Z"⟩, 25), (⟨"BitDeskModel", "rowOf", "(II)J"⟩, 25), (⟨"BitDeskModel", "onesOf", "(I)I"⟩, 25), (⟨"BitDeskModel", "firstAs", "(II)I"⟩, 25), (⟨"BitDeskModel", "all", "()J"⟩, 25), (⟨"BitDeskModel", "classesAhead", "(II)I"⟩, 25), (⟨"BitDeskModel", "closure", "(I)V"⟩, 25), (⟨"BitDeskModel", "takes", "(I[J)V"⟩, 25), (⟨"BitDeskModel", "closes", "([J)V"⟩, 25), (⟨"BitDeskModel", "pairsOf", "(I)I"⟩, 25), (⟨"BitDeskModel", "sumOf", "([J)I"⟩, 25), (⟨"BitDeskModel", "componentOf", "(I)I"⟩, 25), (⟨"BitDeskModel", "measures", "(II)V"⟩, 25)]
theorem lw_r5 : ∀ q ∈ lw_privs_5, lw_okq q := List.forall_mem_cons.mpr ⟨lw_p64, List.forall_mem_cons.mpr ⟨lw_p65, List.forall_mem_cons.mpr ⟨lw_p66, List.forall_mem_cons.mpr ⟨lw_p67, List.forall_mem_cons.mpr ⟨lw_p68, List.forall_mem_cons.mpr ⟨lw_p69, List.forall_mem_cons.mpr ⟨lw_p70, List.forall_mem_cons.mpr ⟨lw_p71, List.forall_mem_cons.mpr ⟨lw_p72, List.forall_mem_cons.mpr ⟨lw_p73, List.forall_mem_cons.mpr ⟨lw_p74, List.forall_mem_cons.mpr ⟨lw_p75, List.forall_mem_cons.mpr ⟨lw_p76, List.forall_mem_cons.mpr ⟨lw_p77, List.forall_mem_cons.mpr ⟨lw_p78, List.forall_mem_cons.mpr ⟨lw_p79, fun _ h => absurd h List.not_mem_nil⟩⟩⟩⟩⟩⟩⟩⟩⟩⟩⟩⟩⟩⟩⟩⟩
theorem lw_p80 : lw_okq (⟨"BitDeskModel", "aroundOf", "(II)I"⟩, 25) := ⟨⟨by decide +kernel, by decide +kernel⟩, List.mem_of_getElem? (i := 1113) (by decide +kernel), List.mem_of_getElem? (i := 1490) (by decide +kernel), List.mem_of_getElem? (i := 1491) (by decide +kernel)⟩
theorem lw_p81 : lw_okq (⟨"BitDeskModel", "free", "(IJ)I"⟩, 25) := ⟨⟨by decide +kernel, by decide +kernel⟩, List.mem_of_getElem? (i := 1113) (by decide +kernel), List.mem_of_getElem? (i := 1502) (by decide +kernel), List.mem_of_getElem? (i := 1503) (by decide +kernel)⟩
theorem lw_p82 : lw_okq (⟨"BitDeskModel", "pairsTurned", "(III)I"⟩, 25) := ⟨⟨by decide +kernel, by decide +kernel⟩, List.mem_of_getElem? (i := 1113) (by decide +kernel), List.mem_of_getElem? (i := 1510) (by decide +kernel), List.mem_of_getElem? (i := 1511) (by decide +kernel)⟩
theorem lw_p83 : lw_okq (⟨"BitDeskModel", "mostTurned", "(II)I"⟩, 25) := ⟨⟨by decide +kernel, by decide +kernel⟩, List.mem_of_getElem? (i := 1113) (by decide +kernel), List.mem_of_getElem? (i := 1522) (by decide +kernel), List.mem_of_getElem? (i := 1523) (by decide +kernel)⟩
theorem lw_p84 : lw_okq (⟨"BitDeskModel", "reduces", "(I)V"⟩, 25) := ⟨⟨by decide +kernel, by decide +kernel⟩, List.mem_of_getElem? (i := 1113) (by decide +kernel), List.mem_of_getElem? (i := 1544) (by decide +kernel), List.mem_of_getElem? (i := 1545) (by decide +kernel)⟩
theorem lw_p85 : lw_okq (⟨"BitDeskModel", "changes", "(II)V"⟩, 25) := ⟨⟨by decide +kernel, by decide +kernel⟩, List.mem_of_getElem? (i := 1113) (by decide +kernel), List.mem_of_getElem? (i := 1548) (by decide +kernel), List.mem_of_getElem? (i := 1549) (by decide +kernel)⟩
theorem lw_p86 : lw_okq (⟨"BitDeskModel", "solved", "(IJ)J"⟩, 25) := ⟨⟨by decide +kernel, by decide +kernel⟩, List.mem_of_getElem? (i := 1113) (by decide +kernel), List.mem_of_getElem? (i := 1556) (by decide +kernel), List.mem_of_getElem? (i := 1557) (by decide +kernel)⟩
theorem lw_p87 : lw_okq (⟨"BitDeskModel", "keeps", "()V"⟩, 25) := ⟨⟨by decide +kernel, by decide +kernel⟩, List.mem_of_getElem? (i := 1113) (by decide +kernel), List.mem_of_getElem? (i := 1577) (by decide +kernel), List.mem_of_getElem? (i := 1578) (by decide +kernel)⟩
theorem lw_p88 : lw_okq (⟨"BitDeskModel", "setsRow", "(IIJ)V"⟩, 25) := ⟨⟨by decide +kernel, by decide +kernel⟩, List.mem_of_getElem? (i := 1113) (by decide +kernel), List.mem_of_getElem? (i := 1581) (by decide +kernel), List.mem_of_getElem? (i := 1582) (by decide +kernel)⟩
theorem lw_p89 : lw_okq (⟨"BitDeskModel", "lays", "([JI)I"⟩, 25) := ⟨⟨by decide +kernel, by decide +kernel⟩, List.mem_of_getElem? (i := 1113) (by decide +kernel), List.mem_of_getElem? (i := 1593) (by decide +kernel), List.mem_of_getElem? (i := 1594) (by decide +kernel)⟩
theorem lw_p90 : lw_okq (⟨"BitDeskModel", "multiplies", "([J[J[JZ)V"⟩, 25) := ⟨⟨by decide +kernel, by decide +kernel⟩, List.mem_of_getElem? (i := 1113) (by decide +kernel), List.mem_of_getElem? (i := 1612) (by decide +kernel), List.mem_of_getElem? (i := 1613) (by decide +kernel)⟩
theorem lw_p91 : lw_okq (⟨"BitDeskModel", "counts", "([J)V"⟩, 25) := ⟨⟨by decide +kernel, by decide +kernel⟩, List.mem_of_getElem? (i := 1113) (by decide +kernel), List.mem_of_getElem? (i := 1616) (by decide +kernel), List.mem_of_getElem? (i := 1617) (by decide +kernel)⟩
theorem lw_p92 : lw_okq (⟨"BitDeskModel", "moves", "([J[J)V"⟩, 25) := ⟨⟨by decide +kernel, by decide +kernel⟩, List.mem_of_getElem? (i := 1113) (by decide +kernel), List.mem_of_getElem? (i := 1625) (by decide +kernel), List.mem_of_getElem? (i := 1626) (by decide +kernel)⟩
theorem lw_p93 : lw_okq (⟨"BitDeskModel", "isSame", "([J[J)Z"⟩, 25) := ⟨⟨by decide +kernel, by decide +kernel⟩, List.mem_of_getElem? (i := 1113) (by decide +kernel), List.mem_of_getElem? (i := 1641) (by decide +kernel), List.mem_of_getElem? (i := 1642) (by decide +kernel)⟩
def lw_privs_6 : List (MethodName × Nat) := [(⟨"BitDeskModel", "aroundOf", "(II)I"⟩, 25), (⟨"BitDeskModel", "free", "(IJ)I"⟩, 25), (⟨"BitDeskModel", "pairsTurned", "(III)I"⟩, 25), (⟨"BitDeskModel", "mostTurned", "(II)I"⟩, 25), (⟨"BitDeskModel", "reduces", "(I)V"⟩, 25), (⟨"BitDeskModel", "changes", "(II)V"⟩, 25), (⟨"BitDeskModel", "solved", "(IJ)J"⟩, 25), (⟨"BitDeskModel", "keeps", "()V"⟩, 25), (⟨"BitDeskModel", "setsRow", "(IIJ)V"⟩, 25), (⟨"BitDeskModel", "lays", "([JI)I"⟩, 25), (⟨"BitDeskModel", "multiplies", "([J[J[JZ)V"⟩, 25), (⟨"BitDeskModel", "counts", "([J)V"⟩, 25), (⟨"BitDeskModel", "moves", "([J[J)V"⟩, 25), (⟨"BitDeskModel", "isSame", "([J[J)Z"⟩, 25)]
theorem lw_r6 : ∀ q ∈ lw_privs_6, lw_okq q := List.forall_mem_cons.mpr ⟨lw_p80, List.forall_mem_cons.mpr ⟨lw_p81, List.forall_mem_cons.mpr ⟨lw_p82, List.forall_mem_cons.mpr ⟨lw_p83, List.forall_mem_cons.mpr ⟨lw_p84, List.forall_mem_cons.mpr ⟨lw_p85, List.forall_mem_cons.mpr ⟨lw_p86, List.forall_mem_cons.mpr ⟨lw_p87, List.forall_mem_cons.mpr ⟨lw_p88, List.forall_mem_cons.mpr ⟨lw_p89, List.forall_mem_cons.mpr ⟨lw_p90, List.forall_mem_cons.mpr ⟨lw_p91, List.forall_mem_cons.mpr ⟨lw_p92, List.forall_mem_cons.mpr ⟨lw_p93, fun _ h => absurd h List.not_mem_nil⟩⟩⟩⟩⟩⟩⟩⟩⟩⟩⟩⟩⟩⟩
def lw_privs : List (MethodName × Nat) := lw_privs_1 ++ (lw_privs_2 ++ (lw_privs_3 ++ (lw_privs_4 ++ (lw_privs_5 ++ (lw_privs_6)))))
def lw_tbl : List Cond := k2_sels lw_privs ++ tables_1
theorem lw_privs_ok : ∀ q ∈ lw_privs, lw_okq q := by
  show ∀ q ∈ lw_privs_1 ++ (lw_privs_2 ++ (lw_privs_3 ++ (lw_privs_4 ++ (lw_privs_5 ++ (lw_privs_6))))), lw_okq q
  exact List.forall_mem_append.mpr ⟨lw_r1, List.forall_mem_append.mpr ⟨lw_r2, List.forall_mem_append.mpr ⟨lw_r3, List.forall_mem_append.mpr ⟨lw_r4, List.forall_mem_append.mpr ⟨lw_r5, lw_r6⟩⟩⟩⟩⟩
/-- the streams that the claim lets the run draw from -/
abbrev lw_cs : List Choice := [Jvm.Choice.named "NaN.bits"]
theorem lw_bits : nanBits ∈ lw_cs := by first | decide | exact List.mem_cons_self | simp [lw_cs, nanBits]
/-! ===== BEGIN words of one list among another's, by their places ===== -/
theorem goodIn_r {big : List Cond} (ws : List Cond) (ps : List Nat) (hp : ws = ps.filterMap (fun i => big[i]?)) (h : ws.all goodWord = true) : GoodIn big ws := by
  intro w hw
  have h1 := List.all_eq_true.mp h w hw
  rw [hp] at hw
  obtain ⟨i, -, hi⟩ := List.mem_filterMap.mp hw
  have hm : w ∈ big := by first | exact List.mem_of_getElem? hi | exact List.getElem?_mem hi
  exact ⟨hm, good_of_word h1⟩
theorem goodIn_app {big a b : List Cond} (ha : GoodIn big a) (hb : GoodIn big b) : GoodIn big (a ++ b) := fun w h => (List.mem_append.mp h).elim (ha w) (hb w)
theorem goodIn_ca {big a b : List Cond} {c : Cond} (ha : GoodIn big (c :: a)) (hb : GoodIn big b) : GoodIn big (c :: (a ++ b)) := fun w h => (List.mem_cons.mp h).elim (fun e => ha w (List.mem_cons.mpr (Or.inl e))) (fun h => (List.mem_append.mp h).elim (fun h => ha w (List.mem_cons.mpr (Or.inr h))) (hb w))
theorem goodIn_sub {big ws : List Cond} (hm : ∀ w ∈ ws, w ∈ big) (h : ws.all goodWord = true) : GoodIn big ws := fun w hw => ⟨hm w hw, good_of_word (List.all_eq_true.mp h w hw)⟩
/-! ===== END ===== -/

/-! ===== BEGIN exceptions that leave a method, and their catching by the caller (launches without stack traces) ===== -/
section VXA
/-! The laws vx_back, vx_callV, vx_callS, vx_callSW, vx_throw0, vx_throwS follow proofs of the library, with one case more: JvmDerived/Free/Laws.lean (Back.of_free), Shelf42/LK1.lean (callV, callS), Shelf/KitTraced.lean (throwNew0V, throwNewS). -/
/-- where a method has thrown q: the class by its name, the cell, what was written, the world -/
def vx_T (XC : String → State → State → Prop) (st : State) (q : Addr) (t : State) (mc ms : Nat) (free : Addr → Prop) : Prop :=
  ∃ (E : String) (ce : Cell) (L : List Loc), XC E st t ∧ t.heap[q]? = some ce ∧ ce.vm = .none ∧ st.vm.findClass E = some ce.cls ∧ st.WarmedH t.vm ∧ st.sameButNew ({ t with vm := st.vm } : State) L mc ms ∧ ∀ z ∈ L, free z.base
def vx_Q (Qc : Array Value → State → Outcome → State → Prop) (XC : String → State → State → Prop) (mc ms : Nat) (free : Addr → Prop) : Array Value → State → Outcome → State → Prop := fun a st o t =>
  (Qc a st o t ∧ ∃ L, FrameEnd st o t L mc ms ∧ ∀ q ∈ L, free q.base) ∨ ∃ q, o = .threw q ∧ vx_T XC st q t mc ms free
/-- a callee that returns or throws -/
def vx_Met (l : Launch) (y : MethodName) (ws : List Cond) (rm : Room) (Pc : Array Value → State → Prop) (Qc : Array Value → State → Outcome → State → Prop) (XC : String → State → State → Prop) (mc ms : Nat) (free : Addr → Prop) : Prop :=
  MetFree l y (headSpec ws rm) Pc (fun _ _ _ _ _ => True) (vx_Q Qc XC mc ms free)
def vx_Post (XC : String → State → State → Prop) (mc ms : Nat) (free : Addr → Prop) : Pt → Array Value → Addr → Pt → Prop := fun A a q B =>
  ∃ (g : JFrame) (mk : MethodId) (t : State) (L : List Loc) (E : String) (ce : Cell), B.U.heap = t.heap ∧ B.U.vm = t.vm ∧ XC E (A.U.calling g mk a) t ∧ t.heap[q]? = some ce ∧ ce.vm = .none ∧ A.U.vm.findClass E = some ce.cls ∧ B.locs = A.locs ++ L ∧ (∀ z ∈ L, free z.base) ∧ B.cells = A.cells + mc ∧ B.slots = A.slots + ms
def vx_Back (l : Launch) (R : Room) (p : Program) (e : Env) (below : List Frame) (s : State) (sargs : Array Value) (y : MethodName) (len W9 : Nat)
    (Pre : Pt → Array Value → Prop) (Post : Pt → Array Value → Option Value → Pt → Prop) (PostX : Pt → Array Value → Addr → Pt → Prop) : Prop :=
  ∀ (m : MethodId) (meth : Method) (c : Code) (A : Pt) (g : JFrame) (ig : Instr) (mk : MethodId) (a : Array Value),
    Stand p l e R s m sargs below meth c A.U A.locs A.cells A.slots → g.method = m → g.locals.size = c.maxLocals → decode c.code g.pc = .ok (ig, len) →
    2 * g.monitorRoom + (g.stack.map fun v => v.category).sum ≤ W9 → A.U.methodNamed? y = some mk → Pre A a →
    (∃ (v : Option Value) (B : Pt), Stand p l e R s m sargs below meth c B.U B.locs B.cells B.slots ∧ Post A a v B ∧
      Steps p.tables e below (doInvoke e (A.U.setTop g) [] mk a).1 (B.U.setTop { g with pc := g.pc + len, stack := v.toList ++ g.stack })) ∨
    (∃ (q : Addr) (B : Pt), Stand p l e R s m sargs below meth c B.U B.locs B.cells B.slots ∧ PostX A a q B ∧
      Steps p.tables e below (doInvoke e (A.U.setTop g) [] mk a).1 ((B.U.setTop g).pushFrame (.throwing q)))
section Payer
variable {l : Launch} {R : Room} {p : Program} {e : Env} {below : List Frame} {s : State} {sargs : Array Value} {y : MethodName} {len W9 : Nat}
theorem vx_back {ws : List Cond} {rm : Room} {Pc : Array Value → State → Prop} {Qc : Array Value → State → Outcome → State → Prop} {XC : String → State → State → Prop} {mc ms : Nat} {free : Addr → Prop} {bytes : ByteArray} {maxL : Nat} {ret : Option FieldType}
    (hM : vx_Met l y ws rm Pc Qc XC mc ms free) (hblind : FrameBlind Pc) (hrc : rm.cells = mc) (hrs : rm.slots = ms)
    (hframes : rm.frames + 1 ≤ R.frames) (hlocals : W9 + (maxL + 11) + rm.locals ≤ R.locals)
    (hws : ∀ w ∈ ws, ∀ a' U, s.WarmedH U.vm → w.before a' U = true) (hcode : Cond.code y bytes maxL ret ∈ ws) (hinit : ∀ a' U, s.WarmedH U.vm → (Cond.initialized y.cls).before a' U = true) :
    vx_Back l R p e below s sargs y len W9 (PreOf R mc ms Pc) (PostOf Qc mc ms free) (vx_Post XC mc ms free) := by
  intro m meth c A g ig mk a X hg hsize hdg hW hn hp
  have h1 : (headSpec ws rm).pre.before a A.U = true := atoms_intro fun w hw => hws w hw _ _ X.warmed
  have h2 : (Cond.code y bytes maxL ret).before a A.U = true := hws _ hcode _ _ X.warmed
  have h3 : (Cond.initialized y.cls).before a A.U = true := hinit _ _ X.warmed
  have h4 : A.cells + (headSpec ws rm).room.cells ≤ R.cells := by rw [show (headSpec ws rm).room.cells = mc from hrc]; exact hp.1
  have h5 : A.slots + (headSpec ws rm).room.slots ≤ R.slots := by rw [show (headSpec ws rm).room.slots = ms from hrs]; exact hp.2.1
  have hPc : Pc a (A.U.calling g mk a) := hblind _ _ _ _ hp.2.2
  obtain ⟨U, Ls, c0, s0⟩ := A
  dsimp only [Pt.U, Pt.locs, Pt.cells, Pt.slots] at h1 h2 h3 h4 h5 X hn hPc ⊢
  obtain ⟨methY, cY, hmY, hcY, -, hlY, -, -, -, -⟩ := Cond.code_spec hn h2
  obtain ⟨kY, hkY, -⟩ := className_of_methodNamed hn
  have hinitY : kY.init = .initialized := Cond.initialized_spec (findClass_of_methodNamed hn) hkY h3
  have h : At U g.method c below := by rw [hg]; exact X.here
  have hlocals9 : W9 + (maxL + 11) + (headSpec ws rm).room.locals ≤ R.locals := hlocals
  have happ : (headSpec ws rm).appliesLoose y e.platform (U.calling g mk a) = true :=
    Spec.appliesLoose_calling (g := g) h hdg hn hkY hinitY
      (X.room_calling (g := g) (R' := (headSpec ws rm).room) hsize hmY hcY hframes (by rw [hlY]; omega) h4 h5) h1
  obtain ⟨mid, hmid⟩ := h.above
  have hfr : (U.setTop g).frames = (.java g :: mid) ++ below := by rw [State.frames_setTop' g h.top, hmid]; rfl
  obtain ⟨o, s₂, hsteps, -, hend, hq⟩ := Steps.callFree hM p X.admits X.cas X.clock (acts := []) hfr happ hPc trivial
  have hq' : vx_Q Qc XC mc ms free a (U.calling g mk a) o s₂ := hq
  rw [State.frames_setTop' g h.top] at hend
  obtain ⟨g₀, hg0⟩ := Option.isSome_iff_exists.mp h.top
  obtain ⟨r, hr⟩ := State.topJava?_eq_some.mp hg0
  have hr' : (({ U with heap := s₂.heap, slotsUsed := s₂.slotsUsed } : State).setVm s₂.vm).frames = .java g₀ :: r := hr
  rcases hq' with ⟨hqc, L, hfe, hL⟩ | ⟨q, rfl, E, ce, L, hx, hce, hcv, hcl, hW₂, hsm, hL⟩
  · obtain ⟨⟨v, rfl⟩, hW₂, e2, q2, q3, q4, q5, q6⟩ := id hfe
    have e3 : s₂ = ({ (U.calling g mk a).setFrames s₂.frames with heap := s₂.heap, slotsUsed := s₂.slotsUsed } : State).setVm s₂.vm := by
      have : s₂ = ({ s₂ with vm := (U.calling g mk a).vm } : State).setVm s₂.vm := rfl
      rw [e2] at this
      exact this
    obtain ⟨c₂, i₂, len₂, hc₂, hd₂, hf₂⟩ := hend
    have hW' : U.WarmedH s₂.vm := hW₂
    have hcc : c₂ = c := by
      have h1 : s₂.code? g.method = U.code? g.method := by
        rw [State.code?_eq, State.code?_eq, hW'.alike.method?]
      exact Option.some.inj (hc₂.symm.trans (h1.trans h.code))
    subst hcc
    have hlen : len₂ = len := by rw [hdg] at hd₂; cases hd₂; rfl
    subst hlen
    have hs₂ : s₂ = (({ U with heap := s₂.heap, slotsUsed := s₂.slotsUsed } : State).setVm s₂.vm).setTop { g with pc := g.pc + len₂, stack := v.toList ++ g.stack } := by
      refine e3.trans ?_
      rw [hf₂, State.calling_eq h.top, State.setFrames_setFrames, State.setTop_of_frames _ hr', hr]
      rfl
    have hsame : U.sameButNew ({ U with heap := s₂.heap, slotsUsed := s₂.slotsUsed } : State) L mc ms := by
      refine ⟨?_, q2, q3, q4, q5, q6⟩
      obtain ⟨t, ht, -⟩ := State.frames_cons hr
      show ({ U with heap := s₂.heap, slotsUsed := s₂.slotsUsed } : State) = { U.setFrames U.frames with heap := s₂.heap, slotsUsed := s₂.slotsUsed }
      rw [State.setFrames_self ht]
    subst hg
    refine Or.inl ⟨v, ⟨(({ U with heap := s₂.heap, slotsUsed := s₂.slotsUsed } : State).setVm s₂.vm), Ls ++ L, c0 + mc, s0 + ms⟩,
      ⟨X.admits, X.cas, X.clock, X.frames, X.room, X.hears, X.method, X.code, (X.here.setHeapUsed s₂.heap s₂.slotsUsed).setVm hW'.alike, X.tail, State.WarmedH.trans X.warmed hW', X.limits, X.bytes, X.same.trans (hsame.setVm s.vm)⟩,
      ⟨g, mk, s₂, L, rfl, rfl, hqc, rfl, hL, rfl, rfl⟩, ?_⟩
    show Steps p.tables e below _ ((({ U with heap := s₂.heap, slotsUsed := s₂.slotsUsed } : State).setVm s₂.vm).setTop { g with pc := g.pc + len₂, stack := v.toList ++ g.stack })
    rw [← hs₂]
    exact hsteps
  · obtain ⟨e2, q2, q3, q4, q5, q6⟩ := id hsm
    have e3 : s₂ = ({ (U.calling g mk a).setFrames s₂.frames with heap := s₂.heap, slotsUsed := s₂.slotsUsed } : State).setVm s₂.vm := by
      have : s₂ = ({ s₂ with vm := (U.calling g mk a).vm } : State).setVm s₂.vm := rfl
      rw [e2] at this
      exact this
    have hf₂ : s₂.frames = .throwing q :: .java g :: U.frames.tail := hend
    have hW' : U.WarmedH s₂.vm := hW₂
    have hs₂ : s₂ = ((({ U with heap := s₂.heap, slotsUsed := s₂.slotsUsed } : State).setVm s₂.vm).setTop g).pushFrame (.throwing q) := by
      refine e3.trans ?_
      rw [hf₂, State.calling_eq h.top, State.setFrames_setFrames, State.pushFrame, State.frames_setTop _ hr', State.setTop_of_frames _ hr', State.setFrames_setFrames, hr]
      rfl
    have hsame : U.sameButNew ({ U with heap := s₂.heap, slotsUsed := s₂.slotsUsed } : State) L mc ms := by
      refine ⟨?_, q2, q3, q4, q5, q6⟩
      obtain ⟨t, ht, -⟩ := State.frames_cons hr
      show ({ U with heap := s₂.heap, slotsUsed := s₂.slotsUsed } : State) = { U.setFrames U.frames with heap := s₂.heap, slotsUsed := s₂.slotsUsed }
      rw [State.setFrames_self ht]
    subst hg
    refine Or.inr ⟨q, ⟨(({ U with heap := s₂.heap, slotsUsed := s₂.slotsUsed } : State).setVm s₂.vm), Ls ++ L, c0 + mc, s0 + ms⟩,
      ⟨X.admits, X.cas, X.clock, X.frames, X.room, X.hears, X.method, X.code, (X.here.setHeapUsed s₂.heap s₂.slotsUsed).setVm hW'.alike, X.tail, State.WarmedH.trans X.warmed hW', X.limits, X.bytes, X.same.trans (hsame.setVm s.vm)⟩,
      ⟨g, mk, s₂, L, E, ce, rfl, rfl, hx, hce, hcv, hcl, rfl, hL, rfl, rfl⟩, ?_⟩
    show Steps p.tables e below _ (((({ U with heap := s₂.heap, slotsUsed := s₂.slotsUsed } : State).setVm s₂.vm).setTop g).pushFrame (.throwing q))
    rw [← hs₂]
    exact hsteps
end Payer
section Calls
variable {p : Program} {l : Launch} {e : Env} {R : Room} {s : State} {m : MethodId} {args : Array Value} {below : List Frame} {meth : Method} {c : Code} {T : State} {locs : List Loc} {cells slots : Nat}
theorem vx_callV (X : Stand p l e R s m args below meth c T locs cells slots) (hexec : p.tables.exec = Jvm.exec) {own C : String} {index : Nat} {y : MethodName} {bytes : ByteArray} {maxL : Nat} {ret : Option FieldType}
    (hown : s.vm.findClass own = some m.cls) (hlink : (Cond.methodLink own index y).before args s = true) (hinst : (Cond.instanceMethod y).before args s = true) (hsel : (Cond.selects C y y).before args s = true)
    (hcode : (Cond.code y bytes maxL ret).before args s = true) (hy : y.cls ≠ "java/lang/invoke/MethodHandle" ∧ y.cls ≠ "java/lang/invoke/VarHandle")
    {W9 : Nat} {Pre : Pt → Array Value → Prop} {Post : Pt → Array Value → Option Value → Pt → Prop} {PostX : Pt → Array Value → Addr → Pt → Prop} (hK : vx_Back l R p e below s args y 3 W9 Pre Post PostX)
    {b : Addr} {cellB : Cell} (hcell : T.heap[b]? = some cellB) (hobj : cellB.vm.isStatics = false) (hcls : s.vm.findClass C = some cellB.cls)
    {g : JFrame} (hg : g.method = m) (hsize : g.locals.size = c.maxLocals) {argsL rest : List Value} (hlen : ∀ sig, parseMethodDescriptor y.desc = some sig → argsL.length = sig.parameters.length)
    (hstack : g.stack = argsL.reverse ++ .ref b :: rest) (hW : 2 * g.monitorRoom + (rest.map fun v => v.category).sum ≤ W9) (hdg : decode c.code g.pc = .ok (.invokevirtual index, 3))
    (hpre : ∀ vm₁, s.WarmedH vm₁ → Pre ⟨T.setVm vm₁, locs, cells, slots⟩ (Value.ref b :: argsL).toArray) :
    (∃ (v : Option Value) (vm₁ : Vm) (B : Pt), s.WarmedH vm₁ ∧ Stand p l e R s m args below meth c B.U B.locs B.cells B.slots ∧ Post ⟨T.setVm vm₁, locs, cells, slots⟩ (Value.ref b :: argsL).toArray v B ∧
      ∀ target, Steps p.tables e below (B.U.setTop { g with pc := g.pc + 3, stack := v.toList ++ rest }) target → Steps p.tables e below (T.setTop g) target) ∨
    (∃ (q : Addr) (vm₁ : Vm) (B : Pt), s.WarmedH vm₁ ∧ Stand p l e R s m args below meth c B.U B.locs B.cells B.slots ∧ PostX ⟨T.setVm vm₁, locs, cells, slots⟩ (Value.ref b :: argsL).toArray q B ∧
      Steps p.tables e below (T.setTop g) ((B.U.setTop { g with stack := rest }).pushFrame (.throwing q))) := by
  obtain ⟨mk, methM, hnamed, hmethM, hstM, habM⟩ := Cond.instanceMethod_spec hinst
  obtain ⟨methM', cM, hmethM', -, -, -, -, -, -, hsigM⟩ := Cond.code_spec hnamed hcode
  cases hmethM.symm.trans hmethM'
  obtain ⟨c2, r2, m2, q1, q2, q3, q4, kP, hkP, hkPi⟩ := Cond.selects_spec hsel
  cases hcls.symm.trans q1
  cases (State.methodFound?_of_named hnamed hy).symm.trans q2
  cases hnamed.symm.trans q3
  have hselP : selectMethod e.platform s.vm cellB.cls mk = .method mk := by rw [Launch.admits_selectMethod X.admits]; exact q4
  obtain ⟨vm₁, X₁, hstep₁⟩ := X.invokevirtual hexec hown hlink hnamed hmethM hstM hkP hkPi hy (a := b) (cell := cellB) hcell
    (fun z h => by rw [h] at hobj; cases hobj) hselP hmethM habM hkP hkPi (g := g) hg (argsL := argsL) (rest := rest) (hlen _ hsigM) hstack hdg
  rcases hK m meth c ⟨T.setVm vm₁, locs, cells, slots⟩ { g with stack := rest } (.invokevirtual index) mk (Value.ref b :: argsL).toArray X₁ hg hsize hdg hW (X₁.named hnamed) (hpre vm₁ X₁.warmed) with ⟨v, B, X', hpost, hsteps⟩ | ⟨q, B, X', hpost, hsteps⟩
  · exact Or.inl ⟨v, vm₁, B, X₁.warmed, X', hpost, fun target h => hstep₁ _ fun acts => by rw [doInvoke_state]; exact hsteps.trans h⟩
  · exact Or.inr ⟨q, vm₁, B, X₁.warmed, X', hpost, hstep₁ _ fun acts => by rw [doInvoke_state]; exact hsteps⟩
theorem vx_callS (X : Stand p l e R s m args below meth c T locs cells slots) (hexec : p.tables.exec = Jvm.exec) {own : String} {index : Nat} {y : MethodName} {bytes : ByteArray} {maxL : Nat} {ret : Option FieldType}
    (hown : s.vm.findClass own = some m.cls) (hlink : (Cond.methodLink own index y).before args s = true) (hstat : (Cond.static y).before args s = true) (hinit : (Cond.initialized y.cls).before args s = true)
    (hcode : (Cond.code y bytes maxL ret).before args s = true) (hy : y.cls ≠ "java/lang/invoke/MethodHandle" ∧ y.cls ≠ "java/lang/invoke/VarHandle")
    {W9 : Nat} {Pre : Pt → Array Value → Prop} {Post : Pt → Array Value → Option Value → Pt → Prop} {PostX : Pt → Array Value → Addr → Pt → Prop} (hK : vx_Back l R p e below s args y 3 W9 Pre Post PostX)
    {g : JFrame} (hg : g.method = m) (hsize : g.locals.size = c.maxLocals) {argsL rest : List Value} (hlen : ∀ sig, parseMethodDescriptor y.desc = some sig → argsL.length = sig.parameters.length)
    (hstack : g.stack = argsL.reverse ++ rest) (hW : 2 * g.monitorRoom + (rest.map fun v => v.category).sum ≤ W9) (hdg : decode c.code g.pc = .ok (.invokestatic index, 3))
    (hpre : ∀ vm₁, s.WarmedH vm₁ → Pre ⟨T.setVm vm₁, locs, cells, slots⟩ argsL.toArray) :
    (∃ (v : Option Value) (vm₁ : Vm) (B : Pt), s.WarmedH vm₁ ∧ Stand p l e R s m args below meth c B.U B.locs B.cells B.slots ∧ Post ⟨T.setVm vm₁, locs, cells, slots⟩ argsL.toArray v B ∧
      ∀ target, Steps p.tables e below (B.U.setTop { g with pc := g.pc + 3, stack := v.toList ++ rest }) target → Steps p.tables e below (T.setTop g) target) ∨
    (∃ (q : Addr) (vm₁ : Vm) (B : Pt), s.WarmedH vm₁ ∧ Stand p l e R s m args below meth c B.U B.locs B.cells B.slots ∧ PostX ⟨T.setVm vm₁, locs, cells, slots⟩ argsL.toArray q B ∧
      Steps p.tables e below (T.setTop g) ((B.U.setTop { g with stack := rest }).pushFrame (.throwing q))) := by
  obtain ⟨mk, hnamed⟩ := Cond.code_named hcode
  obtain ⟨methM, cM, hmethM, -, -, -, -, -, -, hsigM⟩ := Cond.code_spec hnamed hcode
  have hstatic : methM.isStatic = true := Cond.static_spec hnamed hmethM hstat
  obtain ⟨kP, hkP, -⟩ := className_of_methodNamed hnamed
  have hinitP : kP.init = .initialized := Cond.initialized_spec (findClass_of_methodNamed hnamed) hkP hinit
  obtain ⟨vm₁, X₁, hstep₁⟩ := X.invokestatic hexec hown hlink hnamed hmethM hstatic hkP hinitP hy (g := g) hg (argsL := argsL) (rest := rest) (hlen _ hsigM) hstack hdg
  rcases hK m meth c ⟨T.setVm vm₁, locs, cells, slots⟩ { g with stack := rest } (.invokestatic index) mk argsL.toArray X₁ hg hsize hdg hW (X₁.named hnamed) (hpre vm₁ X₁.warmed) with ⟨v, B, X', hpost, hsteps⟩ | ⟨q, B, X', hpost, hsteps⟩
  · exact Or.inl ⟨v, vm₁, B, X₁.warmed, X', hpost, fun target h => hstep₁ _ fun acts => by rw [doInvoke_state]; exact hsteps.trans h⟩
  · exact Or.inr ⟨q, vm₁, B, X₁.warmed, X', hpost, hstep₁ _ fun acts => by rw [doInvoke_state]; exact hsteps⟩
end Calls
theorem vx_cls {s : State} {T : State} {vm₁ : Vm} {E : String} {k : ClassId} (hW : s.WarmedH vm₁) (h : (T.setVm vm₁).vm.findClass E = some k) : s.vm.findClass E = some k := by
  have h1 : vm₁.findClass E = some k := h
  rw [hW.alike.findClass] at h1
  exact h1
/-- the method's frame g, with q thrown over it -/
def vx_W (p : Program) (l : Launch) (e : Env) (R : Room) (s : State) (m : MethodId) (args : Array Value) (below : List Frame) (meth : Method) (c : Code) (H : Heap) (locs : List Loc) (cells slots : Nat) (Q : State → Prop) (g : JFrame) (q : Addr) : Prop :=
  ∀ T : State, T.heap = H → Stand p l e R s m args below meth c T locs cells slots → ∃ t, Steps p.tables e below ((T.setTop g).pushFrame (.throwing q)) t ∧ Q t
def vx_Run (p : Program) (l : Launch) (e : Env) (R : Room) (s : State) (m : MethodId) (args : Array Value) (below : List Frame) (meth : Method) (c : Code) (H : Heap) (locs : List Loc) (cells slots mc ms : Nat) (g : JFrame) (rest : List Value) (Qa : State → Outcome → State → Prop) (XC : String → State → State → Prop) (free : Addr → Prop) : Prop :=
  ∀ T : State, T.heap = H → Stand p l e R s m args below meth c T locs cells slots →
    (∃ (v : Option Value) (st₀ t T' : State) (L : List Loc), st₀.heap = H ∧ Stand p l e R s m args below meth c T' (locs ++ L) (cells + mc) (slots + ms) ∧ (∀ q ∈ L, free q.base) ∧ T'.heap = t.heap ∧ T'.vm = t.vm ∧ Qa st₀ (.returned v) t ∧
      Goes p e below T g T' { g with pc := g.pc + 3, stack := v.toList ++ rest }) ∨
    (∃ (q : Addr) (st₀ t T' : State) (L : List Loc) (E : String) (ce : Cell), st₀.heap = H ∧ Stand p l e R s m args below meth c T' (locs ++ L) (cells + mc) (slots + ms) ∧ (∀ z ∈ L, free z.base) ∧ T'.heap = t.heap ∧ T'.vm = t.vm ∧ XC E st₀ t ∧ t.heap[q]? = some ce ∧ ce.vm = .none ∧ s.vm.findClass E = some ce.cls ∧
      Steps p.tables e below (T.setTop g) ((T'.setTop { g with stack := rest }).pushFrame (.throwing q)))
def vx_X {S : Type} (px : S → Prop) (B : String → S → State → Prop) (A : Nat → Prop) : String → State → State → Prop := fun E st t => ∃ u : S, px u ∧ B E u t ∧ va_F A st t
section Runs
variable {p : Program} {l : Launch} {e : Env} {R : Room} {s : State} {m : MethodId} {args : Array Value} {below : List Frame} {meth : Method} {c : Code} {H : Heap} {locs : List Loc} {cells slots : Nat}
variable {y : MethodName} {bytes cc : ByteArray} {maxL nL mc ms n index : Nat} {ret : Option FieldType} {ws : List Cond} {rm : Room} {Pc : Array Value → State → Prop} {Qc : Array Value → State → Outcome → State → Prop} {XC : String → State → State → Prop} {free : Addr → Prop} {Ts : List Cond} {own C : String} {b : Addr} {As rest : List Value} {g : JFrame}
theorem vx_callBack (cb : CallB R s args own index y bytes maxL ret ws rm mc ms n) (hM : vx_Met l y ws rm Pc Qc XC mc ms free) (hbl : FrameBlind Pc) : vx_Back l R p e below s args y 3 8 (PreOf R mc ms Pc) (PostOf Qc mc ms free) (vx_Post XC mc ms free) := by
  obtain ⟨hrc, hrs, hfr, hlo, hws, hcw, -, hini, -⟩ := cb
  exact vx_back (bytes := bytes) (maxL := maxL) (ret := ret) hM hbl hrc hrs hfr hlo hws hcw (fun a' U hW => word_at hW (Or.inl (by first | rfl | simp [Cond.onTables, Cond.keeps, Cond.steady])) hini)
theorem vx_runV (S : CallFix p m c cc nL s args Ts own) (hM : vx_Met l y ws rm Pc Qc XC mc ms free) (cw : CallW R s args own C index y bytes maxL ret ws rm mc ms n) (hp : PreV s H C b Pc As)
    (hg : g.method = m) (hn : As.length = n) (hsize : g.locals.size = nL) (hstack : g.stack = As.reverse ++ .ref b :: rest) (hW : 2 * g.monitorRoom + (rest.map fun v => v.category).sum ≤ 8) (hdg : decode cc g.pc = .ok (.invokevirtual index, 3)) (hf : cells + mc ≤ R.cells ∧ slots + ms ≤ R.slots) :
    vx_Run p l e R s m args below meth c H locs cells slots mc ms g rest (Qc (Value.ref b :: As).toArray) XC free := by
  have hK : vx_Back l R p e below s args y 3 8 (PreOf R mc ms Pc) (PostOf Qc mc ms free) (vx_Post XC mc ms free) := vx_callBack cw.1 hM hp.1
  obtain ⟨⟨-, -, -, -, -, -, hcode, -, hy, hlen, hl⟩, hin, hse⟩ := cw
  obtain ⟨hx, hb, hml, ho, -⟩ := S
  obtain ⟨-, ⟨cellB, hcB, hoB, hclB⟩, hPc⟩ := hp
  intro T hT X
  rcases vx_callV X hx (C := C) (bytes := bytes) (maxL := maxL) (ret := ret) ho hl hin hse hcode hy hK (by rw [hT]; exact hcB) hoB hclB hg (hsize.trans hml.symm) (argsL := As) (rest := rest) (fun sig h => hn.trans (hlen sig h)) hstack hW (by rw [hb]; exact hdg)
    (fun vm₁ hW₁ => ⟨hf.1, hf.2, hPc (T.setVm vm₁) hT hW₁⟩) with ⟨v, vm₁, ⟨U', l2, c2, s2⟩, hW₁, X', ⟨g', mk, t, L, e1, e2, hq, h1, hL, h2, h3⟩, st⟩ | ⟨q, vm₁, ⟨U', l2, c2, s2⟩, hW₁, X', ⟨g', mk, t, L, E, ce, e1, e2, hq, hce, hcv, hcl, h1, hL, h2, h3⟩, st⟩
  · dsimp only [Pt.U, Pt.locs, Pt.cells, Pt.slots] at X' e1 e2 h1 h2 h3 st
    subst h1; subst h2; subst h3
    exact Or.inl ⟨v, (T.setVm vm₁).calling g' mk (Value.ref b :: As).toArray, t, U', L, hT, X', hL, e1, e2, hq, st⟩
  · dsimp only [Pt.U, Pt.locs, Pt.cells, Pt.slots] at X' e1 e2 h1 h2 h3 st hcl
    subst h1; subst h2; subst h3
    exact Or.inr ⟨q, (T.setVm vm₁).calling g' mk (Value.ref b :: As).toArray, t, U', L, E, ce, hT, X', hL, e1, e2, hq, hce, hcv, vx_cls hW₁ hcl, st⟩
theorem vx_runS (S : CallFix p m c cc nL s args Ts own) (hM : vx_Met l y ws rm Pc Qc XC mc ms free) (cw : CallB R s args own index y bytes maxL ret ws rm mc ms n ∧ (Cond.static y).before args s = true) (hp : PreS s H Pc As)
    (hg : g.method = m) (hn : As.length = n) (hsize : g.locals.size = nL) (hstack : g.stack = As.reverse ++ rest) (hW : 2 * g.monitorRoom + (rest.map fun v => v.category).sum ≤ 8) (hdg : decode cc g.pc = .ok (.invokestatic index, 3)) (hf : cells + mc ≤ R.cells ∧ slots + ms ≤ R.slots) :
    vx_Run p l e R s m args below meth c H locs cells slots mc ms g rest (Qc As.toArray) XC free := by
  have hK : vx_Back l R p e below s args y 3 8 (PreOf R mc ms Pc) (PostOf Qc mc ms free) (vx_Post XC mc ms free) := vx_callBack cw.1 hM hp.1
  obtain ⟨⟨-, -, -, -, -, -, hcode, hini, hy, hlen, hl⟩, hstt⟩ := cw
  obtain ⟨hx, hb, hml, ho, -⟩ := S
  intro T hT X
  rcases vx_callS X hx (bytes := bytes) (maxL := maxL) (ret := ret) ho hl hstt hini hcode hy hK hg (hsize.trans hml.symm) (argsL := As) (rest := rest) (fun sig h => hn.trans (hlen sig h)) hstack hW (by rw [hb]; exact hdg)
    (fun vm₁ hW₁ => ⟨hf.1, hf.2, hp.2 (T.setVm vm₁) hT hW₁⟩) with ⟨v, vm₁, ⟨U', l2, c2, s2⟩, hW₁, X', ⟨g', mk, t, L, e1, e2, hq, h1, hL, h2, h3⟩, st⟩ | ⟨q, vm₁, ⟨U', l2, c2, s2⟩, hW₁, X', ⟨g', mk, t, L, E, ce, e1, e2, hq, hce, hcv, hcl, h1, hL, h2, h3⟩, st⟩
  · dsimp only [Pt.U, Pt.locs, Pt.cells, Pt.slots] at X' e1 e2 h1 h2 h3 st
    subst h1; subst h2; subst h3
    exact Or.inl ⟨v, (T.setVm vm₁).calling g' mk As.toArray, t, U', L, hT, X', hL, e1, e2, hq, st⟩
  · dsimp only [Pt.U, Pt.locs, Pt.cells, Pt.slots] at X' e1 e2 h1 h2 h3 st hcl
    subst h1; subst h2; subst h3
    exact Or.inr ⟨q, (T.setVm vm₁).calling g' mk As.toArray, t, U', L, E, ce, hT, X', hL, e1, e2, hq, hce, hcv, vx_cls hW₁ hcl, st⟩
end Runs
section Rows
variable {p : Program} {l : Launch} {e : Env} {R : Room} {s : State} {m : MethodId} {args : Array Value} {below : List Frame} {meth : Method} {c : Code} {H : Heap} {locs : List Loc} {cells slots : Nat} {Q : State → Prop}
variable {mc ms : Nat} {free : Addr → Prop} {A0 A1 : Nat → Prop} {H0 : Heap} {a : Array Value} {pc : Nat} {ls : Array Slot} {st0 rest : List Value}
theorem vx_keep {st₀ t T' : State} {L : List Loc} (h0 : st₀.heap = H) (e1 : T'.heap = t.heap) (hS : va_S A0 H0 H locs) (hA : ∀ q, q < H.size → A1 q → A0 q) (hf : ∀ q, free q → A0 q) (hL : ∀ q ∈ L, free q.base) (hF : va_F A1 st₀ t) :
    H.size ≤ T'.heap.size ∧ (∀ q : Nat, q < H.size → ¬ A1 q → T'.heap[q]? = H[q]?) ∧ va_S A0 H0 T'.heap (locs ++ L) := by
  obtain ⟨hz, hk⟩ := hF
  rw [h0] at hz hk
  exact ⟨by rw [e1]; exact hz, fun q h1 h2 => by rw [e1]; exact hk q h1 h2,
    ⟨Nat.le_trans hS.1 (by rw [e1]; exact hz), fun q h1 h2 => by rw [e1, hk q (Nat.lt_of_lt_of_le h1 hS.1) (fun z => h2 (hA q (Nat.lt_of_lt_of_le h1 hS.1) z))]; exact hS.2.1 q h1 h2, fun q hq => by
      rcases List.mem_append.mp hq with h | h
      · exact hS.2.2 q h
      · exact hf _ (hL q h)⟩⟩
theorem vx_calli {S SX : Type} {post : Int32 → S → Prop} {px : SX → Prop} {B : S → State → Prop} {BX : String → SX → State → Prop} {AX : Nat → Prop} (hr : vx_Run p l e R s m args below meth c H locs cells slots mc ms (F0 m pc ls st0) rest (va_Qi post B A1 a) (vx_X px BX AX) free) (hS : va_S A0 H0 H locs) (hA : ∀ q, q < H.size → A1 q → A0 q) (hf : ∀ q, free q → A0 q) (hAX : ∀ q, q < H.size → AX q → A0 q)
    (kx : ∀ (E : String) (ce : Cell) (q9 : Addr) (u : SX) (t : State) (H1 : Heap) (locs1 : List Loc), t.heap = H1 → s.vm.Alike t.vm → px u → BX E u t → H.size ≤ H1.size → (∀ q : Nat, q < H.size → ¬ AX q → H1[q]? = H[q]?) → va_S A0 H0 H1 locs1 → H1[q9]? = some ce → ce.vm = .none → s.vm.findClass E = some ce.cls → vx_W p l e R s m args below meth c H1 locs1 (cells + mc) (slots + ms) Q (F0 m pc ls rest) q9)
    (kk : ∀ (r : Int32) (u : S) (t : State) (H1 : Heap) (locs1 : List Loc), t.heap = H1 → s.vm.Alike t.vm → post r u → B u t → H.size ≤ H1.size → (∀ q : Nat, q < H.size → ¬ A1 q → H1[q]? = H[q]?) → va_S A0 H0 H1 locs1 → W p l e R s m args below meth c H1 locs1 (cells + mc) (slots + ms) Q (F0 m (pc + 3) ls (.int r :: rest))) : W p l e R s m args below meth c H locs cells slots Q (F0 m pc ls st0) := by
  intro T hT X
  rcases hr T hT X with ⟨v, st₀, t, T', L, h0, X', hL, e1, e2, ⟨⟨r, u, hv, hp, hb⟩, hF⟩, st⟩ | ⟨q, st₀, t, T', L, E, ce, h0, X', hL, e1, e2, ⟨u, hp, hb, hF⟩, hce, hcv, hcl, st⟩
  · cases hv
    obtain ⟨k1, k2, k3⟩ := vx_keep h0 e1 hS hA hf hL hF
    obtain ⟨t2, a1, b1⟩ := kk r u t T'.heap (locs ++ L) e1.symm (by rw [← e2]; exact X'.warmed.alike) hp hb k1 k2 k3 T' rfl X'
    exact ⟨t2, st t2 a1, b1⟩
  · obtain ⟨k1, k2, k3⟩ := vx_keep h0 e1 hS hAX hf hL hF
    obtain ⟨t2, a1, b1⟩ := kx E ce q u t T'.heap (locs ++ L) e1.symm (by rw [← e2]; exact X'.warmed.alike) hp hb k1 k2 k3 (by rw [e1]; exact hce) hcv hcl T' rfl X'
    exact ⟨t2, st.trans a1, b1⟩
theorem vx_calll {S SX : Type} {post : Int64 → S → Prop} {px : SX → Prop} {B : S → State → Prop} {BX : String → SX → State → Prop} {AX : Nat → Prop} (hr : vx_Run p l e R s m args below meth c H locs cells slots mc ms (F0 m pc ls st0) rest (va_Ql post B A1 a) (vx_X px BX AX) free) (hS : va_S A0 H0 H locs) (hA : ∀ q, q < H.size → A1 q → A0 q) (hf : ∀ q, free q → A0 q) (hAX : ∀ q, q < H.size → AX q → A0 q)
    (kx : ∀ (E : String) (ce : Cell) (q9 : Addr) (u : SX) (t : State) (H1 : Heap) (locs1 : List Loc), t.heap = H1 → s.vm.Alike t.vm → px u → BX E u t → H.size ≤ H1.size → (∀ q : Nat, q < H.size → ¬ AX q → H1[q]? = H[q]?) → va_S A0 H0 H1 locs1 → H1[q9]? = some ce → ce.vm = .none → s.vm.findClass E = some ce.cls → vx_W p l e R s m args below meth c H1 locs1 (cells + mc) (slots + ms) Q (F0 m pc ls rest) q9)
    (kk : ∀ (r : Int64) (u : S) (t : State) (H1 : Heap) (locs1 : List Loc), t.heap = H1 → s.vm.Alike t.vm → post r u → B u t → H.size ≤ H1.size → (∀ q : Nat, q < H.size → ¬ A1 q → H1[q]? = H[q]?) → va_S A0 H0 H1 locs1 → W p l e R s m args below meth c H1 locs1 (cells + mc) (slots + ms) Q (F0 m (pc + 3) ls (.long r :: rest))) : W p l e R s m args below meth c H locs cells slots Q (F0 m pc ls st0) := by
  intro T hT X
  rcases hr T hT X with ⟨v, st₀, t, T', L, h0, X', hL, e1, e2, ⟨⟨r, u, hv, hp, hb⟩, hF⟩, st⟩ | ⟨q, st₀, t, T', L, E, ce, h0, X', hL, e1, e2, ⟨u, hp, hb, hF⟩, hce, hcv, hcl, st⟩
  · cases hv
    obtain ⟨k1, k2, k3⟩ := vx_keep h0 e1 hS hA hf hL hF
    obtain ⟨t2, a1, b1⟩ := kk r u t T'.heap (locs ++ L) e1.symm (by rw [← e2]; exact X'.warmed.alike) hp hb k1 k2 k3 T' rfl X'
    exact ⟨t2, st t2 a1, b1⟩
  · obtain ⟨k1, k2, k3⟩ := vx_keep h0 e1 hS hAX hf hL hF
    obtain ⟨t2, a1, b1⟩ := kx E ce q u t T'.heap (locs ++ L) e1.symm (by rw [← e2]; exact X'.warmed.alike) hp hb k1 k2 k3 (by rw [e1]; exact hce) hcv hcl T' rfl X'
    exact ⟨t2, st.trans a1, b1⟩
theorem vx_callf {S SX : Type} {post : UInt32 → S → Prop} {px : SX → Prop} {B : S → State → Prop} {BX : String → SX → State → Prop} {AX : Nat → Prop} (hr : vx_Run p l e R s m args below meth c H locs cells slots mc ms (F0 m pc ls st0) rest (va_Qf post B A1 a) (vx_X px BX AX) free) (hS : va_S A0 H0 H locs) (hA : ∀ q, q < H.size → A1 q → A0 q) (hf : ∀ q, free q → A0 q) (hAX : ∀ q, q < H.size → AX q → A0 q)
    (kx : ∀ (E : String) (ce : Cell) (q9 : Addr) (u : SX) (t : State) (H1 : Heap) (locs1 : List Loc), t.heap = H1 → s.vm.Alike t.vm → px u → BX E u t → H.size ≤ H1.size → (∀ q : Nat, q < H.size → ¬ AX q → H1[q]? = H[q]?) → va_S A0 H0 H1 locs1 → H1[q9]? = some ce → ce.vm = .none → s.vm.findClass E = some ce.cls → vx_W p l e R s m args below meth c H1 locs1 (cells + mc) (slots + ms) Q (F0 m pc ls rest) q9)
    (kk : ∀ (r : UInt32) (u : S) (t : State) (H1 : Heap) (locs1 : List Loc), t.heap = H1 → s.vm.Alike t.vm → post r u → B u t → H.size ≤ H1.size → (∀ q : Nat, q < H.size → ¬ A1 q → H1[q]? = H[q]?) → va_S A0 H0 H1 locs1 → W p l e R s m args below meth c H1 locs1 (cells + mc) (slots + ms) Q (F0 m (pc + 3) ls (.float r :: rest))) : W p l e R s m args below meth c H locs cells slots Q (F0 m pc ls st0) := by
  intro T hT X
  rcases hr T hT X with ⟨v, st₀, t, T', L, h0, X', hL, e1, e2, ⟨⟨r, u, hv, hp, hb⟩, hF⟩, st⟩ | ⟨q, st₀, t, T', L, E, ce, h0, X', hL, e1, e2, ⟨u, hp, hb, hF⟩, hce, hcv, hcl, st⟩
  · cases hv
    obtain ⟨k1, k2, k3⟩ := vx_keep h0 e1 hS hA hf hL hF
    obtain ⟨t2, a1, b1⟩ := kk r u t T'.heap (locs ++ L) e1.symm (by rw [← e2]; exact X'.warmed.alike) hp hb k1 k2 k3 T' rfl X'
    exact ⟨t2, st t2 a1, b1⟩
  · obtain ⟨k1, k2, k3⟩ := vx_keep h0 e1 hS hAX hf hL hF
    obtain ⟨t2, a1, b1⟩ := kx E ce q u t T'.heap (locs ++ L) e1.symm (by rw [← e2]; exact X'.warmed.alike) hp hb k1 k2 k3 (by rw [e1]; exact hce) hcv hcl T' rfl X'
    exact ⟨t2, st.trans a1, b1⟩
theorem vx_calld {S SX : Type} {post : UInt64 → S → Prop} {px : SX → Prop} {B : S → State → Prop} {BX : String → SX → State → Prop} {AX : Nat → Prop} (hr : vx_Run p l e R s m args below meth c H locs cells slots mc ms (F0 m pc ls st0) rest (va_Qd post B A1 a) (vx_X px BX AX) free) (hS : va_S A0 H0 H locs) (hA : ∀ q, q < H.size → A1 q → A0 q) (hf : ∀ q, free q → A0 q) (hAX : ∀ q, q < H.size → AX q → A0 q)
    (kx : ∀ (E : String) (ce : Cell) (q9 : Addr) (u : SX) (t : State) (H1 : Heap) (locs1 : List Loc), t.heap = H1 → s.vm.Alike t.vm → px u → BX E u t → H.size ≤ H1.size → (∀ q : Nat, q < H.size → ¬ AX q → H1[q]? = H[q]?) → va_S A0 H0 H1 locs1 → H1[q9]? = some ce → ce.vm = .none → s.vm.findClass E = some ce.cls → vx_W p l e R s m args below meth c H1 locs1 (cells + mc) (slots + ms) Q (F0 m pc ls rest) q9)
    (kk : ∀ (r : UInt64) (u : S) (t : State) (H1 : Heap) (locs1 : List Loc), t.heap = H1 → s.vm.Alike t.vm → post r u → B u t → H.size ≤ H1.size → (∀ q : Nat, q < H.size → ¬ A1 q → H1[q]? = H[q]?) → va_S A0 H0 H1 locs1 → W p l e R s m args below meth c H1 locs1 (cells + mc) (slots + ms) Q (F0 m (pc + 3) ls (.double r :: rest))) : W p l e R s m args below meth c H locs cells slots Q (F0 m pc ls st0) := by
  intro T hT X
  rcases hr T hT X with ⟨v, st₀, t, T', L, h0, X', hL, e1, e2, ⟨⟨r, u, hv, hp, hb⟩, hF⟩, st⟩ | ⟨q, st₀, t, T', L, E, ce, h0, X', hL, e1, e2, ⟨u, hp, hb, hF⟩, hce, hcv, hcl, st⟩
  · cases hv
    obtain ⟨k1, k2, k3⟩ := vx_keep h0 e1 hS hA hf hL hF
    obtain ⟨t2, a1, b1⟩ := kk r u t T'.heap (locs ++ L) e1.symm (by rw [← e2]; exact X'.warmed.alike) hp hb k1 k2 k3 T' rfl X'
    exact ⟨t2, st t2 a1, b1⟩
  · obtain ⟨k1, k2, k3⟩ := vx_keep h0 e1 hS hAX hf hL hF
    obtain ⟨t2, a1, b1⟩ := kx E ce q u t T'.heap (locs ++ L) e1.symm (by rw [← e2]; exact X'.warmed.alike) hp hb k1 k2 k3 (by rw [e1]; exact hce) hcv hcl T' rfl X'
    exact ⟨t2, st.trans a1, b1⟩
theorem vx_callv {S SX : Type} {post : S → Prop} {px : SX → Prop} {B : S → State → Prop} {BX : String → SX → State → Prop} {AX : Nat → Prop} (hr : vx_Run p l e R s m args below meth c H locs cells slots mc ms (F0 m pc ls st0) rest (va_Qv post B A1 a) (vx_X px BX AX) free) (hS : va_S A0 H0 H locs) (hA : ∀ q, q < H.size → A1 q → A0 q) (hf : ∀ q, free q → A0 q) (hAX : ∀ q, q < H.size → AX q → A0 q)
    (kx : ∀ (E : String) (ce : Cell) (q9 : Addr) (u : SX) (t : State) (H1 : Heap) (locs1 : List Loc), t.heap = H1 → s.vm.Alike t.vm → px u → BX E u t → H.size ≤ H1.size → (∀ q : Nat, q < H.size → ¬ AX q → H1[q]? = H[q]?) → va_S A0 H0 H1 locs1 → H1[q9]? = some ce → ce.vm = .none → s.vm.findClass E = some ce.cls → vx_W p l e R s m args below meth c H1 locs1 (cells + mc) (slots + ms) Q (F0 m pc ls rest) q9)
    (kk : ∀ (u : S) (t : State) (H1 : Heap) (locs1 : List Loc), t.heap = H1 → s.vm.Alike t.vm → post u → B u t → H.size ≤ H1.size → (∀ q : Nat, q < H.size → ¬ A1 q → H1[q]? = H[q]?) → va_S A0 H0 H1 locs1 → W p l e R s m args below meth c H1 locs1 (cells + mc) (slots + ms) Q (F0 m (pc + 3) ls (rest))) : W p l e R s m args below meth c H locs cells slots Q (F0 m pc ls st0) := by
  intro T hT X
  rcases hr T hT X with ⟨v, st₀, t, T', L, h0, X', hL, e1, e2, ⟨⟨u, hv, hp, hb⟩, hF⟩, st⟩ | ⟨q, st₀, t, T', L, E, ce, h0, X', hL, e1, e2, ⟨u, hp, hb, hF⟩, hce, hcv, hcl, st⟩
  · cases hv
    obtain ⟨k1, k2, k3⟩ := vx_keep h0 e1 hS hA hf hL hF
    obtain ⟨t2, a1, b1⟩ := kk u t T'.heap (locs ++ L) e1.symm (by rw [← e2]; exact X'.warmed.alike) hp hb k1 k2 k3 T' rfl X'
    exact ⟨t2, st t2 a1, b1⟩
  · obtain ⟨k1, k2, k3⟩ := vx_keep h0 e1 hS hAX hf hL hF
    obtain ⟨t2, a1, b1⟩ := kx E ce q u t T'.heap (locs ++ L) e1.symm (by rw [← e2]; exact X'.warmed.alike) hp hb k1 k2 k3 (by rw [e1]; exact hce) hcv hcl T' rfl X'
    exact ⟨t2, st.trans a1, b1⟩
/-- caught by the row x of this method's table; the rows ahead don't take it -/
theorem vx_catch {own name : String} {E : String} {ce : Cell} {q : Addr} (hown : s.vm.findClass own = some m.cls) (pre : List ExceptionTableEntry) (x : ExceptionTableEntry) (suf : List ExceptionTableEntry) (hsplit : c.exceptionTable.toList = pre ++ x :: suf)
    (hpass : ∀ z ∈ pre, covers z pc = false ∨ (z.catchType ≠ 0 ∧ ∃ nm : String, (Cond.classLink own z.catchType nm).before args s = true ∧ va_Nc E nm s)) (hx : covers x pc = true) (h0 : x.catchType ≠ 0)
    (hlink : (Cond.classLink own x.catchType name).before args s = true) (hcast : (Cond.castable E name).before args s = true) (hcell : H[q]? = some ce) (hv : ce.vm = .none) (hcl : s.vm.findClass E = some ce.cls)
    (kk : W p l e R s m args below meth c H locs cells slots Q (F0 m x.handlerPc ls [.ref q])) : vx_W p l e R s m args below meth c H locs cells slots Q (F0 m pc ls rest) q := by
  intro T hT X
  have hpl : e.platform.magicAccessors = ({} : Platform).magicAccessors := by rw [X.admits.platform]
  obtain ⟨c3, c4, hc3, hc4, hasg⟩ := Cond.castable_spec hcast
  cases Option.some.inj (hc3.symm.trans hcl)
  obtain ⟨c5, hc5, hcl5⟩ := Cond.classLink_spec hown hlink e.platform hpl
  cases Option.some.inj (hc4.symm.trans hc5)
  obtain ⟨vm', X', st⟩ := X.thenCaughtThrough q (g := F0 m pc ls rest) rfl (Steps.refl _) (by rw [hT]; exact hcell) (by rw [hv]; rfl) (by obtain ⟨k9, h9, -⟩ := Vm.findClass_spec hcl; exact ⟨k9, h9⟩) pre x suf hsplit
    (fun z hz => by
      rcases hpass z hz with h | ⟨hz0, nm, hl1, hn1⟩
      · exact Or.inl h
      · obtain ⟨c6, hc6, hcl6⟩ := Cond.classLink_spec hown hl1 e.platform hpl
        obtain ⟨a8, b8, h1, h2, h3⟩ := hn1
        cases Option.some.inj (h1.symm.trans hcl)
        cases Option.some.inj (h2.symm.trans hc6)
        exact Or.inr ⟨hz0, _, hcl6, h3⟩) hx (Or.inr ⟨h0, c4, hcl5, hasg⟩)
  obtain ⟨t, a1, b1⟩ := kk (T.setVm vm') hT X'
  exact ⟨t, st.trans a1, b1⟩
end Rows
section Ends
variable {p : Program} {l : Launch} {e : Env} {R : Room} {s : State} {m : MethodId} {args : Array Value} {below : List Frame} {meth : Method} {c : Code} {H : Heap} {locs : List Loc} {cells slots : Nat} {Q : State → Prop}
variable {mc ms : Nat} {free : Addr → Prop} {A0 A1 : Nat → Prop} {H0 : Heap} {a : Array Value} {ls : Array Slot} {st0 rest : List Value}
variable {Qc : Array Value → State → Outcome → State → Prop} {XC : String → State → State → Prop}
/-- what a body that may throw owes at its end -/
def vx_MQ (below : List Frame) (Qc : Array Value → State → Outcome → State → Prop) (XC : String → State → State → Prop) (a : Array Value) (s : State) (mc ms : Nat) (free : Addr → Prop) : State → Prop := fun t =>
  ∃ o, t.status = .running ∧ Ended t below o ∧ vx_Q Qc XC mc ms free a s o t
theorem vx_ret {g : JFrame} {mc ms : Nat} (k : W p l e R s m args below meth c H locs cells slots (MQ below Qc args s mc ms free) g) : W p l e R s m args below meth c H locs cells slots (vx_MQ below Qc XC args s mc ms free) g := by
  intro T hT X
  obtain ⟨t, a1, o, b1, b2, b3, b4⟩ := k T hT X
  exact ⟨t, a1, o, b1, b2, Or.inl ⟨b3, b4⟩⟩
/-- not caught here: it goes on to the caller -/
theorem vx_widen {g : JFrame} {q : Addr} {k n : Nat} (h1 : cells ≤ k) (h2 : slots ≤ n) (kk : vx_W p l e R s m args below meth c H locs k n Q g q) : vx_W p l e R s m args below meth c H locs cells slots Q g q := fun T hT X => kk T hT (stand_widen X h1 h2)
theorem vx_out {pc : Nat} {E : String} {ce : Cell} {q : Addr} {mc ms : Nat} (hout : ∀ x ∈ c.exceptionTable.toList, covers x pc = false) (hlocks : meth.locks = false) (hcell : H[q]? = some ce) (hv : ce.vm = .none) (hcl : s.vm.findClass E = some ce.cls)
    (hx : ∀ t : State, t.heap = H → s.vm.Alike t.vm → XC E s t) (hf : ∀ z ∈ locs, free z.base) (hc : cells ≤ mc) (hs : slots ≤ ms) :
    vx_W p l e R s m args below meth c H locs cells slots (vx_MQ below Qc XC args s mc ms free) (F0 m pc ls rest) q := by
  intro T hT X
  obtain ⟨st1, hrun, hend, hW, hsm⟩ := X.leaveThrown q (g := F0 m pc ls rest) rfl rfl rfl hout hlocks
  have hcell9 : (T.setFrames (.throwing q :: below)).heap[q]? = some ce := by
    show T.heap[q]? = some ce
    rw [hT]; exact hcell
  exact ⟨_, st1, .threw q, hrun, hend, Or.inr ⟨q, rfl, E, ce, locs, hx _ hT hW.alike, hcell9, hv, hcl, hW, hsm.mono hc hs, hf⟩⟩
theorem vx_frame {U : State} {k n : Nat} (h : s.sameButNew ({ U with vm := s.vm } : State) locs k n) : s.heap.size ≤ U.heap.size ∧ ∀ q : Nat, q < s.heap.size → (∀ z ∈ locs, z.base ≠ q) → U.heap[q]? = s.heap[q]? := by
  obtain ⟨-, h2, -, -, -, h6⟩ := h
  refine ⟨h2, fun q hq hz => ?_⟩
  obtain ⟨c9, e1, e2, e3, e4⟩ := h6 q _ (Array.getElem?_eq_getElem hq)
  have hs : c9.slots = (s.heap[q]).slots := Array.ext_getElem? fun i => e4 i fun hm => hz _ hm rfl
  have h9 : c9 = s.heap[q] := by
    rw [hs] at e2
    exact e2
  have e5 : U.heap[q]? = some c9 := e1
  rw [e5, h9, Array.getElem?_eq_getElem hq]
/-- the words of a throw but the four that speak of the heap -/
def vx_no (w : Cond) : Bool := decide (w ≠ .isRef (.static Bundle.tN "UNASSIGNED_STACK" Bundle.steD)) && decide (w ≠ .isRef (.static Bundle.tN "SUPPRESSED_SENTINEL" Bundle.listD)) && decide (w ≠ .laysStatic Bundle.tN "UNASSIGNED_STACK" Bundle.steD) && decide (w ≠ .laysStatic Bundle.tN "SUPPRESSED_SENTINEL" Bundle.listD)
def vx_at0 (own : String) (ic : Nat) (X : String) (names : List String) : List Cond := (Bundle.ownAtoms0 own ic X names).filter vx_no
def vx_atS (own : String) (ic : Nat) (X : String) (names : List String) : List Cond := (Bundle.ownAtoms own ic X names).filter vx_no
/-- a word that the tables alone decide, or a good one -/
def vx_ot (w : Cond) : Bool := w.onTables || goodWord w
theorem vx_ot_at {args a' : Array Value} {s U : State} {w : Cond} (hW : s.WarmedH U.vm) (hvm : s.vm = U.vm) (hg : vx_ot w = true) (h : w.before args s = true) : w.before a' U = true := by
  simp only [vx_ot, Bool.or_eq_true] at hg
  rcases hg with hg | hg
  · exact va_tabs hg hvm h
  · exact word_at hW (good_of_word hg) h
/-- a list's words: the good ones out of the method's own list, the others by premises of their own -/
theorem vx_hat {args : Array Value} {s : State} {L B : List Cond} (h1 : ∀ w ∈ L.filter goodWord, w.before args s = true) (h2 : ∀ w ∈ L.filter (fun w => !goodWord w), w ∈ B) (h3 : ∀ w ∈ B, w.before args s = true) : ∀ w ∈ L, w.before args s = true := by
  intro w hw
  by_cases g : goodWord w = true
  · exact h1 w (List.mem_filter.mpr ⟨hw, g⟩)
  · refine h3 w (h2 w (List.mem_filter.mpr ⟨hw, ?_⟩))
    show (!goodWord w) = true
    cases hgw : goodWord w
    · rfl
    · exact absurd hgw g
theorem vx_c {args : Array Value} {s : State} {w : Cond} {B : List Cond} (h : w.before args s = true) (t : ∀ w ∈ B, w.before args s = true) : ∀ w' ∈ w :: B, w'.before args s = true := fun w' h' => (List.mem_cons.mp h').elim (fun e => by rw [e]; exact h) (t w')
theorem vx_n {args : Array Value} {s : State} : ∀ w ∈ ([] : List Cond), w.before args s = true := fun _ h => nomatch h
theorem vx_own {args : Array Value} {s : State} {L : List Cond} (h1 : ∀ w ∈ L.filter vx_no, w.before args s = true)
    (hU : (Cond.isRef (.static Bundle.tN "UNASSIGNED_STACK" Bundle.steD)).before args s = true) (hN : (Cond.isRef (.static Bundle.tN "SUPPRESSED_SENTINEL" Bundle.listD)).before args s = true)
    (lU : (Cond.laysStatic Bundle.tN "UNASSIGNED_STACK" Bundle.steD).before args s = true) (lN : (Cond.laysStatic Bundle.tN "SUPPRESSED_SENTINEL" Bundle.listD).before args s = true) : ∀ w ∈ L, w.before args s = true := by
  intro w hw
  by_cases e1 : w = .isRef (.static Bundle.tN "UNASSIGNED_STACK" Bundle.steD)
  · rw [e1]; exact hU
  · by_cases e2 : w = .isRef (.static Bundle.tN "SUPPRESSED_SENTINEL" Bundle.listD)
    · rw [e2]; exact hN
    · by_cases e3 : w = .laysStatic Bundle.tN "UNASSIGNED_STACK" Bundle.steD
      · rw [e3]; exact lU
      · by_cases e4 : w = .laysStatic Bundle.tN "SUPPRESSED_SENTINEL" Bundle.listD
        · rw [e4]; exact lN
        · exact h1 w (List.mem_filter.mpr ⟨hw, by unfold vx_no; rw [decide_eq_true e1, decide_eq_true e2, decide_eq_true e3, decide_eq_true e4]; rfl⟩)
/-- where a static field lies, its class's statics cell in H -/
def vx_L (C n d : String) (A : Nat → Prop) (U : State) (H : Heap) : Prop := ∃ (c : ClassId) (k : Class) (i : Nat) (f : Field) (a : Nat) (cell : Cell), U.vm.findClass C = some c ∧ U.fieldFound? C n d = some (c, k, i, f) ∧ f.isStatic = true ∧ k.statics = some a ∧ H[a]? = some cell ∧ cell.vm.isStatics = true ∧ cell.cls = c ∧ f.slot < cell.slots.size ∧ k.staticTypes[f.slot]? = some f.type ∧ ¬ A a
theorem vx_L.moved {C n d : String} {A : Nat → Prop} {u U : State} {H : Heap} (hvm : u.vm.Alike U.vm) (h : vx_L C n d A u H) : vx_L C n d A U H := by
  obtain ⟨c, k, i, f, a, cell, h1, h2, h3, h4, h5, h6, h7, h8, h9, h10⟩ := h
  obtain ⟨k', hi', he⟩ := State.fieldFound?_setVm hvm h2
  exact ⟨c, k', i, f, a, cell, by rw [hvm.findClass]; exact h1, hi', h3, by rw [he]; exact h4, h5, h6, h7, h8, by rw [he]; exact h9, h10⟩
theorem vx_L.kept {C n d : String} {A : Nat → Prop} {U : State} {H H1 : Heap} (h : vx_L C n d A U H) (hq : ∀ a : Nat, a < H.size → ¬ A a → H1[a]? = H[a]?) : vx_L C n d A U H1 := by
  obtain ⟨c, k, i, f, a, cell, h1, h2, h3, h4, h5, h6, h7, h8, h9, h10⟩ := h
  exact ⟨c, k, i, f, a, cell, h1, h2, h3, h4, by rw [hq a (Array.getElem?_eq_some_iff.mp h5).1 h10]; exact h5, h6, h7, h8, h9, h10⟩
theorem vx_L.narrow {C n d : String} {A B : Nat → Prop} {U : State} {H : Heap} (h : vx_L C n d A U H) (hAB : ∀ q, B q → A q) : vx_L C n d B U H := by
  obtain ⟨c, k, i, f, a, cell, h1, h2, h3, h4, h5, h6, h7, h8, h9, h10⟩ := h
  exact ⟨c, k, i, f, a, cell, h1, h2, h3, h4, h5, h6, h7, h8, h9, fun z => h10 (hAB _ z)⟩
theorem vx_L.word {C n d : String} {A : Nat → Prop} {s : State} {args : Array Value} (h : vx_L C n d A s s.heap) : (Cond.laysStatic C n d).before args s = true := by
  obtain ⟨c, k, i, f, a, cell, h1, h2, h3, h4, h5, h6, h7, h8, h9, -⟩ := h
  show (Cond.laysStatic C n d).holds args s none s [] = true
  exact Cond.laysStatic_of h1 h2 h3 h4 h5 h6 h7 h8 h9
/-- .. and what it holds: null or some reference -/
def vx_Zq (C n d : String) (A : Nat → Prop) (U : State) (H : Heap) : Prop := va_Zq C n d A U H ∧ vx_L C n d A U H
theorem vx_Zq.moved {C n d : String} {A : Nat → Prop} {u U : State} {H : Heap} (hvm : u.vm.Alike U.vm) (h : vx_Zq C n d A u H) : vx_Zq C n d A U H := ⟨va_Zq.moved hvm h.1, vx_L.moved hvm h.2⟩
theorem vx_Zq.kept {C n d : String} {A : Nat → Prop} {U : State} {H H1 : Heap} (h : vx_Zq C n d A U H) (hq : ∀ a : Nat, a < H.size → ¬ A a → H1[a]? = H[a]?) : vx_Zq C n d A U H1 := ⟨va_Zq.kept h.1 hq, vx_L.kept h.2 hq⟩
theorem vx_Zq.narrow {C n d : String} {A B : Nat → Prop} {U : State} {H : Heap} (h : vx_Zq C n d A U H) (hAB : ∀ q, B q → A q) : vx_Zq C n d B U H := ⟨va_Zq.narrow h.1 hAB, vx_L.narrow h.2 hAB⟩
theorem vx_Zqof {args : Array Value} {s : State} {C n d : String} {A : Nat → Prop} (hl : (Cond.laysStatic C n d).before args s = true) (hini : (Cond.initialized C).before args s = true) (h : (Cond.isRef (.static C n d)).before args s = true) (hA : ∀ a : Nat, a < s.heap.size → ¬ A a) : vx_Zq C n d A s s.heap := by
  refine ⟨va_Zqof hl hini h hA, ?_⟩
  obtain ⟨c, k, i, f, a, cell, h1, h2, h3, h4, h5, h6, h7, h8, h9⟩ := Cond.laysStatic_spec hl
  exact ⟨c, k, i, f, a, cell, h1, h2, h3, h4, h5, h6, h7, h8, h9, hA a (Array.getElem?_eq_some_iff.mp h5).1⟩
theorem vx_isRef {C n d : String} {v : Value} {A : Nat → Prop} {s : State} {args : Array Value} (h : va_Z C n d v A s s.heap) (hv : v.isRef = true) : (Cond.isRef (.static C n d)).before args s = true := by
  obtain ⟨cf, kf, fi, f, a, cell, h1, h2, h3, h4, h5, h6, h7, -⟩ := h
  have he : (Term.static C n d).eval args s none [] s = some v := by
    simp [Term.eval, State.fieldNamed?, h1, h2, h4, h5, h6, h7]
  simp only [Cond.before, Cond.holds, Cond.value, he]
  cases v <;> simp_all [Value.isRef]
theorem vx_isRefq {C n d : String} {A : Nat → Prop} {s : State} {args : Array Value} (h : va_Zq C n d A s s.heap) : (Cond.isRef (.static C n d)).before args s = true := by
  rcases h with h | ⟨t, h⟩
  · exact vx_isRef h rfl
  · exact vx_isRef h rfl
/-- the same frame, seen from here: as if the method were called anew in this heap -/
theorem vx_rebase {T : State} (X : Stand p l e R s m args below meth c T locs cells slots) {R' : Room} (hf : R'.frames ≤ R.frames) (hl : R'.locals ≤ R.locals) (hc : cells + R'.cells ≤ R.cells) (hs : slots + R'.slots ≤ R.slots) :
    Stand p l e R' ((T.setVm s.vm).setFrames (.invoking m args :: below)) m args below meth c T [] 0 0 := by
  have htop : (T.setVm s.vm).topJava?.isSome := X.here.top
  have hF : ((T.setVm s.vm).setFrames (.invoking m args :: below)).frames = .invoking m args :: below := State.frames_setFrames _ (State.cur_lt_of_top htop)
  obtain ⟨g₀, hg0⟩ := Option.isSome_iff_exists.mp htop
  obtain ⟨r, hr⟩ := State.topJava?_eq_some.mp hg0
  have hl9 : e.platform.stackLimits (T.setVm s.vm).me = e.platform.stackLimits s.me := X.limits
  have hb9 : (T.setVm s.vm).me.stackBytes = s.me.stackBytes := X.bytes
  refine ⟨X.admits, X.cas, X.clock, hF, ?_, X.hears, X.method, X.code, X.here, X.tail, X.warmed, ?_, ?_, ?_⟩
  · have h := X.room
    have hU : ((T.setVm s.vm).setFrames (.invoking m args :: below)).localsInUse = s.localsInUse := by
      rw [State.localsInUse_invoking hF (meth := meth) (c := c) X.method X.code, State.localsInUse_invoking X.frames X.method X.code]
    simp only [State.hasRoom, Bool.and_eq_true, decide_eq_true_eq] at h ⊢
    obtain ⟨⟨⟨⟨h1, h2, h3, h4, h5, h6⟩, h7⟩, h8⟩, h9⟩ := h
    rw [X.frames, List.length_cons] at h2 h3
    have q1 := X.heapSize
    have q2 := X.used
    simp only [hF, hU, List.length_cons, State.stackLimits_setFrames, State.stackBytes_setFrames, hl9, hb9]
    refine ⟨⟨⟨⟨by omega, by omega, by omega, by omega, by omega, h6⟩, ?_⟩, ?_⟩, X.book⟩
    · show T.heap.size + R'.cells ≤ e.platform.maxCells
      omega
    · show T.slotsUsed + R'.slots ≤ e.platform.maxSlots
      omega
  · rw [State.stackLimits_setFrames]; rfl
  · rw [State.stackBytes_setFrames]; rfl
  · refine ⟨?_, Nat.le_refl _, Nat.le_refl _, ?_, ?_, fun a c9 h9 => ⟨c9, h9, rfl, rfl, fun _ _ => rfl⟩⟩
    · obtain ⟨t, ht, -⟩ := State.frames_cons hr
      show T.setVm s.vm = { ((T.setVm s.vm).setFrames (.invoking m args :: below)).setFrames (T.setVm s.vm).frames with heap := T.heap, slotsUsed := T.slotsUsed }
      rw [State.setFrames_setFrames, State.setFrames_self ht]
      rfl
    · show T.slotsUsed = T.slotsUsed + ((T.heap.toList.drop T.heap.size).map (·.slots.size)).sum
      rw [List.drop_eq_nil_of_le (Nat.le_of_eq Array.length_toList)]
      rfl
    · show ((T.heap.toList.drop T.heap.size).map (·.slots.size)).sum ≤ 0
      rw [List.drop_eq_nil_of_le (Nat.le_of_eq Array.length_toList)]
      exact Nat.le_refl _
/-- 'throw new E()': new; dup; invokespecial; athrow -/
theorem vx_throw0 {cc : ByteArray} {pc : Nat} (hexec : p.tables.exec = Jvm.exec) (hb : c.code = cc) (hl : l.stackTraces = false) {own cls : String} {names : List String} {ik ic mc ms : Nat} {A : Nat → Prop}
    (hown : s.vm.findClass own = some m.cls) (hcls : Bundle.fit cls = true) (hnames : ∀ n ∈ names, Bundle.fit n = true)
    (hk : (Cond.classLink own ik cls).before args s = true) (hini : (Cond.initialized cls).before args s = true) (hat : ∀ w ∈ vx_at0 own ic cls names, w.before args s = true)
    (hgood : ∀ w ∈ Cond.classLink own ik cls :: Cond.initialized cls :: vx_at0 own ic cls names, vx_ot w = true)
    (hU : vx_Zq Bundle.tN "UNASSIGNED_STACK" Bundle.steD A s s.heap) (hN : vx_Zq Bundle.tN "SUPPRESSED_SENTINEL" Bundle.listD A s s.heap) (hS : va_S A s.heap H locs) (hsize : ls.size = c.maxLocals)
    (d0 : decode cc pc = .ok (.new ik, 3)) (d3 : decode cc (pc + 3) = .ok (.dup, 1)) (d4 : decode cc (pc + 4) = .ok (.invokespecial ic, 3)) (d7 : decode cc (pc + 7) = .ok (.athrow, 1))
    (hout : ∀ x ∈ c.exceptionTable.toList, covers x (pc + 7) = false)
    (hRframes : names.length + 3 < R.frames) (hRlocals : (rest.map fun v => v.category).sum + (13 * (names.length + 1) + 42) ≤ R.locals) (hRcells : cells + 1 ≤ R.cells) (hRslots : slots + 6 ≤ R.slots) (hlocks : meth.locks = false)
    (hx : ∀ t : State, s.vm.Alike t.vm → H.size ≤ t.heap.size → (∀ q : Nat, q < H.size → t.heap[q]? = H[q]?) → XC cls s t)
    (hf : ∀ z ∈ locs, free z.base) (hc : cells + 1 ≤ mc) (hs : slots + 6 ≤ ms) :
    W p l e R s m args below meth c H locs cells slots (vx_MQ below Qc XC args s mc ms free) (F0 m pc ls rest) := by
  intro T hT X
  have htr : e.platform.stackTraces = false := (show e.platform.stackTraces = l.stackTraces by rw [X.admits.platform]).trans hl
  have Y := vx_rebase X (R' := { frames := R.frames, locals := R.locals, cells := 1, slots := 6 }) (Nat.le_refl _) (Nat.le_refl _) hRcells hRslots
  obtain ⟨s', hA⟩ : ∃ z, z = (T.setVm s.vm).setFrames (.invoking m args :: below) := ⟨_, rfl⟩
  rw [← hA] at Y
  have hvm : s'.vm = s.vm := by rw [hA]; rfl
  have hhp : s'.heap = H := by rw [hA]; exact hT
  have hW0 : s.WarmedH s'.vm := by rw [hvm]; exact State.WarmedH.refl s
  have hat' : ∀ w ∈ vx_at0 own ic cls names, w.before args s' = true := fun w hw => vx_ot_at hW0 hvm.symm (hgood w (List.mem_cons_of_mem _ (List.mem_cons_of_mem _ hw))) (hat w hw)
  have hk' : (Cond.classLink own ik cls).before args s' = true := vx_ot_at hW0 hvm.symm (hgood _ List.mem_cons_self) hk
  have hini' : (Cond.initialized cls).before args s' = true := vx_ot_at hW0 hvm.symm (hgood _ (List.mem_cons_of_mem _ List.mem_cons_self)) hini
  have hU' : vx_Zq Bundle.tN "UNASSIGNED_STACK" Bundle.steD A s' s'.heap := by rw [hhp]; exact vx_Zq.moved hW0.alike (hU.kept hS.2.1)
  have hN' : vx_Zq Bundle.tN "SUPPRESSED_SENTINEL" Bundle.listD A s' s'.heap := by rw [hhp]; exact vx_Zq.moved hW0.alike (hN.kept hS.2.1)
  have h : ∀ w ∈ Bundle.ownAtoms0 own ic cls names, w.before args s' = true := vx_own hat' (vx_isRefq hU'.1) (vx_isRefq hN'.1) hU'.2.word hN'.2.word
  have hown' : s'.vm.findClass own = some m.cls := by rw [hvm]; exact hown
  have hins : (Cond.instantiable cls 6).before args s' = true := h _ (by simp [Bundle.ownAtoms0])
  obtain ⟨vm₁, cX, kX, hfX, hkX, -, -, X₁, st1⟩ := Y.newCold hexec (own := own) (C := cls) (index := ik) (n := 6) hown' hk' hins hini'
    (g := F0 m pc ls rest) rfl (by rw [hb]; exact d0) (Nat.le_refl _) (Nat.le_refl _)
  generalize hT1 : (T.setVm vm₁).pushCell { cls := cX, slots := kX.instanceTypes.map defaultValue, vm := .none } = T1 at X₁ st1
  have hcat : (Value.ref T.heap.size).category = 1 := rfl
  have hcellA : T1.heap[T.heap.size]? = some (freshCell cX kX) := by rw [← hT1]; exact State.heap_pushCell_size _ _
  have d3' : decode c.code (pc + 3) = .ok (.dup, 1) := by rw [hb]; exact d3
  obtain ⟨U, hsteps, hrun, hend, hW, hsame, ce, hce, hO⟩ := X₁.ctorThrow0 hexec htr (own := own) (cls := cls) (names := names) (ic := ic) hown' hcls hnames h (fun x hx => nomatch hx) hfX hkX hcellA (by rw [hhp, hT]; exact Nat.le_refl _)
    (g := { method := m, pc := pc + 4, locals := ls, stack := .ref T.heap.size :: .ref T.heap.size :: rest, locked := none }) rfl hsize rfl rfl (rest := rest) rfl
    (by rw [hb]; exact d4) (by rw [hb]; exact d7) hout hRframes (by simp only [List.map_cons, List.sum_cons, hcat]; omega) hlocks
  obtain ⟨f1, f2⟩ := vx_frame hsame
  rw [hhp] at f1 f2
  have hWs : s.WarmedH U.vm := State.WarmedH.trans hW0 hW
  have hcl : s.vm.findClass cls = some ce.cls := by
    have h9 := hO.cls
    rw [hvm] at h9
    exact h9
  have hall : s.sameButNew ({ U with vm := s.vm } : State) locs mc ms := by
    subst hA
    obtain ⟨e1, e2⟩ := hsame
    rw [State.setFrames_setFrames] at e1
    have h2 : (T.setVm s.vm).sameButNew ({ U with vm := s.vm } : State) [] (0 + 1) (0 + 6) := ⟨e1, e2⟩
    have h3 := X.same.trans h2
    rw [List.append_nil] at h3
    exact h3.mono hc hs
  refine ⟨U, ?_, .threw T.heap.size, hrun, hend, Or.inr ⟨T.heap.size, rfl, cls, ce, locs, hx U hWs.alike f1 (fun q hq => f2 q hq (fun z hz => nomatch hz)), hce, hO.vm, hcl, hWs, hall, hf⟩⟩
  refine st1 _ ?_
  show Steps p.tables e below (T1.setTop { method := m, pc := pc + 3, locals := ls, stack := .ref T.heap.size :: rest, locked := none }) _
  jvm_step X₁.here [X₁.here.top, hexec, d3', Value.category]
  exact hsteps
/-- 'throw new E("text")': new; dup; ldc; invokespecial; athrow -/
theorem vx_throwS {cc : ByteArray} {pc : Nat} (hexec : p.tables.exec = Jvm.exec) (hb : c.code = cc) (hl : l.stackTraces = false) {own cls text : String} {names : List String} {ik is ic mc ms sa : Nat} {A : Nat → Prop}
    (hown : s.vm.findClass own = some m.cls) (hcls : Bundle.fit cls = true) (hnames : ∀ n ∈ names, Bundle.fit n = true)
    (hk : (Cond.classLink own ik cls).before args s = true) (hini : (Cond.initialized cls).before args s = true) (hstr : vk_R own is text sa s) (hat : ∀ w ∈ vx_atS own ic cls names, w.before args s = true)
    (hgood : ∀ w ∈ Cond.classLink own ik cls :: Cond.initialized cls :: vx_atS own ic cls names, vx_ot w = true)
    (hU : vx_Zq Bundle.tN "UNASSIGNED_STACK" Bundle.steD A s s.heap) (hN : vx_Zq Bundle.tN "SUPPRESSED_SENTINEL" Bundle.listD A s s.heap) (hS : va_S A s.heap H locs) (hsize : ls.size = c.maxLocals)
    (d0 : decode cc pc = .ok (.new ik, 3)) (d3 : decode cc (pc + 3) = .ok (.dup, 1)) (d4 : decode cc (pc + 4) = .ok (.ldc is, 2)) (d6 : decode cc (pc + 6) = .ok (.invokespecial ic, 3)) (d9 : decode cc (pc + 9) = .ok (.athrow, 1))
    (hout : ∀ x ∈ c.exceptionTable.toList, covers x (pc + 9) = false)
    (hRframes : names.length + 3 < R.frames) (hRlocals : (rest.map fun v => v.category).sum + (13 * (names.length + 1) + 43) ≤ R.locals) (hRcells : cells + 1 ≤ R.cells) (hRslots : slots + 6 ≤ R.slots) (hlocks : meth.locks = false)
    (hx : ∀ t : State, s.vm.Alike t.vm → H.size ≤ t.heap.size → (∀ q : Nat, q < H.size → t.heap[q]? = H[q]?) → XC cls s t)
    (hf : ∀ z ∈ locs, free z.base) (hc : cells + 1 ≤ mc) (hs : slots + 6 ≤ ms) :
    W p l e R s m args below meth c H locs cells slots (vx_MQ below Qc XC args s mc ms free) (F0 m pc ls rest) := by
  intro T hT X
  have htr : e.platform.stackTraces = false := (show e.platform.stackTraces = l.stackTraces by rw [X.admits.platform]).trans hl
  have Y := vx_rebase X (R' := { frames := R.frames, locals := R.locals, cells := 1, slots := 6 }) (Nat.le_refl _) (Nat.le_refl _) hRcells hRslots
  obtain ⟨s', hA⟩ : ∃ z, z = (T.setVm s.vm).setFrames (.invoking m args :: below) := ⟨_, rfl⟩
  rw [← hA] at Y
  have hvm : s'.vm = s.vm := by rw [hA]; rfl
  have hhp : s'.heap = H := by rw [hA]; exact hT
  have hW0 : s.WarmedH s'.vm := by rw [hvm]; exact State.WarmedH.refl s
  have hat' : ∀ w ∈ vx_atS own ic cls names, w.before args s' = true := fun w hw => vx_ot_at hW0 hvm.symm (hgood w (List.mem_cons_of_mem _ (List.mem_cons_of_mem _ hw))) (hat w hw)
  have hk' : (Cond.classLink own ik cls).before args s' = true := vx_ot_at hW0 hvm.symm (hgood _ List.mem_cons_self) hk
  have hini' : (Cond.initialized cls).before args s' = true := vx_ot_at hW0 hvm.symm (hgood _ (List.mem_cons_of_mem _ List.mem_cons_self)) hini
  have hU' : vx_Zq Bundle.tN "UNASSIGNED_STACK" Bundle.steD A s' s'.heap := by rw [hhp]; exact vx_Zq.moved hW0.alike (hU.kept hS.2.1)
  have hN' : vx_Zq Bundle.tN "SUPPRESSED_SENTINEL" Bundle.listD A s' s'.heap := by rw [hhp]; exact vx_Zq.moved hW0.alike (hN.kept hS.2.1)
  have h : ∀ w ∈ Bundle.ownAtoms own ic cls names, w.before args s' = true := vx_own hat' (vx_isRefq hU'.1) (vx_isRefq hN'.1) hU'.2.word hN'.2.word
  have hown' : s'.vm.findClass own = some m.cls := by rw [hvm]; exact hown
  have hins : (Cond.instantiable cls 6).before args s' = true := h _ (by simp [Bundle.ownAtoms])
  obtain ⟨vm₁, cX, kX, hfX, hkX, -, -, X₁, st1⟩ := Y.newCold hexec (own := own) (C := cls) (index := ik) (n := 6) hown' hk' hins hini'
    (g := F0 m pc ls rest) rfl (by rw [hb]; exact d0) (Nat.le_refl _) (Nat.le_refl _)
  generalize hT1 : (T.setVm vm₁).pushCell { cls := cX, slots := kX.instanceTypes.map defaultValue, vm := .none } = T1 at X₁ st1
  have hcat : (Value.ref T.heap.size).category = 1 := rfl
  have hcellA : T1.heap[T.heap.size]? = some (freshCell cX kX) := by rw [← hT1]; exact State.heap_pushCell_size _ _
  have d3' : decode c.code (pc + 3) = .ok (.dup, 1) := by rw [hb]; exact d3
  have d4' : decode c.code (pc + 4) = .ok (.ldc is, 2) := by rw [hb]; exact d4
  have hstr' : vk_R own is text sa s' := vk_R.warm hW0 hstr
  obtain ⟨U, hsteps, hrun, hend, hW, hsame, ce, hce, hO⟩ := X₁.ctorThrowS hexec htr (own := own) (cls := cls) (names := names) (ic := ic) hown' hcls hnames h (fun x hx => nomatch hx) hfX hkX hcellA (by rw [hhp, hT]; exact Nat.le_refl _) (msg := .ref sa) rfl
    (g := { method := m, pc := pc + 6, locals := ls, stack := .ref sa :: .ref T.heap.size :: .ref T.heap.size :: rest, locked := none }) rfl hsize rfl rfl (rest := rest) rfl
    (by rw [hb]; exact d6) (by rw [hb]; exact d9) hout hRframes (by simp only [List.map_cons, List.sum_cons, hcat]; omega) hlocks
  obtain ⟨f1, f2⟩ := vx_frame hsame
  rw [hhp] at f1 f2
  have hWs : s.WarmedH U.vm := State.WarmedH.trans hW0 hW
  have hcl : s.vm.findClass cls = some ce.cls := by
    have h9 := hO.cls
    rw [hvm] at h9
    exact h9
  have hall : s.sameButNew ({ U with vm := s.vm } : State) locs mc ms := by
    subst hA
    obtain ⟨e1, e2⟩ := hsame
    rw [State.setFrames_setFrames] at e1
    have h2 : (T.setVm s.vm).sameButNew ({ U with vm := s.vm } : State) [] (0 + 1) (0 + 6) := ⟨e1, e2⟩
    have h3 := X.same.trans h2
    rw [List.append_nil] at h3
    exact h3.mono hc hs
  refine ⟨U, ?_, .threw T.heap.size, hrun, hend, Or.inr ⟨T.heap.size, rfl, cls, ce, locs, hx U hWs.alike f1 (fun q hq => f2 q hq (fun z hz => nomatch hz)), hce, hO.vm, hcl, hWs, hall, hf⟩⟩
  refine st1 _ ?_
  show Steps p.tables e below (T1.setTop { method := m, pc := pc + 3, locals := ls, stack := .ref T.heap.size :: rest, locked := none }) _
  jvm_step X₁.here [X₁.here.top, hexec, d3', Value.category]
  exact X₁.ldcString hexec (own := own) (text := text) (index := is) (a := sa) hown' hstr'.1 hstr'.2
    (g := { method := m, pc := pc + 4, locals := ls, stack := .ref T.heap.size :: .ref T.heap.size :: rest, locked := none }) rfl d4' _ hsteps
/-- 'throw new E("text")', the text by a wide index -/
theorem vx_throwSW {cc : ByteArray} {pc : Nat} (hexec : p.tables.exec = Jvm.exec) (hb : c.code = cc) (hl : l.stackTraces = false) {own cls text : String} {names : List String} {ik is ic mc ms sa : Nat} {A : Nat → Prop}
    (hown : s.vm.findClass own = some m.cls) (hcls : Bundle.fit cls = true) (hnames : ∀ n ∈ names, Bundle.fit n = true)
    (hk : (Cond.classLink own ik cls).before args s = true) (hini : (Cond.initialized cls).before args s = true) (hstr : vk_R own is text sa s) (hat : ∀ w ∈ vx_atS own ic cls names, w.before args s = true)
    (hgood : ∀ w ∈ Cond.classLink own ik cls :: Cond.initialized cls :: vx_atS own ic cls names, vx_ot w = true)
    (hU : vx_Zq Bundle.tN "UNASSIGNED_STACK" Bundle.steD A s s.heap) (hN : vx_Zq Bundle.tN "SUPPRESSED_SENTINEL" Bundle.listD A s s.heap) (hS : va_S A s.heap H locs) (hsize : ls.size = c.maxLocals)
    (d0 : decode cc pc = .ok (.new ik, 3)) (d3 : decode cc (pc + 3) = .ok (.dup, 1)) (d4 : decode cc (pc + 4) = .ok (.ldc_w is, 3)) (d7 : decode cc (pc + 7) = .ok (.invokespecial ic, 3)) (d10 : decode cc (pc + 10) = .ok (.athrow, 1))
    (hout : ∀ x ∈ c.exceptionTable.toList, covers x (pc + 10) = false)
    (hRframes : names.length + 3 < R.frames) (hRlocals : (rest.map fun v => v.category).sum + (13 * (names.length + 1) + 43) ≤ R.locals) (hRcells : cells + 1 ≤ R.cells) (hRslots : slots + 6 ≤ R.slots) (hlocks : meth.locks = false)
    (hx : ∀ t : State, s.vm.Alike t.vm → H.size ≤ t.heap.size → (∀ q : Nat, q < H.size → t.heap[q]? = H[q]?) → XC cls s t)
    (hf : ∀ z ∈ locs, free z.base) (hc : cells + 1 ≤ mc) (hs : slots + 6 ≤ ms) :
    W p l e R s m args below meth c H locs cells slots (vx_MQ below Qc XC args s mc ms free) (F0 m pc ls rest) := by
  intro T hT X
  have htr : e.platform.stackTraces = false := (show e.platform.stackTraces = l.stackTraces by rw [X.admits.platform]).trans hl
  have Y := vx_rebase X (R' := { frames := R.frames, locals := R.locals, cells := 1, slots := 6 }) (Nat.le_refl _) (Nat.le_refl _) hRcells hRslots
  obtain ⟨s', hA⟩ : ∃ z, z = (T.setVm s.vm).setFrames (.invoking m args :: below) := ⟨_, rfl⟩
  rw [← hA] at Y
  have hvm : s'.vm = s.vm := by rw [hA]; rfl
  have hhp : s'.heap = H := by rw [hA]; exact hT
  have hW0 : s.WarmedH s'.vm := by rw [hvm]; exact State.WarmedH.refl s
  have hat' : ∀ w ∈ vx_atS own ic cls names, w.before args s' = true := fun w hw => vx_ot_at hW0 hvm.symm (hgood w (List.mem_cons_of_mem _ (List.mem_cons_of_mem _ hw))) (hat w hw)
  have hk' : (Cond.classLink own ik cls).before args s' = true := vx_ot_at hW0 hvm.symm (hgood _ List.mem_cons_self) hk
  have hini' : (Cond.initialized cls).before args s' = true := vx_ot_at hW0 hvm.symm (hgood _ (List.mem_cons_of_mem _ List.mem_cons_self)) hini
  have hU' : vx_Zq Bundle.tN "UNASSIGNED_STACK" Bundle.steD A s' s'.heap := by rw [hhp]; exact vx_Zq.moved hW0.alike (hU.kept hS.2.1)
  have hN' : vx_Zq Bundle.tN "SUPPRESSED_SENTINEL" Bundle.listD A s' s'.heap := by rw [hhp]; exact vx_Zq.moved hW0.alike (hN.kept hS.2.1)
  have h : ∀ w ∈ Bundle.ownAtoms own ic cls names, w.before args s' = true := vx_own hat' (vx_isRefq hU'.1) (vx_isRefq hN'.1) hU'.2.word hN'.2.word
  have hown' : s'.vm.findClass own = some m.cls := by rw [hvm]; exact hown
  have hins : (Cond.instantiable cls 6).before args s' = true := h _ (by simp [Bundle.ownAtoms])
  obtain ⟨vm₁, cX, kX, hfX, hkX, -, -, X₁, st1⟩ := Y.newCold hexec (own := own) (C := cls) (index := ik) (n := 6) hown' hk' hins hini'
    (g := F0 m pc ls rest) rfl (by rw [hb]; exact d0) (Nat.le_refl _) (Nat.le_refl _)
  generalize hT1 : (T.setVm vm₁).pushCell { cls := cX, slots := kX.instanceTypes.map defaultValue, vm := .none } = T1 at X₁ st1
  have hcat : (Value.ref T.heap.size).category = 1 := rfl
  have hcellA : T1.heap[T.heap.size]? = some (freshCell cX kX) := by rw [← hT1]; exact State.heap_pushCell_size _ _
  have d3' : decode c.code (pc + 3) = .ok (.dup, 1) := by rw [hb]; exact d3
  have d4' : decode c.code (pc + 4) = .ok (.ldc_w is, 3) := by rw [hb]; exact d4
  have hstr' : vk_R own is text sa s' := vk_R.warm hW0 hstr
  obtain ⟨U, hsteps, hrun, hend, hW, hsame, ce, hce, hO⟩ := X₁.ctorThrowS hexec htr (own := own) (cls := cls) (names := names) (ic := ic) hown' hcls hnames h (fun x hx => nomatch hx) hfX hkX hcellA (by rw [hhp, hT]; exact Nat.le_refl _) (msg := .ref sa) rfl
    (g := { method := m, pc := pc + 7, locals := ls, stack := .ref sa :: .ref T.heap.size :: .ref T.heap.size :: rest, locked := none }) rfl hsize rfl rfl (rest := rest) rfl
    (by rw [hb]; exact d7) (by rw [hb]; exact d10) hout hRframes (by simp only [List.map_cons, List.sum_cons, hcat]; omega) hlocks
  obtain ⟨f1, f2⟩ := vx_frame hsame
  rw [hhp] at f1 f2
  have hWs : s.WarmedH U.vm := State.WarmedH.trans hW0 hW
  have hcl : s.vm.findClass cls = some ce.cls := by
    have h9 := hO.cls
    rw [hvm] at h9
    exact h9
  have hall : s.sameButNew ({ U with vm := s.vm } : State) locs mc ms := by
    subst hA
    obtain ⟨e1, e2⟩ := hsame
    rw [State.setFrames_setFrames] at e1
    have h2 : (T.setVm s.vm).sameButNew ({ U with vm := s.vm } : State) [] (0 + 1) (0 + 6) := ⟨e1, e2⟩
    have h3 := X.same.trans h2
    rw [List.append_nil] at h3
    exact h3.mono hc hs
  refine ⟨U, ?_, .threw T.heap.size, hrun, hend, Or.inr ⟨T.heap.size, rfl, cls, ce, locs, hx U hWs.alike f1 (fun q hq => f2 q hq (fun z hz => nomatch hz)), hce, hO.vm, hcl, hWs, hall, hf⟩⟩
  refine st1 _ ?_
  show Steps p.tables e below (T1.setTop { method := m, pc := pc + 3, locals := ls, stack := .ref T.heap.size :: rest, locked := none }) _
  jvm_step X₁.here [X₁.here.top, hexec, d3', Value.category]
  exact X₁.ldcStringW hexec (own := own) (text := text) (index := is) (a := sa) hown' hstr'.1 hstr'.2
    (g := { method := m, pc := pc + 4, locals := ls, stack := .ref T.heap.size :: .ref T.heap.size :: rest, locked := none }) rfl d4' _ hsteps
end Ends
section Bodies
variable {l : Launch}
theorem vx_ofW {y : MethodName} {ws ws' : List Cond} {rm : Room} {Pc : Array Value → State → Prop} {Qc : Array Value → State → Outcome → State → Prop} {XC : String → State → State → Prop} {mc ms : Nat} {free : Addr → Prop} {cc : ByteArray} {maxL : Nat} {ret : Option FieldType}
    (hy : plainName y.cls = true) (hw : ws = Cond.code y cc maxL ret :: ws')
    (body : ∀ p e s m args below meth c s₁, BodyLoose p l y (headSpec ws rm) cc maxL ret e s m args below meth c s₁ → c.maxLocals = maxL → (∀ x ∈ c.exceptionTable.toList, False) → Pc args s →
      W p l e (headSpec ws rm).room s m args below meth c s.heap [] 0 0 (vx_MQ below Qc XC args s mc ms free) (entryFrame m args maxL)) : vx_Met l y ws rm Pc Qc XC mc ms free := by
  refine MetFree.of_bodyS (code := cc) (maxLocals := maxL) (ret := ret) hy ?_ ?_
  · intro args s m h hn
    obtain ⟨meth, c, h1, h2, h3, h4, h5, h6, -, -⟩ := Cond.code_spec hn (atoms_spec (ws := ws) h _ (by rw [hw]; exact List.mem_cons_self))
    exact ⟨meth, c, h1, h2, h3, h4, h5, h6⟩
  · intro p e s m args below meth c s₁ B hml hP _
    have hh0 : s₁.heap = s.heap := by rw [B.state]; rfl
    have ht : ∀ x ∈ c.exceptionTable.toList, False := by
      obtain ⟨meth9, c9, h1, h2, -, -, -, -, h7, -⟩ := Cond.code_spec B.named (atoms_spec (ws := ws) B.pre _ (by rw [hw]; exact List.mem_cons_self))
      cases Option.some.inj (h1.symm.trans B.method)
      cases Option.some.inj (h2.symm.trans (Stand.of_body B).code)
      intro x hx
      rw [Array.isEmpty_iff.mp h7] at hx
      cases hx
    obtain ⟨t, a1, o, b1, b2, b3⟩ := body p e s m args below meth c s₁ B hml ht hP s₁ hh0 (Stand.of_body B)
    exact ⟨t, o, a1, b1, b2, b3⟩
/-- the table of a body with handlers -/
theorem vx_table {p : Program} {x y : MethodName} {S : Spec} {cc bytes : ByteArray} {maxL maxL' : Nat} {ret ret' : Option FieldType} {e : Env} {s s₁ : State} {m : MethodId} {args : Array Value} {below : List Frame} {meth : Method} {c : Code} {hh : List (Nat × Nat × Nat × Nat)}
    (B : BodyLoose p l y S cc maxL ret e s m args below meth c s₁) (h : (Cond.codeWith y bytes maxL' ret' hh).before args s = true) : c.exceptionTable.toList = tableOf hh := by
  obtain ⟨m9, meth9, c9, hn9, h1, h2, -, -, h6, -⟩ := Cond.codeWith_spec h
  cases Option.some.inj (hn9.symm.trans B.named)
  cases Option.some.inj (h1.symm.trans B.method)
  cases Option.some.inj (h2.symm.trans (Stand.of_body B).code)
  rw [← h6, table_eq]
end Bodies
end VXA
/-! ===== END ===== -/
/-! ===== BEGIN a static call of a method with an exception table ===== -/
section VXS
variable {p : Program} {l : Launch} {e : Env} {R : Room} {s : State} {m : MethodId} {args : Array Value} {below : List Frame} {meth : Method} {c : Code} {T : State} {H : Heap} {locs : List Loc} {cells slots : Nat}
abbrev vx_CSW (R : Room) (s : State) (args : Array Value) (own : String) (index : Nat) (y : MethodName) (bytes : ByteArray) (maxL : Nat) (ret : Option FieldType) (hh : List (Nat × Nat × Nat × Nat)) (ws : List Cond) (rm : Room) (mc ms n : Nat) : Prop :=
  (rm.cells = mc ∧ rm.slots = ms ∧ rm.frames + 1 ≤ R.frames ∧ 8 + (maxL + 11) + rm.locals ≤ R.locals ∧ (∀ w ∈ ws, ∀ (a' : Array Value) (U : State), s.WarmedH U.vm → w.before a' U = true) ∧ Cond.codeWith y bytes maxL ret hh ∈ ws) ∧
  (Cond.codeWith y bytes maxL ret hh).before args s = true ∧ (Cond.initialized y.cls).before args s = true ∧ (y.cls ≠ "java/lang/invoke/MethodHandle" ∧ y.cls ≠ "java/lang/invoke/VarHandle") ∧
  (∀ sig, parseMethodDescriptor y.desc = some sig → n = sig.parameters.length) ∧ (Cond.methodLink own index y).before args s = true ∧ (Cond.static y).before args s = true
theorem vx_cwSW {own : String} {index maxL mc ms : Nat} {y : MethodName} {bytes : ByteArray} {ret : Option FieldType} {hh : List (Nat × Nat × Nat × Nat)} {Ts ws ws' : List Cond} {rm : Room} (n : Nat) (ht : ∀ w ∈ Ts, w.before args s = true) (hT : GoodIn Ts (va_wsS own index y ws)) (hw : ws = Cond.codeWith y bytes maxL ret hh :: ws') (hrc : rm.cells = mc) (hrs : rm.slots = ms)
    (hd : y.cls ≠ "java/lang/invoke/MethodHandle" ∧ y.cls ≠ "java/lang/invoke/VarHandle" ∧ (parseMethodDescriptor y.desc).map (fun d => d.parameters.length) = some n) (hR : rm.frames + 1 ≤ R.frames ∧ 8 + (maxL + 11) + rm.locals ≤ R.locals) :
    vx_CSW R s args own index y bytes maxL ret hh ws rm mc ms n := by
  have ok : ∀ w ∈ va_wsS own index y ws, w.before args s = true := fun w h => ht w (hT w h).1
  have hG : GoodIn Ts ws := fun w h => hT w (by unfold va_wsS; exact List.mem_append_right _ h)
  have hc : Cond.codeWith y bytes maxL ret hh ∈ ws := by rw [hw]; exact List.mem_cons_self
  refine ⟨⟨hrc, hrs, hR.1, hR.2, pay_in ht hG, hc⟩, ht _ (hG _ hc).1, ok _ (by simp [va_wsS]), ⟨hd.1, hd.2.1⟩, fun sig h => ?_, ok _ (by simp [va_wsS]), ok _ (by simp [va_wsS])⟩
  have h2 := hd.2.2
  rw [h] at h2
  exact (Option.some.inj h2).symm
theorem vx_callSW (X : Stand p l e R s m args below meth c T locs cells slots) (hexec : p.tables.exec = Jvm.exec) {own : String} {index : Nat} {y : MethodName} {bytes : ByteArray} {maxL : Nat} {ret : Option FieldType} {hh : List (Nat × Nat × Nat × Nat)}
    (hown : s.vm.findClass own = some m.cls) (hlink : (Cond.methodLink own index y).before args s = true) (hstat : (Cond.static y).before args s = true) (hinit : (Cond.initialized y.cls).before args s = true)
    (hcode : (Cond.codeWith y bytes maxL ret hh).before args s = true) (hy : y.cls ≠ "java/lang/invoke/MethodHandle" ∧ y.cls ≠ "java/lang/invoke/VarHandle")
    {W9 : Nat} {Pre : Pt → Array Value → Prop} {Post : Pt → Array Value → Option Value → Pt → Prop} (hK : Back l R p e below s args y 3 W9 Pre Post)
    {g : JFrame} (hg : g.method = m) (hsize : g.locals.size = c.maxLocals) {argsL rest : List Value} (hlen : ∀ sig, parseMethodDescriptor y.desc = some sig → argsL.length = sig.parameters.length)
    (hstack : g.stack = argsL.reverse ++ rest) (hW : 2 * g.monitorRoom + (rest.map fun v => v.category).sum ≤ W9) (hdg : decode c.code g.pc = .ok (.invokestatic index, 3))
    (hpre : ∀ vm₁, s.WarmedH vm₁ → Pre ⟨T.setVm vm₁, locs, cells, slots⟩ argsL.toArray) :
    ∃ (v : Option Value) (vm₁ : Vm) (B : Pt), s.WarmedH vm₁ ∧ Stand p l e R s m args below meth c B.U B.locs B.cells B.slots ∧ Post ⟨T.setVm vm₁, locs, cells, slots⟩ argsL.toArray v B ∧
      ∀ target, Steps p.tables e below (B.U.setTop { g with pc := g.pc + 3, stack := v.toList ++ rest }) target → Steps p.tables e below (T.setTop g) target := by
  obtain ⟨mk, methM, cM, hnamed, hmethM, -, -, -, -, -, -, hsigM⟩ := Cond.codeWith_spec hcode
  have hstatic : methM.isStatic = true := Cond.static_spec hnamed hmethM hstat
  obtain ⟨kP, hkP, -⟩ := className_of_methodNamed hnamed
  have hinitP : kP.init = .initialized := Cond.initialized_spec (findClass_of_methodNamed hnamed) hkP hinit
  obtain ⟨vm₁, X₁, hstep₁⟩ := X.invokestatic hexec hown hlink hnamed hmethM hstatic hkP hinitP hy (g := g) hg (argsL := argsL) (rest := rest) (hlen _ hsigM) hstack hdg
  obtain ⟨v, B, X', hpost, hsteps⟩ := hK m meth c ⟨T.setVm vm₁, locs, cells, slots⟩ { g with stack := rest } (.invokestatic index) mk argsL.toArray X₁ hg hsize hdg hW (X₁.named hnamed) (hpre vm₁ X₁.warmed)
  exact ⟨v, vm₁, B, X₁.warmed, X', hpost, fun target h => hstep₁ _ fun acts => by rw [doInvoke_state]; exact hsteps.trans h⟩
theorem vx_runSW {y : MethodName} {bytes cc : ByteArray} {maxL nL mc ms n index : Nat} {ret : Option FieldType} {hh : List (Nat × Nat × Nat × Nat)} {ws : List Cond} {rm : Room} {Pc : Array Value → State → Prop} {Qc : Array Value → State → Outcome → State → Prop} {free : Addr → Prop} {Ts : List Cond} {own : String} {As rest : List Value} {g : JFrame}
    (S : CallFix p m c cc nL s args Ts own) (hM : Met l y ws rm Pc Qc mc ms free) (cw : vx_CSW R s args own index y bytes maxL ret hh ws rm mc ms n) (hp : PreS s H Pc As)
    (hg : g.method = m) (hn : As.length = n) (hsize : g.locals.size = nL) (hstack : g.stack = As.reverse ++ rest) (hW : 2 * g.monitorRoom + (rest.map fun v => v.category).sum ≤ 8) (hdg : decode cc g.pc = .ok (.invokestatic index, 3)) (hf : cells + mc ≤ R.cells ∧ slots + ms ≤ R.slots) :
    va_Run p l e R s m args below meth c H locs cells slots mc ms g rest (Qc As.toArray) (free) := by
  obtain ⟨⟨hrc, hrs, hfr, hlo, hws, hcw⟩, hcode, hini, hy, hlen, hl, hstt⟩ := cw
  have hK : Back l R p e below s args y 3 8 (PreOf R mc ms Pc) (PostOf Qc mc ms free) := va_backW (hh := hh) (bytes := bytes) (maxL := maxL) (ret := ret) hM hp.1 hrc hrs hfr hlo hws hcw (fun a' U hW => word_at hW (Or.inl (by first | rfl | simp [Cond.onTables, Cond.keeps, Cond.steady])) hini)
  obtain ⟨hx, hb, hml, ho, -⟩ := S
  intro T hT X
  obtain ⟨v, vm₁, ⟨U', l2, c2, s2⟩, hW₁, X', ⟨g', mk, t, L, e1, e2, hq, h1, hL, h2, h3⟩, st⟩ := vx_callSW X hx (hh := hh) (bytes := bytes) (maxL := maxL) (ret := ret) ho hl hstt hini hcode hy hK hg (hsize.trans hml.symm) (argsL := As) (rest := rest) (fun sig h => hn.trans (hlen sig h)) hstack hW (by rw [hb]; exact hdg)
    (fun vm₁ hW₁ => ⟨hf.1, hf.2, hp.2 (T.setVm vm₁) hT hW₁⟩)
  dsimp only [Pt.U, Pt.locs, Pt.cells, Pt.slots] at X' e1 e2 h1 h2 h3 st
  subst h1; subst h2; subst h3
  exact ⟨v, (T.setVm vm₁).calling g' mk As.toArray, t, U', L, hT, X', hL, e1, e2, hq, st⟩
/-- not caught here, past rows that name other classes: it goes on to the caller -/
theorem vx_outP {p : Program} {l : Launch} {e : Env} {R : Room} {s : State} {m : MethodId} {args : Array Value} {below : List Frame} {meth : Method} {c : Code} {H : Heap} {locs : List Loc} {cells slots : Nat} {free : Addr → Prop} {ls : Array Slot} {rest : List Value} {Qc : Array Value → State → Outcome → State → Prop} {XC : String → State → State → Prop}
    {pc : Nat} {own E : String} {ce : Cell} {q : Addr} {mc ms : Nat} (hown : s.vm.findClass own = some m.cls) (hlocks : meth.locks = false)
    (hpass : ∀ z ∈ c.exceptionTable.toList, covers z pc = false ∨ (z.catchType ≠ 0 ∧ ∃ nm : String, (Cond.classLink own z.catchType nm).before args s = true ∧ va_Nc E nm s)) (hcell : H[q]? = some ce) (hv : ce.vm = .none) (hcl : s.vm.findClass E = some ce.cls)
    (hx : ∀ t : State, t.heap = H → s.vm.Alike t.vm → XC E s t) (hf : ∀ z ∈ locs, free z.base) (hc : cells ≤ mc) (hs : slots ≤ ms) :
    vx_W p l e R s m args below meth c H locs cells slots (vx_MQ below Qc XC args s mc ms free) (F0 m pc ls rest) q := by
  intro T hT X
  have hpl : e.platform.magicAccessors = ({} : Platform).magicAccessors := by rw [X.admits.platform]
  obtain ⟨vm', hW', X', st⟩ := X.outThrough hlocks q (g := F0 m pc ls rest) rfl rfl rfl (cell := ce) (by rw [hT]; exact hcell) (by rw [hv]; rfl)
    (by obtain ⟨k9, h9, -⟩ := Vm.findClass_spec hcl; exact ⟨k9, h9⟩) (fun z hz => by
      rcases hpass z hz with h | ⟨hz0, nm, hl1, hn1⟩
      · exact Or.inl h
      · obtain ⟨c6, hc6, hcl6⟩ := Cond.classLink_spec hown hl1 e.platform hpl
        obtain ⟨a8, b8, h1, h2, h3⟩ := hn1
        cases Option.some.inj (h1.symm.trans hcl)
        cases Option.some.inj (h2.symm.trans hc6)
        exact Or.inr ⟨hz0, _, hcl6, h3⟩)
  obtain ⟨g₀, hfr⟩ := X'.frames_eq
  have hcell9 : ((T.setVm vm').setFrames (.throwing q :: below)).heap[q]? = some ce := by
    show T.heap[q]? = some ce
    rw [hT]; exact hcell
  have hend : Ended ((T.setVm vm').setFrames (.throwing q :: below)) below (.threw q) := State.frames_setFrames _ (State.cur_lt_of_frames hfr)
  refine ⟨(T.setVm vm').setFrames (.throwing q :: below), ?_, .threw q, X'.here.running, hend, Or.inr ⟨q, rfl, E, ce, locs, hx _ hT (X'.ends _).1.alike, hcell9, hv, hcl, (X'.ends _).1, (X'.ends _).2.mono hc hs, hf⟩⟩
  rw [X.pushThrowing_eq]
  exact st
/-- a thing of a world lies in the heap -/
theorem vx_lt {D : va_G} {cl : List vw_C} {ws : va_W} {H1 : Heap} (h : va_P D cl ws H1) {k : Nat} {q : Nat × va_E} (hk : ws[k]? = some q) : q.1 < H1.size := (h k q hk).lt
end VXS
/-! ===== END ===== -/
/-! ===== BEGIN methods with a table of their own: called by a name, returning or throwing ===== -/
section VXH
/-! vx_backW, vx_callVX, vx_callSX, vx_callVW, vx_runVW, vx_runVX, vx_runSX, vx_ofWH follow the same proofs as their sisters above (Free/Laws.lean, Shelf42/LK1.lean); vx_outP calls Shelf42/NT130.lean (outThrough). -/
section
variable {l : Launch} {R : Room} {p : Program} {e : Env} {below : List Frame} {s : State} {sargs : Array Value} {y : MethodName} {len W9 : Nat}
theorem vx_backW {ws : List Cond} {rm : Room} {Pc : Array Value → State → Prop} {Qc : Array Value → State → Outcome → State → Prop} {XC : String → State → State → Prop} {mc ms : Nat} {free : Addr → Prop} {bytes : ByteArray} {maxL : Nat} {ret : Option FieldType} {hh : List (Nat × Nat × Nat × Nat)}
    (hM : vx_Met l y ws rm Pc Qc XC mc ms free) (hblind : FrameBlind Pc) (hrc : rm.cells = mc) (hrs : rm.slots = ms)
    (hframes : rm.frames + 1 ≤ R.frames) (hlocals : W9 + (maxL + 11) + rm.locals ≤ R.locals)
    (hws : ∀ w ∈ ws, ∀ a' U, s.WarmedH U.vm → w.before a' U = true) (hcode : Cond.codeWith y bytes maxL ret hh ∈ ws) (hinit : ∀ a' U, s.WarmedH U.vm → (Cond.initialized y.cls).before a' U = true) :
    vx_Back l R p e below s sargs y len W9 (PreOf R mc ms Pc) (PostOf Qc mc ms free) (vx_Post XC mc ms free) := by
  intro m meth c A g ig mk a X hg hsize hdg hW hn hp
  have h1 : (headSpec ws rm).pre.before a A.U = true := atoms_intro fun w hw => hws w hw _ _ X.warmed
  have h2 : (Cond.codeWith y bytes maxL ret hh).before a A.U = true := hws _ hcode _ _ X.warmed
  have h3 : (Cond.initialized y.cls).before a A.U = true := hinit _ _ X.warmed
  have h4 : A.cells + (headSpec ws rm).room.cells ≤ R.cells := by rw [show (headSpec ws rm).room.cells = mc from hrc]; exact hp.1
  have h5 : A.slots + (headSpec ws rm).room.slots ≤ R.slots := by rw [show (headSpec ws rm).room.slots = ms from hrs]; exact hp.2.1
  have hPc : Pc a (A.U.calling g mk a) := hblind _ _ _ _ hp.2.2
  obtain ⟨U, Ls, c0, s0⟩ := A
  dsimp only [Pt.U, Pt.locs, Pt.cells, Pt.slots] at h1 h2 h3 h4 h5 X hn hPc ⊢
  obtain ⟨m9, methY, cY, hn9, hmY, hcY, -, hlY, -⟩ := Cond.codeWith_spec h2
  cases Option.some.inj (hn9.symm.trans hn)
  obtain ⟨kY, hkY, -⟩ := className_of_methodNamed hn
  have hinitY : kY.init = .initialized := Cond.initialized_spec (findClass_of_methodNamed hn) hkY h3
  have h : At U g.method c below := by rw [hg]; exact X.here
  have hlocals9 : W9 + (maxL + 11) + (headSpec ws rm).room.locals ≤ R.locals := hlocals
  have happ : (headSpec ws rm).appliesLoose y e.platform (U.calling g mk a) = true :=
    Spec.appliesLoose_calling (g := g) h hdg hn hkY hinitY
      (X.room_calling (g := g) (R' := (headSpec ws rm).room) hsize hmY hcY hframes (by rw [hlY]; omega) h4 h5) h1
  obtain ⟨mid, hmid⟩ := h.above
  have hfr : (U.setTop g).frames = (.java g :: mid) ++ below := by rw [State.frames_setTop' g h.top, hmid]; rfl
  obtain ⟨o, s₂, hsteps, -, hend, hq⟩ := Steps.callFree hM p X.admits X.cas X.clock (acts := []) hfr happ hPc trivial
  have hq' : vx_Q Qc XC mc ms free a (U.calling g mk a) o s₂ := hq
  rw [State.frames_setTop' g h.top] at hend
  obtain ⟨g₀, hg0⟩ := Option.isSome_iff_exists.mp h.top
  obtain ⟨r, hr⟩ := State.topJava?_eq_some.mp hg0
  have hr' : (({ U with heap := s₂.heap, slotsUsed := s₂.slotsUsed } : State).setVm s₂.vm).frames = .java g₀ :: r := hr
  rcases hq' with ⟨hqc, L, hfe, hL⟩ | ⟨q, rfl, E, ce, L, hx, hce, hcv, hcl, hW₂, hsm, hL⟩
  · obtain ⟨⟨v, rfl⟩, hW₂, e2, q2, q3, q4, q5, q6⟩ := id hfe
    have e3 : s₂ = ({ (U.calling g mk a).setFrames s₂.frames with heap := s₂.heap, slotsUsed := s₂.slotsUsed } : State).setVm s₂.vm := by
      have : s₂ = ({ s₂ with vm := (U.calling g mk a).vm } : State).setVm s₂.vm := rfl
      rw [e2] at this
      exact this
    obtain ⟨c₂, i₂, len₂, hc₂, hd₂, hf₂⟩ := hend
    have hW' : U.WarmedH s₂.vm := hW₂
    have hcc : c₂ = c := by
      have h1 : s₂.code? g.method = U.code? g.method := by
        rw [State.code?_eq, State.code?_eq, hW'.alike.method?]
      exact Option.some.inj (hc₂.symm.trans (h1.trans h.code))
    subst hcc
    have hlen : len₂ = len := by rw [hdg] at hd₂; cases hd₂; rfl
    subst hlen
    have hs₂ : s₂ = (({ U with heap := s₂.heap, slotsUsed := s₂.slotsUsed } : State).setVm s₂.vm).setTop { g with pc := g.pc + len₂, stack := v.toList ++ g.stack } := by
      refine e3.trans ?_
      rw [hf₂, State.calling_eq h.top, State.setFrames_setFrames, State.setTop_of_frames _ hr', hr]
      rfl
    have hsame : U.sameButNew ({ U with heap := s₂.heap, slotsUsed := s₂.slotsUsed } : State) L mc ms := by
      refine ⟨?_, q2, q3, q4, q5, q6⟩
      obtain ⟨t, ht, -⟩ := State.frames_cons hr
      show ({ U with heap := s₂.heap, slotsUsed := s₂.slotsUsed } : State) = { U.setFrames U.frames with heap := s₂.heap, slotsUsed := s₂.slotsUsed }
      rw [State.setFrames_self ht]
    subst hg
    refine Or.inl ⟨v, ⟨(({ U with heap := s₂.heap, slotsUsed := s₂.slotsUsed } : State).setVm s₂.vm), Ls ++ L, c0 + mc, s0 + ms⟩,
      ⟨X.admits, X.cas, X.clock, X.frames, X.room, X.hears, X.method, X.code, (X.here.setHeapUsed s₂.heap s₂.slotsUsed).setVm hW'.alike, X.tail, State.WarmedH.trans X.warmed hW', X.limits, X.bytes, X.same.trans (hsame.setVm s.vm)⟩,
      ⟨g, mk, s₂, L, rfl, rfl, hqc, rfl, hL, rfl, rfl⟩, ?_⟩
    show Steps p.tables e below _ ((({ U with heap := s₂.heap, slotsUsed := s₂.slotsUsed } : State).setVm s₂.vm).setTop { g with pc := g.pc + len₂, stack := v.toList ++ g.stack })
    rw [← hs₂]
    exact hsteps
  · obtain ⟨e2, q2, q3, q4, q5, q6⟩ := id hsm
    have e3 : s₂ = ({ (U.calling g mk a).setFrames s₂.frames with heap := s₂.heap, slotsUsed := s₂.slotsUsed } : State).setVm s₂.vm := by
      have : s₂ = ({ s₂ with vm := (U.calling g mk a).vm } : State).setVm s₂.vm := rfl
      rw [e2] at this
      exact this
    have hf₂ : s₂.frames = .throwing q :: .java g :: U.frames.tail := hend
    have hW' : U.WarmedH s₂.vm := hW₂
    have hs₂ : s₂ = ((({ U with heap := s₂.heap, slotsUsed := s₂.slotsUsed } : State).setVm s₂.vm).setTop g).pushFrame (.throwing q) := by
      refine e3.trans ?_
      rw [hf₂, State.calling_eq h.top, State.setFrames_setFrames, State.pushFrame, State.frames_setTop _ hr', State.setTop_of_frames _ hr', State.setFrames_setFrames, hr]
      rfl
    have hsame : U.sameButNew ({ U with heap := s₂.heap, slotsUsed := s₂.slotsUsed } : State) L mc ms := by
      refine ⟨?_, q2, q3, q4, q5, q6⟩
      obtain ⟨t, ht, -⟩ := State.frames_cons hr
      show ({ U with heap := s₂.heap, slotsUsed := s₂.slotsUsed } : State) = { U.setFrames U.frames with heap := s₂.heap, slotsUsed := s₂.slotsUsed }
      rw [State.setFrames_self ht]
    subst hg
    refine Or.inr ⟨q, ⟨(({ U with heap := s₂.heap, slotsUsed := s₂.slotsUsed } : State).setVm s₂.vm), Ls ++ L, c0 + mc, s0 + ms⟩,
      ⟨X.admits, X.cas, X.clock, X.frames, X.room, X.hears, X.method, X.code, (X.here.setHeapUsed s₂.heap s₂.slotsUsed).setVm hW'.alike, X.tail, State.WarmedH.trans X.warmed hW', X.limits, X.bytes, X.same.trans (hsame.setVm s.vm)⟩,
      ⟨g, mk, s₂, L, E, ce, rfl, rfl, hx, hce, hcv, hcl, rfl, hL, rfl, rfl⟩, ?_⟩
    show Steps p.tables e below _ (((({ U with heap := s₂.heap, slotsUsed := s₂.slotsUsed } : State).setVm s₂.vm).setTop g).pushFrame (.throwing q))
    rw [← hs₂]
    exact hsteps
end
variable {p : Program} {l : Launch} {e : Env} {R : Room} {s : State} {m : MethodId} {args : Array Value} {below : List Frame} {meth : Method} {c : Code} {T : State} {H : Heap} {locs : List Loc} {cells slots : Nat}
theorem vx_callVX (X : Stand p l e R s m args below meth c T locs cells slots) (hexec : p.tables.exec = Jvm.exec) {own C : String} {index : Nat} {y : MethodName} {bytes : ByteArray} {maxL : Nat} {ret : Option FieldType} {hh : List (Nat × Nat × Nat × Nat)}
    (hown : s.vm.findClass own = some m.cls) (hlink : (Cond.methodLink own index y).before args s = true) (hinst : (Cond.instanceMethod y).before args s = true) (hsel : (Cond.selects C y y).before args s = true)
    (hcode : (Cond.codeWith y bytes maxL ret hh).before args s = true) (hy : y.cls ≠ "java/lang/invoke/MethodHandle" ∧ y.cls ≠ "java/lang/invoke/VarHandle")
    {W9 : Nat} {Pre : Pt → Array Value → Prop} {Post : Pt → Array Value → Option Value → Pt → Prop} {PostX : Pt → Array Value → Addr → Pt → Prop} (hK : vx_Back l R p e below s args y 3 W9 Pre Post PostX)
    {b : Addr} {cellB : Cell} (hcell : T.heap[b]? = some cellB) (hobj : cellB.vm.isStatics = false) (hcls : s.vm.findClass C = some cellB.cls)
    {g : JFrame} (hg : g.method = m) (hsize : g.locals.size = c.maxLocals) {argsL rest : List Value} (hlen : ∀ sig, parseMethodDescriptor y.desc = some sig → argsL.length = sig.parameters.length)
    (hstack : g.stack = argsL.reverse ++ .ref b :: rest) (hW : 2 * g.monitorRoom + (rest.map fun v => v.category).sum ≤ W9) (hdg : decode c.code g.pc = .ok (.invokevirtual index, 3))
    (hpre : ∀ vm₁, s.WarmedH vm₁ → Pre ⟨T.setVm vm₁, locs, cells, slots⟩ (Value.ref b :: argsL).toArray) :
    (∃ (v : Option Value) (vm₁ : Vm) (B : Pt), s.WarmedH vm₁ ∧ Stand p l e R s m args below meth c B.U B.locs B.cells B.slots ∧ Post ⟨T.setVm vm₁, locs, cells, slots⟩ (Value.ref b :: argsL).toArray v B ∧
      ∀ target, Steps p.tables e below (B.U.setTop { g with pc := g.pc + 3, stack := v.toList ++ rest }) target → Steps p.tables e below (T.setTop g) target) ∨
    (∃ (q : Addr) (vm₁ : Vm) (B : Pt), s.WarmedH vm₁ ∧ Stand p l e R s m args below meth c B.U B.locs B.cells B.slots ∧ PostX ⟨T.setVm vm₁, locs, cells, slots⟩ (Value.ref b :: argsL).toArray q B ∧
      Steps p.tables e below (T.setTop g) ((B.U.setTop { g with stack := rest }).pushFrame (.throwing q))) := by
  obtain ⟨mk, methM, hnamed, hmethM, hstM, habM⟩ := Cond.instanceMethod_spec hinst
  obtain ⟨m8, methM', cM, hn8, hmethM', -, -, -, -, -, -, hsigM⟩ := Cond.codeWith_spec hcode
  cases Option.some.inj (hn8.symm.trans hnamed)
  cases hmethM.symm.trans hmethM'
  obtain ⟨c2, r2, m2, q1, q2, q3, q4, kP, hkP, hkPi⟩ := Cond.selects_spec hsel
  cases hcls.symm.trans q1
  cases (State.methodFound?_of_named hnamed hy).symm.trans q2
  cases hnamed.symm.trans q3
  have hselP : selectMethod e.platform s.vm cellB.cls mk = .method mk := by rw [Launch.admits_selectMethod X.admits]; exact q4
  obtain ⟨vm₁, X₁, hstep₁⟩ := X.invokevirtual hexec hown hlink hnamed hmethM hstM hkP hkPi hy (a := b) (cell := cellB) hcell
    (fun z h => by rw [h] at hobj; cases hobj) hselP hmethM habM hkP hkPi (g := g) hg (argsL := argsL) (rest := rest) (hlen _ hsigM) hstack hdg
  rcases hK m meth c ⟨T.setVm vm₁, locs, cells, slots⟩ { g with stack := rest } (.invokevirtual index) mk (Value.ref b :: argsL).toArray X₁ hg hsize hdg hW (X₁.named hnamed) (hpre vm₁ X₁.warmed) with ⟨v, B, X', hpost, hsteps⟩ | ⟨q, B, X', hpost, hsteps⟩
  · exact Or.inl ⟨v, vm₁, B, X₁.warmed, X', hpost, fun target h => hstep₁ _ fun acts => by rw [doInvoke_state]; exact hsteps.trans h⟩
  · exact Or.inr ⟨q, vm₁, B, X₁.warmed, X', hpost, hstep₁ _ fun acts => by rw [doInvoke_state]; exact hsteps⟩
theorem vx_callSX (X : Stand p l e R s m args below meth c T locs cells slots) (hexec : p.tables.exec = Jvm.exec) {own : String} {index : Nat} {y : MethodName} {bytes : ByteArray} {maxL : Nat} {ret : Option FieldType} {hh : List (Nat × Nat × Nat × Nat)}
    (hown : s.vm.findClass own = some m.cls) (hlink : (Cond.methodLink own index y).before args s = true) (hstat : (Cond.static y).before args s = true) (hinit : (Cond.initialized y.cls).before args s = true)
    (hcode : (Cond.codeWith y bytes maxL ret hh).before args s = true) (hy : y.cls ≠ "java/lang/invoke/MethodHandle" ∧ y.cls ≠ "java/lang/invoke/VarHandle")
    {W9 : Nat} {Pre : Pt → Array Value → Prop} {Post : Pt → Array Value → Option Value → Pt → Prop} {PostX : Pt → Array Value → Addr → Pt → Prop} (hK : vx_Back l R p e below s args y 3 W9 Pre Post PostX)
    {g : JFrame} (hg : g.method = m) (hsize : g.locals.size = c.maxLocals) {argsL rest : List Value} (hlen : ∀ sig, parseMethodDescriptor y.desc = some sig → argsL.length = sig.parameters.length)
    (hstack : g.stack = argsL.reverse ++ rest) (hW : 2 * g.monitorRoom + (rest.map fun v => v.category).sum ≤ W9) (hdg : decode c.code g.pc = .ok (.invokestatic index, 3))
    (hpre : ∀ vm₁, s.WarmedH vm₁ → Pre ⟨T.setVm vm₁, locs, cells, slots⟩ argsL.toArray) :
    (∃ (v : Option Value) (vm₁ : Vm) (B : Pt), s.WarmedH vm₁ ∧ Stand p l e R s m args below meth c B.U B.locs B.cells B.slots ∧ Post ⟨T.setVm vm₁, locs, cells, slots⟩ argsL.toArray v B ∧
      ∀ target, Steps p.tables e below (B.U.setTop { g with pc := g.pc + 3, stack := v.toList ++ rest }) target → Steps p.tables e below (T.setTop g) target) ∨
    (∃ (q : Addr) (vm₁ : Vm) (B : Pt), s.WarmedH vm₁ ∧ Stand p l e R s m args below meth c B.U B.locs B.cells B.slots ∧ PostX ⟨T.setVm vm₁, locs, cells, slots⟩ argsL.toArray q B ∧
      Steps p.tables e below (T.setTop g) ((B.U.setTop { g with stack := rest }).pushFrame (.throwing q))) := by
  obtain ⟨mk, methM, cM, hnamed, hmethM, -, -, -, -, -, -, hsigM⟩ := Cond.codeWith_spec hcode
  have hstatic : methM.isStatic = true := Cond.static_spec hnamed hmethM hstat
  obtain ⟨kP, hkP, -⟩ := className_of_methodNamed hnamed
  have hinitP : kP.init = .initialized := Cond.initialized_spec (findClass_of_methodNamed hnamed) hkP hinit
  obtain ⟨vm₁, X₁, hstep₁⟩ := X.invokestatic hexec hown hlink hnamed hmethM hstatic hkP hinitP hy (g := g) hg (argsL := argsL) (rest := rest) (hlen _ hsigM) hstack hdg
  rcases hK m meth c ⟨T.setVm vm₁, locs, cells, slots⟩ { g with stack := rest } (.invokestatic index) mk argsL.toArray X₁ hg hsize hdg hW (X₁.named hnamed) (hpre vm₁ X₁.warmed) with ⟨v, B, X', hpost, hsteps⟩ | ⟨q, B, X', hpost, hsteps⟩
  · exact Or.inl ⟨v, vm₁, B, X₁.warmed, X', hpost, fun target h => hstep₁ _ fun acts => by rw [doInvoke_state]; exact hsteps.trans h⟩
  · exact Or.inr ⟨q, vm₁, B, X₁.warmed, X', hpost, hstep₁ _ fun acts => by rw [doInvoke_state]; exact hsteps⟩
theorem vx_callVW (X : Stand p l e R s m args below meth c T locs cells slots) (hexec : p.tables.exec = Jvm.exec) {own C : String} {index : Nat} {y : MethodName} {bytes : ByteArray} {maxL : Nat} {ret : Option FieldType} {hh : List (Nat × Nat × Nat × Nat)}
    (hown : s.vm.findClass own = some m.cls) (hlink : (Cond.methodLink own index y).before args s = true) (hinst : (Cond.instanceMethod y).before args s = true) (hsel : (Cond.selects C y y).before args s = true)
    (hcode : (Cond.codeWith y bytes maxL ret hh).before args s = true) (hy : y.cls ≠ "java/lang/invoke/MethodHandle" ∧ y.cls ≠ "java/lang/invoke/VarHandle")
    {W9 : Nat} {Pre : Pt → Array Value → Prop} {Post : Pt → Array Value → Option Value → Pt → Prop} (hK : Back l R p e below s args y 3 W9 Pre Post)
    {b : Addr} {cellB : Cell} (hcell : T.heap[b]? = some cellB) (hobj : cellB.vm.isStatics = false) (hcls : s.vm.findClass C = some cellB.cls)
    {g : JFrame} (hg : g.method = m) (hsize : g.locals.size = c.maxLocals) {argsL rest : List Value} (hlen : ∀ sig, parseMethodDescriptor y.desc = some sig → argsL.length = sig.parameters.length)
    (hstack : g.stack = argsL.reverse ++ .ref b :: rest) (hW : 2 * g.monitorRoom + (rest.map fun v => v.category).sum ≤ W9) (hdg : decode c.code g.pc = .ok (.invokevirtual index, 3))
    (hpre : ∀ vm₁, s.WarmedH vm₁ → Pre ⟨T.setVm vm₁, locs, cells, slots⟩ (Value.ref b :: argsL).toArray) :
    ∃ (v : Option Value) (vm₁ : Vm) (B : Pt), s.WarmedH vm₁ ∧ Stand p l e R s m args below meth c B.U B.locs B.cells B.slots ∧ Post ⟨T.setVm vm₁, locs, cells, slots⟩ (Value.ref b :: argsL).toArray v B ∧
      ∀ target, Steps p.tables e below (B.U.setTop { g with pc := g.pc + 3, stack := v.toList ++ rest }) target → Steps p.tables e below (T.setTop g) target := by
  obtain ⟨mk, methM, hnamed, hmethM, hstM, habM⟩ := Cond.instanceMethod_spec hinst
  obtain ⟨m8, methM', cM, hn8, hmethM', -, -, -, -, -, -, hsigM⟩ := Cond.codeWith_spec hcode
  cases Option.some.inj (hn8.symm.trans hnamed)
  cases hmethM.symm.trans hmethM'
  obtain ⟨c2, r2, m2, q1, q2, q3, q4, kP, hkP, hkPi⟩ := Cond.selects_spec hsel
  cases hcls.symm.trans q1
  cases (State.methodFound?_of_named hnamed hy).symm.trans q2
  cases hnamed.symm.trans q3
  have hselP : selectMethod e.platform s.vm cellB.cls mk = .method mk := by rw [Launch.admits_selectMethod X.admits]; exact q4
  obtain ⟨vm₁, X₁, hstep₁⟩ := X.invokevirtual hexec hown hlink hnamed hmethM hstM hkP hkPi hy (a := b) (cell := cellB) hcell
    (fun z h => by rw [h] at hobj; cases hobj) hselP hmethM habM hkP hkPi (g := g) hg (argsL := argsL) (rest := rest) (hlen _ hsigM) hstack hdg
  obtain ⟨v, B, X', hpost, hsteps⟩ := hK m meth c ⟨T.setVm vm₁, locs, cells, slots⟩ { g with stack := rest } (.invokevirtual index) mk (Value.ref b :: argsL).toArray X₁ hg hsize hdg hW (X₁.named hnamed) (hpre vm₁ X₁.warmed)
  exact ⟨v, vm₁, B, X₁.warmed, X', hpost, fun target h => hstep₁ _ fun acts => by rw [doInvoke_state]; exact hsteps.trans h⟩
abbrev vx_CVW (R : Room) (s : State) (args : Array Value) (own C : String) (index : Nat) (y : MethodName) (bytes : ByteArray) (maxL : Nat) (ret : Option FieldType) (hh : List (Nat × Nat × Nat × Nat)) (ws : List Cond) (rm : Room) (mc ms n : Nat) : Prop :=
  (rm.cells = mc ∧ rm.slots = ms ∧ rm.frames + 1 ≤ R.frames ∧ 8 + (maxL + 11) + rm.locals ≤ R.locals ∧ (∀ w ∈ ws, ∀ (a' : Array Value) (U : State), s.WarmedH U.vm → w.before a' U = true) ∧ Cond.codeWith y bytes maxL ret hh ∈ ws) ∧
  (Cond.codeWith y bytes maxL ret hh).before args s = true ∧ (Cond.initialized y.cls).before args s = true ∧ (y.cls ≠ "java/lang/invoke/MethodHandle" ∧ y.cls ≠ "java/lang/invoke/VarHandle") ∧
  (∀ sig, parseMethodDescriptor y.desc = some sig → n = sig.parameters.length) ∧ (Cond.methodLink own index y).before args s = true ∧ (Cond.instanceMethod y).before args s = true ∧ (Cond.selects C y y).before args s = true
theorem vx_cwVW {own C : String} {index maxL mc ms : Nat} {y : MethodName} {bytes : ByteArray} {ret : Option FieldType} {hh : List (Nat × Nat × Nat × Nat)} {Ts ws ws' : List Cond} {rm : Room} (n : Nat) (ht : ∀ w ∈ Ts, w.before args s = true) (hT : GoodIn Ts (wsV own index C y ws)) (hw : ws = Cond.codeWith y bytes maxL ret hh :: ws') (hrc : rm.cells = mc) (hrs : rm.slots = ms)
    (hd : y.cls = C ∧ y.cls ≠ "java/lang/invoke/MethodHandle" ∧ y.cls ≠ "java/lang/invoke/VarHandle" ∧ (parseMethodDescriptor y.desc).map (fun d => d.parameters.length) = some n) (hR : rm.frames + 1 ≤ R.frames ∧ 8 + (maxL + 11) + rm.locals ≤ R.locals) :
    vx_CVW R s args own C index y bytes maxL ret hh ws rm mc ms n := by
  obtain ⟨hC, hd⟩ := hd
  subst hC
  have ok : ∀ w ∈ wsV own index y.cls y ws, w.before args s = true := fun w h => ht w (hT w h).1
  have hG : GoodIn Ts ws := fun w h => hT w (by unfold wsV; exact List.mem_append_right _ h)
  have hc : Cond.codeWith y bytes maxL ret hh ∈ ws := by rw [hw]; exact List.mem_cons_self
  refine ⟨⟨hrc, hrs, hR.1, hR.2, pay_in ht hG, hc⟩, ht _ (hG _ hc).1, ok _ (by simp [wsV]), ⟨hd.1, hd.2.1⟩, fun sig h => ?_, ok _ (by simp [wsV]), ok _ (by simp [wsV]), ok _ (by simp [wsV])⟩
  have h2 := hd.2.2
  rw [h] at h2
  exact (Option.some.inj h2).symm
theorem vx_runVW {y : MethodName} {bytes cc : ByteArray} {maxL nL mc ms n index : Nat} {ret : Option FieldType} {hh : List (Nat × Nat × Nat × Nat)} {ws : List Cond} {rm : Room} {Pc : Array Value → State → Prop} {Qc : Array Value → State → Outcome → State → Prop} {free : Addr → Prop} {Ts : List Cond} {own C : String} {b : Addr} {As rest : List Value} {g : JFrame}
    (S : CallFix p m c cc nL s args Ts own) (hM : Met l y ws rm Pc Qc mc ms free) (cw : vx_CVW R s args own C index y bytes maxL ret hh ws rm mc ms n) (hp : PreV s H C b Pc As)
    (hg : g.method = m) (hn : As.length = n) (hsize : g.locals.size = nL) (hstack : g.stack = As.reverse ++ .ref b :: rest) (hW : 2 * g.monitorRoom + (rest.map fun v => v.category).sum ≤ 8) (hdg : decode cc g.pc = .ok (.invokevirtual index, 3)) (hf : cells + mc ≤ R.cells ∧ slots + ms ≤ R.slots) :
    va_Run p l e R s m args below meth c H locs cells slots mc ms g rest (Qc (Value.ref b :: As).toArray) free := by
  obtain ⟨⟨hrc, hrs, hfr, hlo, hws, hcw⟩, hcode, hini, hy, hlen, hl, hin, hse⟩ := cw
  have hK : Back l R p e below s args y 3 8 (PreOf R mc ms Pc) (PostOf Qc mc ms free) := va_backW (hh := hh) (bytes := bytes) (maxL := maxL) (ret := ret) hM hp.1 hrc hrs hfr hlo hws hcw (fun a' U hW => word_at hW (Or.inl (by first | rfl | simp [Cond.onTables, Cond.keeps, Cond.steady])) hini)
  obtain ⟨hx, hb, hml, ho, -⟩ := S
  obtain ⟨-, ⟨cellB, hcB, hoB, hclB⟩, hPc⟩ := hp
  intro T hT X
  obtain ⟨v, vm₁, ⟨U', l2, c2, s2⟩, hW₁, X', ⟨g', mk, t, L, e1, e2, hq, h1, hL, h2, h3⟩, st⟩ := vx_callVW X hx (C := C) (hh := hh) (bytes := bytes) (maxL := maxL) (ret := ret) ho hl hin hse hcode hy hK (by rw [hT]; exact hcB) hoB hclB hg (hsize.trans hml.symm) (argsL := As) (rest := rest) (fun sig h => hn.trans (hlen sig h)) hstack hW (by rw [hb]; exact hdg)
    (fun vm₁ hW₁ => ⟨hf.1, hf.2, hPc (T.setVm vm₁) hT hW₁⟩)
  dsimp only [Pt.U, Pt.locs, Pt.cells, Pt.slots] at X' e1 e2 h1 h2 h3 st
  subst h1; subst h2; subst h3
  exact ⟨v, (T.setVm vm₁).calling g' mk (Value.ref b :: As).toArray, t, U', L, hT, X', hL, e1, e2, hq, st⟩
section
variable {y : MethodName} {bytes cc : ByteArray} {maxL nL mc ms n index : Nat} {ret : Option FieldType} {ws : List Cond} {rm : Room} {Pc : Array Value → State → Prop} {Qc : Array Value → State → Outcome → State → Prop} {XC : String → State → State → Prop} {free : Addr → Prop} {Ts : List Cond} {own C : String} {b : Addr} {As rest : List Value} {g : JFrame}
theorem vx_runVX {hh : List (Nat × Nat × Nat × Nat)} (S : CallFix p m c cc nL s args Ts own) (hM : vx_Met l y ws rm Pc Qc XC mc ms free) (cw : vx_CVW R s args own C index y bytes maxL ret hh ws rm mc ms n) (hp : PreV s H C b Pc As)
    (hg : g.method = m) (hn : As.length = n) (hsize : g.locals.size = nL) (hstack : g.stack = As.reverse ++ .ref b :: rest) (hW : 2 * g.monitorRoom + (rest.map fun v => v.category).sum ≤ 8) (hdg : decode cc g.pc = .ok (.invokevirtual index, 3)) (hf : cells + mc ≤ R.cells ∧ slots + ms ≤ R.slots) :
    vx_Run p l e R s m args below meth c H locs cells slots mc ms g rest (Qc (Value.ref b :: As).toArray) XC free := by
  obtain ⟨⟨hrc, hrs, hfr, hlo, hws, hcw⟩, hcode, hini, hy, hlen, hl, hin, hse⟩ := cw
  have hK : vx_Back l R p e below s args y 3 8 (PreOf R mc ms Pc) (PostOf Qc mc ms free) (vx_Post XC mc ms free) := vx_backW (hh := hh) (bytes := bytes) (maxL := maxL) (ret := ret) hM hp.1 hrc hrs hfr hlo hws hcw (fun a' U hW => word_at hW (Or.inl (by first | rfl | simp [Cond.onTables, Cond.keeps, Cond.steady])) hini)
  obtain ⟨hx, hb, hml, ho, -⟩ := S
  obtain ⟨-, ⟨cellB, hcB, hoB, hclB⟩, hPc⟩ := hp
  intro T hT X
  rcases vx_callVX X hx (C := C) (hh := hh) (bytes := bytes) (maxL := maxL) (ret := ret) ho hl hin hse hcode hy hK (by rw [hT]; exact hcB) hoB hclB hg (hsize.trans hml.symm) (argsL := As) (rest := rest) (fun sig h => hn.trans (hlen sig h)) hstack hW (by rw [hb]; exact hdg)
    (fun vm₁ hW₁ => ⟨hf.1, hf.2, hPc (T.setVm vm₁) hT hW₁⟩) with ⟨v, vm₁, ⟨U', l2, c2, s2⟩, hW₁, X', ⟨g', mk, t, L, e1, e2, hq, h1, hL, h2, h3⟩, st⟩ | ⟨q, vm₁, ⟨U', l2, c2, s2⟩, hW₁, X', ⟨g', mk, t, L, E, ce, e1, e2, hq, hce, hcv, hcl, h1, hL, h2, h3⟩, st⟩
  · dsimp only [Pt.U, Pt.locs, Pt.cells, Pt.slots] at X' e1 e2 h1 h2 h3 st
    subst h1; subst h2; subst h3
    exact Or.inl ⟨v, (T.setVm vm₁).calling g' mk (Value.ref b :: As).toArray, t, U', L, hT, X', hL, e1, e2, hq, st⟩
  · dsimp only [Pt.U, Pt.locs, Pt.cells, Pt.slots] at X' e1 e2 h1 h2 h3 st hcl
    subst h1; subst h2; subst h3
    exact Or.inr ⟨q, (T.setVm vm₁).calling g' mk (Value.ref b :: As).toArray, t, U', L, E, ce, hT, X', hL, e1, e2, hq, hce, hcv, vx_cls hW₁ hcl, st⟩
theorem vx_runSX {hh : List (Nat × Nat × Nat × Nat)} (S : CallFix p m c cc nL s args Ts own) (hM : vx_Met l y ws rm Pc Qc XC mc ms free) (cw : vx_CSW R s args own index y bytes maxL ret hh ws rm mc ms n) (hp : PreS s H Pc As)
    (hg : g.method = m) (hn : As.length = n) (hsize : g.locals.size = nL) (hstack : g.stack = As.reverse ++ rest) (hW : 2 * g.monitorRoom + (rest.map fun v => v.category).sum ≤ 8) (hdg : decode cc g.pc = .ok (.invokestatic index, 3)) (hf : cells + mc ≤ R.cells ∧ slots + ms ≤ R.slots) :
    vx_Run p l e R s m args below meth c H locs cells slots mc ms g rest (Qc As.toArray) XC free := by
  obtain ⟨⟨hrc, hrs, hfr, hlo, hws, hcw⟩, hcode, hini, hy, hlen, hl, hstt⟩ := cw
  have hK : vx_Back l R p e below s args y 3 8 (PreOf R mc ms Pc) (PostOf Qc mc ms free) (vx_Post XC mc ms free) := vx_backW (hh := hh) (bytes := bytes) (maxL := maxL) (ret := ret) hM hp.1 hrc hrs hfr hlo hws hcw (fun a' U hW => word_at hW (Or.inl (by first | rfl | simp [Cond.onTables, Cond.keeps, Cond.steady])) hini)
  obtain ⟨hx, hb, hml, ho, -⟩ := S
  intro T hT X
  rcases vx_callSX X hx (hh := hh) (bytes := bytes) (maxL := maxL) (ret := ret) ho hl hstt hini hcode hy hK hg (hsize.trans hml.symm) (argsL := As) (rest := rest) (fun sig h => hn.trans (hlen sig h)) hstack hW (by rw [hb]; exact hdg)
    (fun vm₁ hW₁ => ⟨hf.1, hf.2, hp.2 (T.setVm vm₁) hT hW₁⟩) with ⟨v, vm₁, ⟨U', l2, c2, s2⟩, hW₁, X', ⟨g', mk, t, L, e1, e2, hq, h1, hL, h2, h3⟩, st⟩ | ⟨q, vm₁, ⟨U', l2, c2, s2⟩, hW₁, X', ⟨g', mk, t, L, E, ce, e1, e2, hq, hce, hcv, hcl, h1, hL, h2, h3⟩, st⟩
  · dsimp only [Pt.U, Pt.locs, Pt.cells, Pt.slots] at X' e1 e2 h1 h2 h3 st
    subst h1; subst h2; subst h3
    exact Or.inl ⟨v, (T.setVm vm₁).calling g' mk As.toArray, t, U', L, hT, X', hL, e1, e2, hq, st⟩
  · dsimp only [Pt.U, Pt.locs, Pt.cells, Pt.slots] at X' e1 e2 h1 h2 h3 st hcl
    subst h1; subst h2; subst h3
    exact Or.inr ⟨q, (T.setVm vm₁).calling g' mk As.toArray, t, U', L, E, ce, hT, X', hL, e1, e2, hq, hce, hcv, vx_cls hW₁ hcl, st⟩
end
end VXH
theorem vx_ofWH {l : Launch} {y : MethodName} {ws ws' : List Cond} {rm : Room} {Pc : Array Value → State → Prop} {Qc : Array Value → State → Outcome → State → Prop} {XC : String → State → State → Prop} {mc ms : Nat} {free : Addr → Prop} {cc : ByteArray} {maxL : Nat} {ret : Option FieldType} {hh : List (Nat × Nat × Nat × Nat)}
    (hy : plainName y.cls = true) (hw : ws = Cond.codeWith y cc maxL ret hh :: ws')
    (body : ∀ p e s m args below meth c s₁, BodyLoose p l y (headSpec ws rm) cc maxL ret e s m args below meth c s₁ → c.maxLocals = maxL → Pc args s →
      W p l e (headSpec ws rm).room s m args below meth c s.heap [] 0 0 (vx_MQ below Qc XC args s mc ms free) (entryFrame m args maxL)) : vx_Met l y ws rm Pc Qc XC mc ms free := by
  refine MetFree.of_bodyS (code := cc) (maxLocals := maxL) (ret := ret) hy ?_ ?_
  · intro args s m h hn
    obtain ⟨m9, meth, c, hn9, h1, h2, h3, h4, -, h5, h6, -⟩ := Cond.codeWith_spec (atoms_spec (ws := ws) h _ (by rw [hw]; exact List.mem_cons_self))
    cases hn.symm.trans hn9
    exact ⟨meth, c, h1, h2, h3, h4, h5, h6⟩
  · intro p e s m args below meth c s₁ B hml hP _
    have hh0 : s₁.heap = s.heap := by rw [B.state]; rfl
    obtain ⟨t, a1, o, b1, b2, b3⟩ := body p e s m args below meth c s₁ B hml hP s₁ hh0 (Stand.of_body B)
    exact ⟨t, o, a1, b1, b2, b3⟩
/-! ===== END ===== -/
def RX0 : String := "BitDesk$Closure"
def TX0 : u_T := fun k => match k with
  | 0 => ("BitDesk$Closure", "reach", "[I", true)
  | _ => ("BitDesk$Closure", "isCurrent", "Z", false)
def tyX0 : Nat → FieldType := fun k => match k with
  | 0 => .array .int
  | _ => .boolean
theorem nmX0 : ∀ a, a < 2 → ∀ b, b < 2 → a ≠ b → (TX0 a).2.1 ≠ (TX0 b).2.1 := by decide +kernel
theorem tyX0_ok : ∀ k, k < 2 → parseFieldDescriptor (TX0 k).2.2.1 = some (tyX0 k) := by decide +kernel
abbrev cX0_init : ByteArray := prog_2_method_1_code
def yX0_init : MethodName := ⟨RX0, "<init>", "()V"⟩
abbrev cX0_makeFrom : ByteArray := prog_2_method_2_code
def yX0_makeFrom : MethodName := ⟨RX0, "makeFrom", "([II)V"⟩
abbrev cX0_nodesTo : ByteArray := prog_2_method_3_code
def yX0_nodesTo : MethodName := ⟨RX0, "nodesTo", "(II)I"⟩
abbrev cX0_lowestMutual : ByteArray := prog_2_method_4_code
def yX0_lowestMutual : MethodName := ⟨RX0, "lowestMutual", "(II)I"⟩
abbrev cX0_gainWith : ByteArray := prog_2_method_5_code
def yX0_gainWith : MethodName := ⟨RX0, "gainWith", "(III)I"⟩
abbrev cX0_extend : ByteArray := prog_2_method_6_code
def yX0_extend : MethodName := ⟨RX0, "extend", "(III)I"⟩
abbrev cX0_mend : ByteArray := prog_2_method_7_code
def yX0_mend : MethodName := ⟨RX0, "mend", "(I[II)I"⟩
abbrev cX0_lossBy : ByteArray := prog_2_method_8_code
def yX0_lossBy : MethodName := ⟨RX0, "lossBy", "([IIII)I"⟩
def RX1 : String := "BitDesk$Elimination"
def TX1 : u_T := fun k => match k with
  | 0 => ("BitDesk$Elimination", "left", "[I", true)
  | 1 => ("BitDesk$Elimination", "right", "[I", true)
  | 2 => ("BitDesk$Elimination", "pivots", "[I", true)
  | _ => ("BitDesk$Elimination", "pivotCount", "I", false)
def tyX1 : Nat → FieldType := fun k => match k with
  | 0 => .array .int
  | 1 => .array .int
  | 2 => .array .int
  | _ => .int
theorem nmX1 : ∀ a, a < 4 → ∀ b, b < 4 → a ≠ b → (TX1 a).2.1 ≠ (TX1 b).2.1 := by decide +kernel
theorem tyX1_ok : ∀ k, k < 4 → parseFieldDescriptor (TX1 k).2.2.1 = some (tyX1 k) := by decide +kernel
abbrev cX1_init : ByteArray := prog_3_method_1_code
def yX1_init : MethodName := ⟨RX1, "<init>", "()V"⟩
abbrev cX1_eliminate : ByteArray := prog_3_method_2_code
def yX1_eliminate : MethodName := ⟨RX1, "eliminate", "([III)V"⟩
abbrev cX1_eliminateBesideUnit : ByteArray := prog_3_method_3_code
def yX1_eliminateBesideUnit : MethodName := ⟨RX1, "eliminateBesideUnit", "([II)V"⟩
abbrev cX1_isSolvable : ByteArray := prog_3_method_4_code
def yX1_isSolvable : MethodName := ⟨RX1, "isSolvable", "(I)Z"⟩
abbrev cX1_solution : ByteArray := prog_3_method_5_code
def yX1_solution : MethodName := ⟨RX1, "solution", "()I"⟩
abbrev cX1_pivotAt : ByteArray := prog_3_method_6_code
def yX1_pivotAt : MethodName := ⟨RX1, "pivotAt", "(I)I"⟩
abbrev cX1_eliminateAll : ByteArray := prog_3_method_7_code
def yX1_eliminateAll : MethodName := ⟨RX1, "eliminateAll", "([II)V"⟩
abbrev cX1_rowNotTaken : ByteArray := prog_3_method_8_code
def yX1_rowNotTaken : MethodName := ⟨RX1, "rowNotTaken", "(II)I"⟩
abbrev cX1_swapRows : ByteArray := prog_3_method_9_code
def yX1_swapRows : MethodName := ⟨RX1, "swapRows", "(II)V"⟩
abbrev cX1_clearOthers : ByteArray := prog_3_method_10_code
def yX1_clearOthers : MethodName := ⟨RX1, "clearOthers", "(III)V"⟩
def RX2 : String := "BitDesk$Matrix"
def TX2 : u_T := fun k => match k with
  | 0 => ("BitDesk$Matrix", "rows", "[I", true)
  | 1 => ("BitDesk$Matrix", "isKept", "Z", false)
  | 2 => ("BitDesk$Matrix", "lookedLately", "I", false)
  | 3 => ("BitDesk$Matrix", "lookedInAll", "I", false)
  | _ => ("BitDesk$Matrix", "timesMadeAnew", "I", false)
def tyX2 : Nat → FieldType := fun k => match k with
  | 0 => .array .int
  | 1 => .boolean
  | 2 => .int
  | 3 => .int
  | _ => .int
theorem nmX2 : ∀ a, a < 5 → ∀ b, b < 5 → a ≠ b → (TX2 a).2.1 ≠ (TX2 b).2.1 := by decide +kernel
theorem tyX2_ok : ∀ k, k < 5 → parseFieldDescriptor (TX2 k).2.2.1 = some (tyX2 k) := by decide +kernel
abbrev cX2_init : ByteArray := prog_4_method_1_code
def yX2_init : MethodName := ⟨RX2, "<init>", "()V"⟩
abbrev cX2_makeEmpty : ByteArray := prog_4_method_2_code
def yX2_makeEmpty : MethodName := ⟨RX2, "makeEmpty", "()V"⟩
abbrev cX2_takeFrom : ByteArray := prog_4_method_3_code
def yX2_takeFrom : MethodName := ⟨RX2, "takeFrom", "(LBitDesk$Matrix;)V"⟩
abbrev cX2_noteLooked : ByteArray := prog_4_method_4_code
def yX2_noteLooked : MethodName := ⟨RX2, "noteLooked", "(I)V"⟩
abbrev cX2_noteMadeAnew : ByteArray := prog_4_method_5_code
def yX2_noteMadeAnew : MethodName := ⟨RX2, "noteMadeAnew", "(I)V"⟩
def RX3 : String := "BitDesk$Multiplier"
def TX3 : u_T := fun k => match k with
  | 0 => ("BitDesk$Multiplier", "table", "[I", true)
  | 1 => ("BitDesk$Multiplier", "first", "[I", true)
  | 2 => ("BitDesk$Multiplier", "second", "[I", true)
  | 3 => ("BitDesk$Multiplier", "size", "I", false)
  | 4 => ("BitDesk$Multiplier", "block", "I", false)
  | 5 => ("BitDesk$Multiplier", "isField", "Z", false)
  | 6 => ("BitDesk$Multiplier", "entriesMade", "I", false)
  | _ => ("BitDesk$Multiplier", "entriesTaken", "I", false)
def tyX3 : Nat → FieldType := fun k => match k with
  | 0 => .array .int
  | 1 => .array .int
  | 2 => .array .int
  | 3 => .int
  | 4 => .int
  | 5 => .boolean
  | 6 => .int
  | _ => .int
theorem nmX3 : ∀ a, a < 8 → ∀ b, b < 8 → a ≠ b → (TX3 a).2.1 ≠ (TX3 b).2.1 := by decide +kernel
theorem tyX3_ok : ∀ k, k < 8 → parseFieldDescriptor (TX3 k).2.2.1 = some (tyX3 k) := by decide +kernel
abbrev cX3_init : ByteArray := prog_5_method_1_code
def yX3_init : MethodName := ⟨RX3, "<init>", "()V"⟩
abbrev cX3_begin : ByteArray := prog_5_method_2_code
def yX3_begin : MethodName := ⟨RX3, "begin", "(LBitDesk$State;Z)V"⟩
abbrev cX3_multiply : ByteArray := prog_5_method_3_code
def yX3_multiply : MethodName := ⟨RX3, "multiply", "([I[I[I)V"⟩
abbrev cX3_raise : ByteArray := prog_5_method_4_code
def yX3_raise : MethodName := ⟨RX3, "raise", "([II)[I"⟩
abbrev cX3_fillTable : ByteArray := prog_5_method_5_code
def yX3_fillTable : MethodName := ⟨RX3, "fillTable", "([III)V"⟩
abbrev cX3_takeEntries : ByteArray := prog_5_method_6_code
def yX3_takeEntries : MethodName := ⟨RX3, "takeEntries", "([I[III)V"⟩
abbrev cX3_joined : ByteArray := prog_5_method_7_code
def yX3_joined : MethodName := ⟨RX3, "joined", "(II)I"⟩
def RX4 : String := "BitDesk$Reader"
def TX4 : u_T := fun k => match k with
  | 0 => ("BitDesk$Reader", "text", "[I", true)
  | 1 => ("BitDesk$Reader", "length", "I", false)
  | 2 => ("BitDesk$Reader", "position", "I", false)
  | 3 => ("BitDesk$Reader", "start", "I", false)
  | 4 => ("BitDesk$Reader", "statement", "I", false)
  | 5 => ("BitDesk$Reader", "error", "I", false)
  | _ => ("BitDesk$Reader", "errorPosition", "I", false)
def tyX4 : Nat → FieldType := fun k => match k with
  | 0 => .array .int
  | 1 => .int
  | 2 => .int
  | 3 => .int
  | 4 => .int
  | 5 => .int
  | _ => .int
theorem nmX4 : ∀ a, a < 7 → ∀ b, b < 7 → a ≠ b → (TX4 a).2.1 ≠ (TX4 b).2.1 := by decide +kernel
theorem tyX4_ok : ∀ k, k < 7 → parseFieldDescriptor (TX4 k).2.2.1 = some (tyX4 k) := by decide +kernel
abbrev cX4_init : ByteArray := prog_6_method_1_code
def yX4_init : MethodName := ⟨RX4, "<init>", "()V"⟩
abbrev cX4_addBytes : ByteArray := prog_6_method_2_code
def yX4_addBytes : MethodName := ⟨RX4, "addBytes", "(J)I"⟩
abbrev cX4_readInto : ByteArray := prog_6_method_3_code
def yX4_readInto : MethodName := ⟨RX4, "readInto", "(LBitDesk$State;)V"⟩
abbrev cX4_readSize : ByteArray := prog_6_method_4_code
def yX4_readSize : MethodName := ⟨RX4, "readSize", "(LBitDesk$State;)V"⟩
abbrev cX4_readStatement : ByteArray := prog_6_method_5_code
def yX4_readStatement : MethodName := ⟨RX4, "readStatement", "(LBitDesk$State;)V"⟩
abbrev cX4_readEdge : ByteArray := prog_6_method_6_code
def yX4_readEdge : MethodName := ⟨RX4, "readEdge", "(LBitDesk$State;)V"⟩
abbrev cX4_readRow : ByteArray := prog_6_method_7_code
def yX4_readRow : MethodName := ⟨RX4, "readRow", "(LBitDesk$State;)V"⟩
abbrev cX4_readKeep : ByteArray := prog_6_method_8_code
def yX4_readKeep : MethodName := ⟨RX4, "readKeep", "(LBitDesk$State;)V"⟩
abbrev cX4_readFill : ByteArray := prog_6_method_9_code
def yX4_readFill : MethodName := ⟨RX4, "readFill", "(LBitDesk$State;)V"⟩
abbrev cX4_rowOfKind : ByteArray := prog_6_method_10_code
def yX4_rowOfKind : MethodName := ⟨RX4, "rowOfKind", "(II)I"⟩
abbrev cX4_hasMore : ByteArray := prog_6_method_11_code
def yX4_hasMore : MethodName := ⟨RX4, "hasMore", "()Z"⟩
abbrev cX4_takeSemicolon : ByteArray := prog_6_method_12_code
def yX4_takeSemicolon : MethodName := ⟨RX4, "takeSemicolon", "()V"⟩
abbrev cX4_takeWord : ByteArray := prog_6_method_13_code
def yX4_takeWord : MethodName := ⟨RX4, "takeWord", "()V"⟩
abbrev cX4_takeDigits : ByteArray := prog_6_method_14_code
def yX4_takeDigits : MethodName := ⟨RX4, "takeDigits", "()V"⟩
abbrev cX4_takeNumber : ByteArray := prog_6_method_15_code
def yX4_takeNumber : MethodName := ⟨RX4, "takeNumber", "(II)I"⟩
abbrev cX4_takeBits : ByteArray := prog_6_method_16_code
def yX4_takeBits : MethodName := ⟨RX4, "takeBits", "(I)I"⟩
abbrev cX4_skipSpaces : ByteArray := prog_6_method_17_code
def yX4_skipSpaces : MethodName := ⟨RX4, "skipSpaces", "()V"⟩
abbrev cX4_isWord : ByteArray := prog_6_method_18_code
def yX4_isWord : MethodName := ⟨RX4, "isWord", "(Ljava/lang/String;)Z"⟩
abbrev cX4_fail : ByteArray := prog_6_method_19_code
def yX4_fail : MethodName := ⟨RX4, "fail", "(II)V"⟩
def RX5 : String := "BitDesk$State"
def TX5 : u_T := fun k => match k with
  | 0 => ("BitDesk$State", "slots", "[LBitDesk$Matrix;", true)
  | 1 => ("BitDesk$State", "size", "I", false)
  | 2 => ("BitDesk$State", "block", "I", false)
  | 3 => ("BitDesk$State", "entriesMade", "I", false)
  | _ => ("BitDesk$State", "entriesTaken", "I", false)
def tyX5 : Nat → FieldType := fun k => match k with
  | 0 => .array (.object "BitDesk$Matrix")
  | 1 => .int
  | 2 => .int
  | 3 => .int
  | _ => .int
theorem nmX5 : ∀ a, a < 5 → ∀ b, b < 5 → a ≠ b → (TX5 a).2.1 ≠ (TX5 b).2.1 := by decide +kernel
theorem tyX5_ok : ∀ k, k < 5 → parseFieldDescriptor (TX5 k).2.2.1 = some (tyX5 k) := by decide +kernel
abbrev cX5_init : ByteArray := prog_7_method_1_code
def yX5_init : MethodName := ⟨RX5, "<init>", "()V"⟩
abbrev cX5_makeEmpty : ByteArray := prog_7_method_2_code
def yX5_makeEmpty : MethodName := ⟨RX5, "makeEmpty", "(I)V"⟩
abbrev cX5_takeFrom : ByteArray := prog_7_method_3_code
def yX5_takeFrom : MethodName := ⟨RX5, "takeFrom", "(LBitDesk$State;)V"⟩
def RX6 : String := "BitDesk"
def TX6 : u_T := fun k => match k with
  | 0 => ("BitDesk", "reader", "LBitDesk$Reader;", true)
  | 1 => ("BitDesk", "state", "LBitDesk$State;", true)
  | 2 => ("BitDesk", "described", "LBitDesk$State;", true)
  | 3 => ("BitDesk", "past", "[LBitDesk$State;", true)
  | 4 => ("BitDesk", "pastNext", "I", false)
  | 5 => ("BitDesk", "pastCount", "I", false)
  | 6 => ("BitDesk", "snapshots", "[LBitDesk$State;", true)
  | 7 => ("BitDesk", "isSaved", "[Z", true)
  | 8 => ("BitDesk", "closures", "[LBitDesk$Closure;", true)
  | 9 => ("BitDesk", "multiplier", "LBitDesk$Multiplier;", true)
  | 10 => ("BitDesk", "elimination", "LBitDesk$Elimination;", true)
  | 11 => ("BitDesk", "made", "[I", true)
  | 12 => ("BitDesk", "levels", "[I", true)
  | 13 => ("BitDesk", "output", "[I", true)
  | _ => ("BitDesk", "outputLength", "I", false)
def tyX6 : Nat → FieldType := fun k => match k with
  | 0 => .object "BitDesk$Reader"
  | 1 => .object "BitDesk$State"
  | 2 => .object "BitDesk$State"
  | 3 => .array (.object "BitDesk$State")
  | 4 => .int
  | 5 => .int
  | 6 => .array (.object "BitDesk$State")
  | 7 => .array .boolean
  | 8 => .array (.object "BitDesk$Closure")
  | 9 => .object "BitDesk$Multiplier"
  | 10 => .object "BitDesk$Elimination"
  | 11 => .array .int
  | 12 => .array .int
  | 13 => .array .int
  | _ => .int
theorem nmX6 : ∀ a, a < 15 → ∀ b, b < 15 → a ≠ b → (TX6 a).2.1 ≠ (TX6 b).2.1 := by decide +kernel
theorem tyX6_ok : ∀ k, k < 15 → parseFieldDescriptor (TX6 k).2.2.1 = some (tyX6 k) := by decide +kernel
abbrev cX6_init : ByteArray := prog_1_method_1_code
def yX6_init : MethodName := ⟨RX6, "<init>", "()V"⟩
abbrev cX6_append : ByteArray := prog_1_method_2_code
def yX6_append : MethodName := ⟨RX6, "append", "(J)I"⟩
abbrev cX6_load : ByteArray := prog_1_method_3_code
def yX6_load : MethodName := ⟨RX6, "load", "()I"⟩
abbrev cX6_loadError : ByteArray := prog_1_method_4_code
def yX6_loadError : MethodName := ⟨RX6, "loadError", "()I"⟩
abbrev cX6_loadStatement : ByteArray := prog_1_method_5_code
def yX6_loadStatement : MethodName := ⟨RX6, "loadStatement", "()I"⟩
abbrev cX6_count : ByteArray := prog_1_method_6_code
def yX6_count : MethodName := ⟨RX6, "count", "(I)I"⟩
abbrev cX6_bit : ByteArray := prog_1_method_7_code
def yX6_bit : MethodName := ⟨RX6, "bit", "(III)I"⟩
abbrev cX6_row : ByteArray := prog_1_method_8_code
def yX6_row : MethodName := ⟨RX6, "row", "(II)J"⟩
abbrev cX6_rank : ByteArray := prog_1_method_9_code
def yX6_rank : MethodName := ⟨RX6, "rank", "(III)I"⟩
abbrev cX6_select : ByteArray := prog_1_method_10_code
def yX6_select : MethodName := ⟨RX6, "select", "(III)I"⟩
abbrev cX6_ones : ByteArray := prog_1_method_11_code
def yX6_ones : MethodName := ⟨RX6, "ones", "(I)I"⟩
abbrev cX6_columnOnes : ByteArray := prog_1_method_12_code
def yX6_columnOnes : MethodName := ⟨RX6, "columnOnes", "(II)I"⟩
abbrev cX6_sameAs : ByteArray := prog_1_method_13_code
def yX6_sameAs : MethodName := ⟨RX6, "sameAs", "(II)I"⟩
abbrev cX6_classes : ByteArray := prog_1_method_14_code
def yX6_classes : MethodName := ⟨RX6, "classes", "(I)I"⟩
abbrev cX6_classOf : ByteArray := prog_1_method_15_code
def yX6_classOf : MethodName := ⟨RX6, "classOf", "(II)I"⟩
abbrev cX6_find : ByteArray := prog_1_method_16_code
def yX6_find : MethodName := ⟨RX6, "find", "(IJ)I"⟩
abbrev cX6_nearest : ByteArray := prog_1_method_17_code
def yX6_nearest : MethodName := ⟨RX6, "nearest", "(II)I"⟩
abbrev cX6_density : ByteArray := prog_1_method_18_code
def yX6_density : MethodName := ⟨RX6, "density", "(I)D"⟩
abbrev cX6_isSymmetric : ByteArray := prog_1_method_19_code
def yX6_isSymmetric : MethodName := ⟨RX6, "isSymmetric", "(I)Z"⟩
abbrev cX6_reaches : ByteArray := prog_1_method_20_code
def yX6_reaches : MethodName := ⟨RX6, "reaches", "(III)I"⟩
abbrev cX6_reached : ByteArray := prog_1_method_21_code
def yX6_reached : MethodName := ⟨RX6, "reached", "(II)I"⟩
abbrev cX6_pairs : ByteArray := prog_1_method_22_code
def yX6_pairs : MethodName := ⟨RX6, "pairs", "(I)I"⟩
abbrev cX6_meanReach : ByteArray := prog_1_method_23_code
def yX6_meanReach : MethodName := ⟨RX6, "meanReach", "(I)F"⟩
abbrev cX6_component : ByteArray := prog_1_method_24_code
def yX6_component : MethodName := ⟨RX6, "component", "(II)I"⟩
abbrev cX6_components : ByteArray := prog_1_method_25_code
def yX6_components : MethodName := ⟨RX6, "components", "(I)I"⟩
abbrev cX6_distance : ByteArray := prog_1_method_26_code
def yX6_distance : MethodName := ⟨RX6, "distance", "(III)I"⟩
abbrev cX6_stepAt : ByteArray := prog_1_method_27_code
def yX6_stepAt : MethodName := ⟨RX6, "stepAt", "(IIII)I"⟩
abbrev cX6_around : ByteArray := prog_1_method_28_code
def yX6_around : MethodName := ⟨RX6, "around", "(II)I"⟩
abbrev cX6_girth : ByteArray := prog_1_method_29_code
def yX6_girth : MethodName := ⟨RX6, "girth", "(I)I"⟩
abbrev cX6_order : ByteArray := prog_1_method_30_code
def yX6_order : MethodName := ⟨RX6, "order", "(II)I"⟩
abbrev cX6_gained : ByteArray := prog_1_method_31_code
def yX6_gained : MethodName := ⟨RX6, "gained", "(III)I"⟩
abbrev cX6_lost : ByteArray := prog_1_method_32_code
def yX6_lost : MethodName := ⟨RX6, "lost", "(III)I"⟩
abbrev cX6_bestEdge : ByteArray := prog_1_method_33_code
def yX6_bestEdge : MethodName := ⟨RX6, "bestEdge", "(I)I"⟩
abbrev cX6_weakest : ByteArray := prog_1_method_34_code
def yX6_weakest : MethodName := ⟨RX6, "weakest", "(I)I"⟩
abbrev cX6_triangles : ByteArray := prog_1_method_35_code
def yX6_triangles : MethodName := ⟨RX6, "triangles", "(I)I"⟩
abbrev cX6_fieldRank : ByteArray := prog_1_method_36_code
def yX6_fieldRank : MethodName := ⟨RX6, "fieldRank", "(I)I"⟩
abbrev cX6_solve : ByteArray := prog_1_method_37_code
def yX6_solve : MethodName := ⟨RX6, "solve", "(IJ)J"⟩
abbrev cX6_freedom : ByteArray := prog_1_method_38_code
def yX6_freedom : MethodName := ⟨RX6, "freedom", "(IJ)I"⟩
abbrev cX6_pivot : ByteArray := prog_1_method_39_code
def yX6_pivot : MethodName := ⟨RX6, "pivot", "(II)I"⟩
abbrev cX6_put : ByteArray := prog_1_method_40_code
def yX6_put : MethodName := ⟨RX6, "put", "(IIIZ)I"⟩
abbrev cX6_setRow : ByteArray := prog_1_method_41_code
def yX6_setRow : MethodName := ⟨RX6, "setRow", "(IIJ)I"⟩
abbrev cX6_copy : ByteArray := prog_1_method_42_code
def yX6_copy : MethodName := ⟨RX6, "copy", "(II)I"⟩
abbrev cX6_transpose : ByteArray := prog_1_method_43_code
def yX6_transpose : MethodName := ⟨RX6, "transpose", "(II)I"⟩
abbrev cX6_combine : ByteArray := prog_1_method_44_code
def yX6_combine : MethodName := ⟨RX6, "combine", "(IIII)I"⟩
abbrev cX6_product : ByteArray := prog_1_method_45_code
def yX6_product : MethodName := ⟨RX6, "product", "(IIIZ)I"⟩
abbrev cX6_power : ByteArray := prog_1_method_46_code
def yX6_power : MethodName := ⟨RX6, "power", "(IIIZ)I"⟩
abbrev cX6_invert : ByteArray := prog_1_method_47_code
def yX6_invert : MethodName := ⟨RX6, "invert", "(II)I"⟩
abbrev cX6_close : ByteArray := prog_1_method_48_code
def yX6_close : MethodName := ⟨RX6, "close", "(II)I"⟩
abbrev cX6_reduce : ByteArray := prog_1_method_49_code
def yX6_reduce : MethodName := ⟨RX6, "reduce", "(II)I"⟩
abbrev cX6_exchange : ByteArray := prog_1_method_50_code
def yX6_exchange : MethodName := ⟨RX6, "exchange", "(III)I"⟩
abbrev cX6_keep : ByteArray := prog_1_method_51_code
def yX6_keep : MethodName := ⟨RX6, "keep", "(IZ)I"⟩
abbrev cX6_setBlock : ByteArray := prog_1_method_52_code
def yX6_setBlock : MethodName := ⟨RX6, "setBlock", "(I)I"⟩
abbrev cX6_kept : ByteArray := prog_1_method_53_code
def yX6_kept : MethodName := ⟨RX6, "kept", "(II)I"⟩
abbrev cX6_work : ByteArray := prog_1_method_54_code
def yX6_work : MethodName := ⟨RX6, "work", "(I)I"⟩
abbrev cX6_writeRow : ByteArray := prog_1_method_55_code
def yX6_writeRow : MethodName := ⟨RX6, "writeRow", "(II)I"⟩
abbrev cX6_outputByte : ByteArray := prog_1_method_56_code
def yX6_outputByte : MethodName := ⟨RX6, "outputByte", "(I)I"⟩
abbrev cX6_undo : ByteArray := prog_1_method_57_code
def yX6_undo : MethodName := ⟨RX6, "undo", "()I"⟩
abbrev cX6_saveSnapshot : ByteArray := prog_1_method_58_code
def yX6_saveSnapshot : MethodName := ⟨RX6, "saveSnapshot", "(I)I"⟩
abbrev cX6_restoreSnapshot : ByteArray := prog_1_method_59_code
def yX6_restoreSnapshot : MethodName := ⟨RX6, "restoreSnapshot", "(I)I"⟩
abbrev cX6_needSlot : ByteArray := prog_1_method_60_code
def yX6_needSlot : MethodName := ⟨RX6, "needSlot", "(I)V"⟩
abbrev cX6_needNode : ByteArray := prog_1_method_61_code
def yX6_needNode : MethodName := ⟨RX6, "needNode", "(I)V"⟩
abbrev cX6_needRow : ByteArray := prog_1_method_62_code
def yX6_needRow : MethodName := ⟨RX6, "needRow", "(II)V"⟩
abbrev cX6_needCell : ByteArray := prog_1_method_63_code
def yX6_needCell : MethodName := ⟨RX6, "needCell", "(III)V"⟩
abbrev cX6_needRange : ByteArray := prog_1_method_64_code
def yX6_needRange : MethodName := ⟨RX6, "needRange", "(III)V"⟩
abbrev cX6_rowsOf : ByteArray := prog_1_method_65_code
def yX6_rowsOf : MethodName := ⟨RX6, "rowsOf", "(I)[I"⟩
abbrev cX6_keptSlots : ByteArray := prog_1_method_66_code
def yX6_keptSlots : MethodName := ⟨RX6, "keptSlots", "()I"⟩
abbrev cX6_remember : ByteArray := prog_1_method_67_code
def yX6_remember : MethodName := ⟨RX6, "remember", "()V"⟩
abbrev cX6_replaceState : ByteArray := prog_1_method_68_code
def yX6_replaceState : MethodName := ⟨RX6, "replaceState", "(LBitDesk$State;)V"⟩
abbrev cX6_dropClosures : ByteArray := prog_1_method_69_code
def yX6_dropClosures : MethodName := ⟨RX6, "dropClosures", "()V"⟩
abbrev cX6_closureOf : ByteArray := prog_1_method_70_code
def yX6_closureOf : MethodName := ⟨RX6, "closureOf", "(I)LBitDesk$Closure;"⟩
abbrev cX6_store : ByteArray := prog_1_method_71_code
def yX6_store : MethodName := ⟨RX6, "store", "([II)I"⟩
abbrev cX6_noteChange : ByteArray := prog_1_method_72_code
def yX6_noteChange : MethodName := ⟨RX6, "noteChange", "(I)V"⟩
abbrev cX6_noteWork : ByteArray := prog_1_method_73_code
def yX6_noteWork : MethodName := ⟨RX6, "noteWork", "()V"⟩
abbrev cX6_firstEqual : ByteArray := prog_1_method_74_code
def yX6_firstEqual : MethodName := ⟨RX6, "firstEqual", "([II)I"⟩
abbrev cX6_firstRows : ByteArray := prog_1_method_75_code
def yX6_firstRows : MethodName := ⟨RX6, "firstRows", "([II)I"⟩
abbrev cX6_joinedRows : ByteArray := prog_1_method_76_code
def yX6_joinedRows : MethodName := ⟨RX6, "joinedRows", "([II)I"⟩
abbrev cX6_fewestEdges : ByteArray := prog_1_method_77_code
def yX6_fewestEdges : MethodName := ⟨RX6, "fewestEdges", "([III)I"⟩
abbrev cX6_fillLevels : ByteArray := prog_1_method_78_code
def yX6_fillLevels : MethodName := ⟨RX6, "fillLevels", "([III)V"⟩
abbrev cX6_lossWithout : ByteArray := prog_1_method_79_code
def yX6_lossWithout : MethodName := ⟨RX6, "lossWithout", "(III)I"⟩
abbrev cX6_dropNeedless : ByteArray := prog_1_method_80_code
def yX6_dropNeedless : MethodName := ⟨RX6, "dropNeedless", "([II)V"⟩
abbrev cX6_combined : ByteArray := prog_1_method_81_code
def yX6_combined : MethodName := ⟨RX6, "combined", "(III)I"⟩
abbrev cX6_exchanged : ByteArray := prog_1_method_82_code
def yX6_exchanged : MethodName := ⟨RX6, "exchanged", "(III)I"⟩
abbrev cX6_edgeNumber : ByteArray := prog_1_method_83_code
def yX6_edgeNumber : MethodName := ⟨RX6, "edgeNumber", "(II)I"⟩
abbrev cX6_unsigned : ByteArray := prog_1_method_84_code
def yX6_unsigned : MethodName := ⟨RX6, "unsigned", "(I)J"⟩
abbrev cX6_hasOne : ByteArray := prog_1_method_85_code
def yX6_hasOne : MethodName := ⟨RX6, "hasOne", "(II)Z"⟩
abbrev cX6_lowest : ByteArray := prog_1_method_86_code
def yX6_lowest : MethodName := ⟨RX6, "lowest", "(I)I"⟩
abbrev cX6_lowestOne : ByteArray := prog_1_method_87_code
def yX6_lowestOne : MethodName := ⟨RX6, "lowestOne", "(I)I"⟩
abbrev cX6_oneAt : ByteArray := prog_1_method_88_code
def yX6_oneAt : MethodName := ⟨RX6, "oneAt", "(II)I"⟩
abbrev cX6_onesOf : ByteArray := prog_1_method_89_code
def yX6_onesOf : MethodName := ⟨RX6, "onesOf", "([II)I"⟩
abbrev cX6_columnOf : ByteArray := prog_1_method_90_code
def yX6_columnOf : MethodName := ⟨RX6, "columnOf", "([III)I"⟩
abbrev cX6_reachedFrom : ByteArray := prog_1_method_91_code
def yX6_reachedFrom : MethodName := ⟨RX6, "reachedFrom", "([III)I"⟩
def RX7 : String := "BitDeskModel"
def TX7 : u_T := fun k => match k with
  | 0 => ("BitDeskModel", "now", "[J", true)
  | 1 => ("BitDeskModel", "read", "[J", true)
  | 2 => ("BitDeskModel", "past", "[J", true)
  | 3 => ("BitDeskModel", "copies", "[J", true)
  | 4 => ("BitDeskModel", "isSaved", "[Z", true)
  | 5 => ("BitDeskModel", "pastMany", "I", false)
  | 6 => ("BitDeskModel", "thrown", "I", false)
  | 7 => ("BitDeskModel", "buffer", "[B", true)
  | 8 => ("BitDeskModel", "length", "I", false)
  | 9 => ("BitDeskModel", "at", "I", false)
  | 10 => ("BitDeskModel", "begin", "I", false)
  | 11 => ("BitDeskModel", "error", "I", false)
  | 12 => ("BitDeskModel", "errorAt", "I", false)
  | 13 => ("BitDeskModel", "statement", "I", false)
  | 14 => ("BitDeskModel", "lastError", "I", false)
  | 15 => ("BitDeskModel", "lastStatement", "I", false)
  | 16 => ("BitDeskModel", "hand", "[J", true)
  | 17 => ("BitDeskModel", "other", "[J", true)
  | 18 => ("BitDeskModel", "third", "[J", true)
  | 19 => ("BitDeskModel", "far", "[I", true)
  | 20 => ("BitDeskModel", "beside", "[J", true)
  | 21 => ("BitDeskModel", "pivots", "[I", true)
  | 22 => ("BitDeskModel", "pivotMany", "I", false)
  | 23 => ("BitDeskModel", "output", "[B", true)
  | _ => ("BitDeskModel", "written", "I", false)
def tyX7 : Nat → FieldType := fun k => match k with
  | 0 => .array .long
  | 1 => .array .long
  | 2 => .array .long
  | 3 => .array .long
  | 4 => .array .boolean
  | 5 => .int
  | 6 => .int
  | 7 => .array .byte
  | 8 => .int
  | 9 => .int
  | 10 => .int
  | 11 => .int
  | 12 => .int
  | 13 => .int
  | 14 => .int
  | 15 => .int
  | 16 => .array .long
  | 17 => .array .long
  | 18 => .array .long
  | 19 => .array .int
  | 20 => .array .long
  | 21 => .array .int
  | 22 => .int
  | 23 => .array .byte
  | _ => .int
theorem nmX7 : ∀ a, a < 25 → ∀ b, b < 25 → a ≠ b → (TX7 a).2.1 ≠ (TX7 b).2.1 := by decide +kernel
theorem tyX7_ok : ∀ k, k < 25 → parseFieldDescriptor (TX7 k).2.2.1 = some (tyX7 k) := by decide +kernel
abbrev cX7_init : ByteArray := prog_9_method_1_code
def yX7_init : MethodName := ⟨RX7, "<init>", "()V"⟩
abbrev cX7_in : ByteArray := prog_9_method_3_code
def yX7_in : MethodName := ⟨RX7, "in", "(JJJ)Z"⟩
abbrev cX7_copies : ByteArray := prog_9_method_4_code
def yX7_copies : MethodName := ⟨RX7, "copies", "([JI[JI)V"⟩
abbrev cX7_begins : ByteArray := prog_9_method_5_code
def yX7_begins : MethodName := ⟨RX7, "begins", "([JI)V"⟩
abbrev cX7_isThrown : ByteArray := prog_9_method_6_code
def yX7_isThrown : MethodName := ⟨RX7, "isThrown", "(ZI)Z"⟩
abbrev cX7_size : ByteArray := prog_9_method_7_code
def yX7_size : MethodName := ⟨RX7, "size", "()I"⟩
abbrev cX7_isSlot : ByteArray := prog_9_method_8_code
def yX7_isSlot : MethodName := ⟨RX7, "isSlot", "(I)Z"⟩
abbrev cX7_isNode : ByteArray := prog_9_method_9_code
def yX7_isNode : MethodName := ⟨RX7, "isNode", "(I)Z"⟩
abbrev cX7_rowOf : ByteArray := prog_9_method_10_code
def yX7_rowOf : MethodName := ⟨RX7, "rowOf", "(II)J"⟩
abbrev cX7_setsRow : ByteArray := prog_9_method_11_code
def yX7_setsRow : MethodName := ⟨RX7, "setsRow", "(IIJ)V"⟩
abbrev cX7_one : ByteArray := prog_9_method_12_code
def yX7_one : MethodName := ⟨RX7, "one", "(JI)I"⟩
abbrev cX7_bitsOf : ByteArray := prog_9_method_13_code
def yX7_bitsOf : MethodName := ⟨RX7, "bitsOf", "(J)I"⟩
abbrev cX7_all : ByteArray := prog_9_method_14_code
def yX7_all : MethodName := ⟨RX7, "all", "()J"⟩
abbrev cX7_byteOf : ByteArray := prog_9_method_15_code
def yX7_byteOf : MethodName := ⟨RX7, "byteOf", "(JI)I"⟩
abbrev cX7_append : ByteArray := prog_9_method_16_code
def yX7_append : MethodName := ⟨RX7, "append", "(J)I"⟩
abbrev cX7_here : ByteArray := prog_9_method_17_code
def yX7_here : MethodName := ⟨RX7, "here", "()I"⟩
abbrev cX7_next : ByteArray := prog_9_method_18_code
def yX7_next : MethodName := ⟨RX7, "next", "()I"⟩
abbrev cX7_fails : ByteArray := prog_9_method_19_code
def yX7_fails : MethodName := ⟨RX7, "fails", "(I)V"⟩
abbrev cX7_reads : ByteArray := prog_9_method_20_code
def yX7_reads : MethodName := ⟨RX7, "reads", "()V"⟩
abbrev cX7_isWord : ByteArray := prog_9_method_21_code
def yX7_isWord : MethodName := ⟨RX7, "isWord", "(Ljava/lang/String;)Z"⟩
abbrev cX7_number : ByteArray := prog_9_method_22_code
def yX7_number : MethodName := ⟨RX7, "number", "(II)I"⟩
abbrev cX7_readSlot : ByteArray := prog_9_method_23_code
def yX7_readSlot : MethodName := ⟨RX7, "readSlot", "()I"⟩
abbrev cX7_readNode : ByteArray := prog_9_method_24_code
def yX7_readNode : MethodName := ⟨RX7, "readNode", "()I"⟩
abbrev cX7_sizePart : ByteArray := prog_9_method_25_code
def yX7_sizePart : MethodName := ⟨RX7, "sizePart", "()V"⟩
abbrev cX7_edgePart : ByteArray := prog_9_method_26_code
def yX7_edgePart : MethodName := ⟨RX7, "edgePart", "()V"⟩
abbrev cX7_rowPart : ByteArray := prog_9_method_27_code
def yX7_rowPart : MethodName := ⟨RX7, "rowPart", "()V"⟩
abbrev cX7_filled : ByteArray := prog_9_method_28_code
def yX7_filled : MethodName := ⟨RX7, "filled", "(III)J"⟩
abbrev cX7_kindHere : ByteArray := prog_9_method_29_code
def yX7_kindHere : MethodName := ⟨RX7, "kindHere", "()I"⟩
abbrev cX7_fillPart : ByteArray := prog_9_method_30_code
def yX7_fillPart : MethodName := ⟨RX7, "fillPart", "()V"⟩
abbrev cX7_keepPart : ByteArray := prog_9_method_31_code
def yX7_keepPart : MethodName := ⟨RX7, "keepPart", "()V"⟩
abbrev cX7_statement : ByteArray := prog_9_method_32_code
def yX7_statement : MethodName := ⟨RX7, "statement", "()V"⟩
abbrev cX7_isMore : ByteArray := prog_9_method_33_code
def yX7_isMore : MethodName := ⟨RX7, "isMore", "()Z"⟩
abbrev cX7_load : ByteArray := prog_9_method_34_code
def yX7_load : MethodName := ⟨RX7, "load", "()I"⟩
abbrev cX7_loadError : ByteArray := prog_9_method_35_code
def yX7_loadError : MethodName := ⟨RX7, "loadError", "()I"⟩
abbrev cX7_loadStatement : ByteArray := prog_9_method_36_code
def yX7_loadStatement : MethodName := ⟨RX7, "loadStatement", "()I"⟩
abbrev cX7_keptMany : ByteArray := prog_9_method_37_code
def yX7_keptMany : MethodName := ⟨RX7, "keptMany", "()I"⟩
abbrev cX7_count : ByteArray := prog_9_method_38_code
def yX7_count : MethodName := ⟨RX7, "count", "(I)I"⟩
abbrev cX7_areIn : ByteArray := prog_9_method_39_code
def yX7_areIn : MethodName := ⟨RX7, "areIn", "(II)Z"⟩
abbrev cX7_bit : ByteArray := prog_9_method_40_code
def yX7_bit : MethodName := ⟨RX7, "bit", "(III)I"⟩
abbrev cX7_row : ByteArray := prog_9_method_41_code
def yX7_row : MethodName := ⟨RX7, "row", "(II)J"⟩
abbrev cX7_rank : ByteArray := prog_9_method_42_code
def yX7_rank : MethodName := ⟨RX7, "rank", "(III)I"⟩
abbrev cX7_select : ByteArray := prog_9_method_43_code
def yX7_select : MethodName := ⟨RX7, "select", "(III)I"⟩
abbrev cX7_onesOf : ByteArray := prog_9_method_44_code
def yX7_onesOf : MethodName := ⟨RX7, "onesOf", "(I)I"⟩
abbrev cX7_ones : ByteArray := prog_9_method_45_code
def yX7_ones : MethodName := ⟨RX7, "ones", "(I)I"⟩
abbrev cX7_columnOnes : ByteArray := prog_9_method_46_code
def yX7_columnOnes : MethodName := ⟨RX7, "columnOnes", "(II)I"⟩
abbrev cX7_firstAs : ByteArray := prog_9_method_47_code
def yX7_firstAs : MethodName := ⟨RX7, "firstAs", "(II)I"⟩
abbrev cX7_sameAs : ByteArray := prog_9_method_48_code
def yX7_sameAs : MethodName := ⟨RX7, "sameAs", "(II)I"⟩
abbrev cX7_find : ByteArray := prog_9_method_49_code
def yX7_find : MethodName := ⟨RX7, "find", "(IJ)I"⟩
abbrev cX7_classesAhead : ByteArray := prog_9_method_50_code
def yX7_classesAhead : MethodName := ⟨RX7, "classesAhead", "(II)I"⟩
abbrev cX7_classes : ByteArray := prog_9_method_51_code
def yX7_classes : MethodName := ⟨RX7, "classes", "(I)I"⟩
abbrev cX7_classOf : ByteArray := prog_9_method_52_code
def yX7_classOf : MethodName := ⟨RX7, "classOf", "(II)I"⟩
abbrev cX7_nearest : ByteArray := prog_9_method_53_code
def yX7_nearest : MethodName := ⟨RX7, "nearest", "(II)I"⟩
abbrev cX7_density : ByteArray := prog_9_method_54_code
def yX7_density : MethodName := ⟨RX7, "density", "(I)D"⟩
abbrev cX7_isSymmetric : ByteArray := prog_9_method_55_code
def yX7_isSymmetric : MethodName := ⟨RX7, "isSymmetric", "(I)Z"⟩
abbrev cX7_takes : ByteArray := prog_9_method_56_code
def yX7_takes : MethodName := ⟨RX7, "takes", "(I[J)V"⟩
abbrev cX7_closes : ByteArray := prog_9_method_57_code
def yX7_closes : MethodName := ⟨RX7, "closes", "([J)V"⟩
abbrev cX7_closure : ByteArray := prog_9_method_58_code
def yX7_closure : MethodName := ⟨RX7, "closure", "(I)V"⟩
abbrev cX7_sumOf : ByteArray := prog_9_method_59_code
def yX7_sumOf : MethodName := ⟨RX7, "sumOf", "([J)I"⟩
abbrev cX7_reaches : ByteArray := prog_9_method_60_code
def yX7_reaches : MethodName := ⟨RX7, "reaches", "(III)I"⟩
abbrev cX7_reached : ByteArray := prog_9_method_61_code
def yX7_reached : MethodName := ⟨RX7, "reached", "(II)I"⟩
abbrev cX7_pairsOf : ByteArray := prog_9_method_62_code
def yX7_pairsOf : MethodName := ⟨RX7, "pairsOf", "(I)I"⟩
abbrev cX7_pairs : ByteArray := prog_9_method_63_code
def yX7_pairs : MethodName := ⟨RX7, "pairs", "(I)I"⟩
abbrev cX7_meanReach : ByteArray := prog_9_method_64_code
def yX7_meanReach : MethodName := ⟨RX7, "meanReach", "(I)F"⟩
abbrev cX7_componentOf : ByteArray := prog_9_method_65_code
def yX7_componentOf : MethodName := ⟨RX7, "componentOf", "(I)I"⟩
abbrev cX7_component : ByteArray := prog_9_method_66_code
def yX7_component : MethodName := ⟨RX7, "component", "(II)I"⟩
abbrev cX7_components : ByteArray := prog_9_method_67_code
def yX7_components : MethodName := ⟨RX7, "components", "(I)I"⟩
abbrev cX7_measures : ByteArray := prog_9_method_68_code
def yX7_measures : MethodName := ⟨RX7, "measures", "(II)V"⟩
abbrev cX7_distance : ByteArray := prog_9_method_69_code
def yX7_distance : MethodName := ⟨RX7, "distance", "(III)I"⟩
abbrev cX7_stepAt : ByteArray := prog_9_method_70_code
def yX7_stepAt : MethodName := ⟨RX7, "stepAt", "(IIII)I"⟩
abbrev cX7_aroundOf : ByteArray := prog_9_method_71_code
def yX7_aroundOf : MethodName := ⟨RX7, "aroundOf", "(II)I"⟩
abbrev cX7_around : ByteArray := prog_9_method_72_code
def yX7_around : MethodName := ⟨RX7, "around", "(II)I"⟩
abbrev cX7_girth : ByteArray := prog_9_method_73_code
def yX7_girth : MethodName := ⟨RX7, "girth", "(I)I"⟩
abbrev cX7_free : ByteArray := prog_9_method_74_code
def yX7_free : MethodName := ⟨RX7, "free", "(IJ)I"⟩
abbrev cX7_order : ByteArray := prog_9_method_75_code
def yX7_order : MethodName := ⟨RX7, "order", "(II)I"⟩
abbrev cX7_pairsTurned : ByteArray := prog_9_method_76_code
def yX7_pairsTurned : MethodName := ⟨RX7, "pairsTurned", "(III)I"⟩
abbrev cX7_gained : ByteArray := prog_9_method_77_code
def yX7_gained : MethodName := ⟨RX7, "gained", "(III)I"⟩
abbrev cX7_lost : ByteArray := prog_9_method_78_code
def yX7_lost : MethodName := ⟨RX7, "lost", "(III)I"⟩
abbrev cX7_mostTurned : ByteArray := prog_9_method_79_code
def yX7_mostTurned : MethodName := ⟨RX7, "mostTurned", "(II)I"⟩
abbrev cX7_bestEdge : ByteArray := prog_9_method_80_code
def yX7_bestEdge : MethodName := ⟨RX7, "bestEdge", "(I)I"⟩
abbrev cX7_weakest : ByteArray := prog_9_method_81_code
def yX7_weakest : MethodName := ⟨RX7, "weakest", "(I)I"⟩
abbrev cX7_triangles : ByteArray := prog_9_method_82_code
def yX7_triangles : MethodName := ⟨RX7, "triangles", "(I)I"⟩
abbrev cX7_changes : ByteArray := prog_9_method_83_code
def yX7_changes : MethodName := ⟨RX7, "changes", "(II)V"⟩
abbrev cX7_reduces : ByteArray := prog_9_method_84_code
def yX7_reduces : MethodName := ⟨RX7, "reduces", "(I)V"⟩
abbrev cX7_fieldRank : ByteArray := prog_9_method_85_code
def yX7_fieldRank : MethodName := ⟨RX7, "fieldRank", "(I)I"⟩
abbrev cX7_solved : ByteArray := prog_9_method_86_code
def yX7_solved : MethodName := ⟨RX7, "solved", "(IJ)J"⟩
abbrev cX7_solve : ByteArray := prog_9_method_87_code
def yX7_solve : MethodName := ⟨RX7, "solve", "(IJ)J"⟩
abbrev cX7_freedom : ByteArray := prog_9_method_88_code
def yX7_freedom : MethodName := ⟨RX7, "freedom", "(IJ)I"⟩
abbrev cX7_pivot : ByteArray := prog_9_method_89_code
def yX7_pivot : MethodName := ⟨RX7, "pivot", "(II)I"⟩
abbrev cX7_keeps : ByteArray := prog_9_method_90_code
def yX7_keeps : MethodName := ⟨RX7, "keeps", "()V"⟩
abbrev cX7_undo : ByteArray := prog_9_method_91_code
def yX7_undo : MethodName := ⟨RX7, "undo", "()I"⟩
abbrev cX7_looks : ByteArray := prog_9_method_92_code
def yX7_looks : MethodName := ⟨RX7, "looks", "(II)V"⟩
abbrev cX7_madeAnew : ByteArray := prog_9_method_93_code
def yX7_madeAnew : MethodName := ⟨RX7, "madeAnew", "(I)V"⟩
abbrev cX7_put : ByteArray := prog_9_method_94_code
def yX7_put : MethodName := ⟨RX7, "put", "(IIIZ)I"⟩
abbrev cX7_setRow : ByteArray := prog_9_method_95_code
def yX7_setRow : MethodName := ⟨RX7, "setRow", "(IIJ)I"⟩
abbrev cX7_lays : ByteArray := prog_9_method_96_code
def yX7_lays : MethodName := ⟨RX7, "lays", "([JI)I"⟩
abbrev cX7_copy : ByteArray := prog_9_method_97_code
def yX7_copy : MethodName := ⟨RX7, "copy", "(II)I"⟩
abbrev cX7_transpose : ByteArray := prog_9_method_98_code
def yX7_transpose : MethodName := ⟨RX7, "transpose", "(II)I"⟩
abbrev cX7_combined : ByteArray := prog_9_method_99_code
def yX7_combined : MethodName := ⟨RX7, "combined", "(JJI)J"⟩
abbrev cX7_combine : ByteArray := prog_9_method_100_code
def yX7_combine : MethodName := ⟨RX7, "combine", "(IIII)I"⟩
abbrev cX7_counts : ByteArray := prog_9_method_101_code
def yX7_counts : MethodName := ⟨RX7, "counts", "([J)V"⟩
abbrev cX7_multiplies : ByteArray := prog_9_method_102_code
def yX7_multiplies : MethodName := ⟨RX7, "multiplies", "([J[J[JZ)V"⟩
abbrev cX7_product : ByteArray := prog_9_method_103_code
def yX7_product : MethodName := ⟨RX7, "product", "(IIIZ)I"⟩
abbrev cX7_moves : ByteArray := prog_9_method_104_code
def yX7_moves : MethodName := ⟨RX7, "moves", "([J[J)V"⟩
abbrev cX7_power : ByteArray := prog_9_method_105_code
def yX7_power : MethodName := ⟨RX7, "power", "(IIIZ)I"⟩
abbrev cX7_invert : ByteArray := prog_9_method_106_code
def yX7_invert : MethodName := ⟨RX7, "invert", "(II)I"⟩
abbrev cX7_close : ByteArray := prog_9_method_107_code
def yX7_close : MethodName := ⟨RX7, "close", "(II)I"⟩
abbrev cX7_isSame : ByteArray := prog_9_method_108_code
def yX7_isSame : MethodName := ⟨RX7, "isSame", "([J[J)Z"⟩
abbrev cX7_reduce : ByteArray := prog_9_method_109_code
def yX7_reduce : MethodName := ⟨RX7, "reduce", "(II)I"⟩
abbrev cX7_exchanged : ByteArray := prog_9_method_110_code
def yX7_exchanged : MethodName := ⟨RX7, "exchanged", "(JII)J"⟩
abbrev cX7_exchange : ByteArray := prog_9_method_111_code
def yX7_exchange : MethodName := ⟨RX7, "exchange", "(III)I"⟩
abbrev cX7_keep : ByteArray := prog_9_method_112_code
def yX7_keep : MethodName := ⟨RX7, "keep", "(IZ)I"⟩
abbrev cX7_setBlock : ByteArray := prog_9_method_113_code
def yX7_setBlock : MethodName := ⟨RX7, "setBlock", "(I)I"⟩
abbrev cX7_kept : ByteArray := prog_9_method_114_code
def yX7_kept : MethodName := ⟨RX7, "kept", "(II)I"⟩
abbrev cX7_work : ByteArray := prog_9_method_115_code
def yX7_work : MethodName := ⟨RX7, "work", "(I)I"⟩
abbrev cX7_writeRow : ByteArray := prog_9_method_116_code
def yX7_writeRow : MethodName := ⟨RX7, "writeRow", "(II)I"⟩
abbrev cX7_outputByte : ByteArray := prog_9_method_117_code
def yX7_outputByte : MethodName := ⟨RX7, "outputByte", "(I)I"⟩
abbrev cX7_saveSnapshot : ByteArray := prog_9_method_118_code
def yX7_saveSnapshot : MethodName := ⟨RX7, "saveSnapshot", "(I)I"⟩
abbrev cX7_restoreSnapshot : ByteArray := prog_9_method_119_code
def yX7_restoreSnapshot : MethodName := ⟨RX7, "restoreSnapshot", "(I)I"⟩
def RJ6 : String := "java/lang/Integer"
def TJ6 : u_T := fun k => match k with
  | _ => ("", "", "", false)
def tyJ6 : Nat → FieldType := fun k => match k with
  | _ => .int
theorem nmJ6 : ∀ a, a < 0 → ∀ b, b < 0 → a ≠ b → (TJ6 a).2.1 ≠ (TJ6 b).2.1 := by decide +kernel
theorem tyJ6_ok : ∀ k, k < 0 → parseFieldDescriptor (TJ6 k).2.2.1 = some (tyJ6 k) := by decide +kernel
abbrev cJ6_bitCount_0f7a4 : ByteArray := prog_13_method_49_code
def yJ6_bitCount_0f7a4 : MethodName := ⟨RJ6, "bitCount", "(I)I"⟩
def RJ9 : String := "java/lang/Math"
def TJ9 : u_T := fun k => match k with
  | _ => ("", "", "", false)
def tyJ9 : Nat → FieldType := fun k => match k with
  | _ => .int
theorem nmJ9 : ∀ a, a < 0 → ∀ b, b < 0 → a ≠ b → (TJ9 a).2.1 ≠ (TJ9 b).2.1 := by decide +kernel
theorem tyJ9_ok : ∀ k, k < 0 → parseFieldDescriptor (TJ9 k).2.2.1 = some (tyJ9 k) := by decide +kernel
abbrev cJ9_abs_0f7a4 : ByteArray := prog_14_method_59_code
def yJ9_abs_0f7a4 : MethodName := ⟨RJ9, "abs", "(I)I"⟩
abbrev cJ9_max_7cf53 : ByteArray := prog_14_method_65_code
def yJ9_max_7cf53 : MethodName := ⟨RJ9, "max", "(II)I"⟩
abbrev cJ9_min_7cf53 : ByteArray := prog_14_method_69_code
def yJ9_min_7cf53 : MethodName := ⟨RJ9, "min", "(II)I"⟩
def RJ0 : String := "java/lang/String"
def TJ0 : u_T := fun k => match k with
  | _ => ("", "", "", false)
def tyJ0 : Nat → FieldType := fun k => match k with
  | _ => .int
theorem nmJ0 : ∀ a, a < 0 → ∀ b, b < 0 → a ≠ b → (TJ0 a).2.1 ≠ (TJ0 b).2.1 := by decide +kernel
theorem tyJ0_ok : ∀ k, k < 0 → parseFieldDescriptor (TJ0 k).2.2.1 = some (tyJ0 k) := by decide +kernel
abbrev cJ0_length_8abf5 : ByteArray := prog_16_method_54_code
def yJ0_length_8abf5 : MethodName := ⟨RJ0, "length", "()I"⟩
abbrev cJ0_charAt_5068e : ByteArray := prog_16_method_56_code
def yJ0_charAt_5068e : MethodName := ⟨RJ0, "charAt", "(I)C"⟩
abbrev cJ0_coder_7d493 : ByteArray := prog_16_method_152_code
def yJ0_coder_7d493 : MethodName := ⟨RJ0, "coder", "()B"⟩
abbrev cJ0_isLatin1_aae02 : ByteArray := prog_16_method_154_code
def yJ0_isLatin1_aae02 : MethodName := ⟨RJ0, "isLatin1", "()Z"⟩
abbrev cJ0_checkIndex_df160 : ByteArray := prog_16_method_155_code
def yJ0_checkIndex_df160 : MethodName := ⟨RJ0, "checkIndex", "(II)V"⟩
def RJ1 : String := "java/lang/StringLatin1"
def TJ1 : u_T := fun k => match k with
  | _ => ("", "", "", false)
def tyJ1 : Nat → FieldType := fun k => match k with
  | _ => .int
theorem nmJ1 : ∀ a, a < 0 → ∀ b, b < 0 → a ≠ b → (TJ1 a).2.1 ≠ (TJ1 b).2.1 := by decide +kernel
theorem tyJ1_ok : ∀ k, k < 0 → parseFieldDescriptor (TJ1 k).2.2.1 = some (tyJ1 k) := by decide +kernel
abbrev cJ1_charAt_3b067 : ByteArray := prog_17_method_2_code
def yJ1_charAt_3b067 : MethodName := ⟨RJ1, "charAt", "([BI)C"⟩
def RJ2 : String := "java/lang/StringUTF16"
def TJ2 : u_T := fun k => match k with
  | _ => ("", "", "", false)
def tyJ2 : Nat → FieldType := fun k => match k with
  | _ => .int
theorem nmJ2 : ∀ a, a < 0 → ∀ b, b < 0 → a ≠ b → (TJ2 a).2.1 ≠ (TJ2 b).2.1 := by decide +kernel
theorem tyJ2_ok : ∀ k, k < 0 → parseFieldDescriptor (TJ2 k).2.2.1 = some (tyJ2 k) := by decide +kernel
abbrev cJ2_getChar_3b067 : ByteArray := prog_18_method_5_code
def yJ2_getChar_3b067 : MethodName := ⟨RJ2, "getChar", "([BI)C"⟩
abbrev cJ2_length_9d52b : ByteArray := prog_18_method_6_code
def yJ2_length_9d52b : MethodName := ⟨RJ2, "length", "([B)I"⟩
abbrev cJ2_charAt_3b067 : ByteArray := prog_18_method_83_code
def yJ2_charAt_3b067 : MethodName := ⟨RJ2, "charAt", "([BI)C"⟩
abbrev cJ2_checkIndex_2214a : ByteArray := prog_18_method_91_code
def yJ2_checkIndex_2214a : MethodName := ⟨RJ2, "checkIndex", "(I[B)V"⟩
def RJ10 : String := "java/lang/System"
def TJ10 : u_T := fun k => match k with
  | _ => ("", "", "", false)
def tyJ10 : Nat → FieldType := fun k => match k with
  | _ => .int
theorem nmJ10 : ∀ a, a < 0 → ∀ b, b < 0 → a ≠ b → (TJ10 a).2.1 ≠ (TJ10 b).2.1 := by decide +kernel
theorem tyJ10_ok : ∀ k, k < 0 → parseFieldDescriptor (TJ10 k).2.2.1 = some (tyJ10 k) := by decide +kernel
def RJ3 : String := "jdk/internal/util/Preconditions"
def TJ3 : u_T := fun k => match k with
  | _ => ("", "", "", false)
def tyJ3 : Nat → FieldType := fun k => match k with
  | _ => .int
theorem nmJ3 : ∀ a, a < 0 → ∀ b, b < 0 → a ≠ b → (TJ3 a).2.1 ≠ (TJ3 b).2.1 := by decide +kernel
theorem tyJ3_ok : ∀ k, k < 0 → parseFieldDescriptor (TJ3 k).2.2.1 = some (tyJ3 k) := by decide +kernel
abbrev cJ3_checkIndex_8e157 : ByteArray := prog_21_method_11_code
def yJ3_checkIndex_8e157 : MethodName := ⟨RJ3, "checkIndex", "(IILjava/util/function/BiFunction;)I"⟩
theorem dX0_init_0 : decode cX0_init 0 = .ok (.aload_n 0, 1) := by decide +kernel
theorem dX0_init_1 : decode cX0_init 1 = .ok (.invokespecial 3, 3) := by decide +kernel
theorem dX0_init_4 : decode cX0_init 4 = .ok (.aload_n 0, 1) := by decide +kernel
theorem dX0_init_5 : decode cX0_init 5 = .ok (.bipush 32, 2) := by decide +kernel
theorem dX0_init_7 : decode cX0_init 7 = .ok (.newarray .int, 2) := by decide +kernel
theorem dX0_init_9 : decode cX0_init 9 = .ok (.putfield 9, 3) := by decide +kernel
theorem dX0_init_12 : decode cX0_init 12 = .ok (.return_, 1) := by decide +kernel
theorem dX0_makeFrom_0 : decode cX0_makeFrom 0 = .ok (.aload_n 1, 1) := by decide +kernel
theorem dX0_makeFrom_1 : decode cX0_makeFrom 1 = .ok (.iconst 0, 1) := by decide +kernel
theorem dX0_makeFrom_2 : decode cX0_makeFrom 2 = .ok (.aload_n 0, 1) := by decide +kernel
theorem dX0_makeFrom_3 : decode cX0_makeFrom 3 = .ok (.getfield 9, 3) := by decide +kernel
theorem dX0_makeFrom_6 : decode cX0_makeFrom 6 = .ok (.iconst 0, 1) := by decide +kernel
theorem dX0_makeFrom_7 : decode cX0_makeFrom 7 = .ok (.iload_n 2, 1) := by decide +kernel
theorem dX0_makeFrom_8 : decode cX0_makeFrom 8 = .ok (.invokestatic 15, 3) := by decide +kernel
theorem dX0_makeFrom_11 : decode cX0_makeFrom 11 = .ok (.iconst 0, 1) := by decide +kernel
theorem dX0_makeFrom_12 : decode cX0_makeFrom 12 = .ok (.istore_n 3, 1) := by decide +kernel
theorem dX0_makeFrom_13 : decode cX0_makeFrom 13 = .ok (.iload_n 3, 1) := by decide +kernel
theorem dX0_makeFrom_14 : decode cX0_makeFrom 14 = .ok (.iload_n 2, 1) := by decide +kernel
theorem dX0_makeFrom_15 : decode cX0_makeFrom 15 = .ok (.if_icmp .ge 54, 3) := by decide +kernel
theorem dX0_makeFrom_18 : decode cX0_makeFrom 18 = .ok (.iconst 0, 1) := by decide +kernel
theorem dX0_makeFrom_19 : decode cX0_makeFrom 19 = .ok (.istore 4, 2) := by decide +kernel
theorem dX0_makeFrom_21 : decode cX0_makeFrom 21 = .ok (.iload 4, 2) := by decide +kernel
theorem dX0_makeFrom_23 : decode cX0_makeFrom 23 = .ok (.iload_n 2, 1) := by decide +kernel
theorem dX0_makeFrom_24 : decode cX0_makeFrom 24 = .ok (.if_icmp .ge 39, 3) := by decide +kernel
theorem dX0_makeFrom_27 : decode cX0_makeFrom 27 = .ok (.aload_n 0, 1) := by decide +kernel
theorem dX0_makeFrom_28 : decode cX0_makeFrom 28 = .ok (.getfield 9, 3) := by decide +kernel
theorem dX0_makeFrom_31 : decode cX0_makeFrom 31 = .ok (.iload 4, 2) := by decide +kernel
theorem dX0_makeFrom_33 : decode cX0_makeFrom 33 = .ok (.iaload, 1) := by decide +kernel
theorem dX0_makeFrom_34 : decode cX0_makeFrom 34 = .ok (.iload_n 3, 1) := by decide +kernel
theorem dX0_makeFrom_35 : decode cX0_makeFrom 35 = .ok (.invokestatic 21, 3) := by decide +kernel
theorem dX0_makeFrom_38 : decode cX0_makeFrom 38 = .ok (.ifCond .eq 19, 3) := by decide +kernel
theorem dX0_makeFrom_41 : decode cX0_makeFrom 41 = .ok (.aload_n 0, 1) := by decide +kernel
theorem dX0_makeFrom_42 : decode cX0_makeFrom 42 = .ok (.getfield 9, 3) := by decide +kernel
theorem dX0_makeFrom_45 : decode cX0_makeFrom 45 = .ok (.iload 4, 2) := by decide +kernel
theorem dX0_makeFrom_47 : decode cX0_makeFrom 47 = .ok (.dup2, 1) := by decide +kernel
theorem dX0_makeFrom_48 : decode cX0_makeFrom 48 = .ok (.iaload, 1) := by decide +kernel
theorem dX0_makeFrom_49 : decode cX0_makeFrom 49 = .ok (.aload_n 0, 1) := by decide +kernel
theorem dX0_makeFrom_50 : decode cX0_makeFrom 50 = .ok (.getfield 9, 3) := by decide +kernel
theorem dX0_makeFrom_53 : decode cX0_makeFrom 53 = .ok (.iload_n 3, 1) := by decide +kernel
theorem dX0_makeFrom_54 : decode cX0_makeFrom 54 = .ok (.iaload, 1) := by decide +kernel
theorem dX0_makeFrom_55 : decode cX0_makeFrom 55 = .ok (.ior, 1) := by decide +kernel
theorem dX0_makeFrom_56 : decode cX0_makeFrom 56 = .ok (.iastore, 1) := by decide +kernel
theorem dX0_makeFrom_57 : decode cX0_makeFrom 57 = .ok (.iinc 4 1, 3) := by decide +kernel
theorem dX0_makeFrom_60 : decode cX0_makeFrom 60 = .ok (.goto (-39), 3) := by decide +kernel
theorem dX0_makeFrom_63 : decode cX0_makeFrom 63 = .ok (.iinc 3 1, 3) := by decide +kernel
theorem dX0_makeFrom_66 : decode cX0_makeFrom 66 = .ok (.goto (-53), 3) := by decide +kernel
theorem dX0_makeFrom_69 : decode cX0_makeFrom 69 = .ok (.aload_n 0, 1) := by decide +kernel
theorem dX0_makeFrom_70 : decode cX0_makeFrom 70 = .ok (.iconst 1, 1) := by decide +kernel
theorem dX0_makeFrom_71 : decode cX0_makeFrom 71 = .ok (.putfield 25, 3) := by decide +kernel
theorem dX0_makeFrom_74 : decode cX0_makeFrom 74 = .ok (.return_, 1) := by decide +kernel
theorem dX0_nodesTo_0 : decode cX0_nodesTo 0 = .ok (.aload_n 0, 1) := by decide +kernel
theorem dX0_nodesTo_1 : decode cX0_nodesTo 1 = .ok (.getfield 9, 3) := by decide +kernel
theorem dX0_nodesTo_4 : decode cX0_nodesTo 4 = .ok (.iload_n 1, 1) := by decide +kernel
theorem dX0_nodesTo_5 : decode cX0_nodesTo 5 = .ok (.iload_n 2, 1) := by decide +kernel
theorem dX0_nodesTo_6 : decode cX0_nodesTo 6 = .ok (.invokestatic 29, 3) := by decide +kernel
theorem dX0_nodesTo_9 : decode cX0_nodesTo 9 = .ok (.iconst 1, 1) := by decide +kernel
theorem dX0_nodesTo_10 : decode cX0_nodesTo 10 = .ok (.iload_n 1, 1) := by decide +kernel
theorem dX0_nodesTo_11 : decode cX0_nodesTo 11 = .ok (.ishl, 1) := by decide +kernel
theorem dX0_nodesTo_12 : decode cX0_nodesTo 12 = .ok (.ior, 1) := by decide +kernel
theorem dX0_nodesTo_13 : decode cX0_nodesTo 13 = .ok (.ireturn, 1) := by decide +kernel
theorem dX0_lowestMutual_0 : decode cX0_lowestMutual 0 = .ok (.aload_n 0, 1) := by decide +kernel
theorem dX0_lowestMutual_1 : decode cX0_lowestMutual 1 = .ok (.getfield 9, 3) := by decide +kernel
theorem dX0_lowestMutual_4 : decode cX0_lowestMutual 4 = .ok (.iload_n 1, 1) := by decide +kernel
theorem dX0_lowestMutual_5 : decode cX0_lowestMutual 5 = .ok (.iaload, 1) := by decide +kernel
theorem dX0_lowestMutual_6 : decode cX0_lowestMutual 6 = .ok (.aload_n 0, 1) := by decide +kernel
theorem dX0_lowestMutual_7 : decode cX0_lowestMutual 7 = .ok (.getfield 9, 3) := by decide +kernel
theorem dX0_lowestMutual_10 : decode cX0_lowestMutual 10 = .ok (.iload_n 1, 1) := by decide +kernel
theorem dX0_lowestMutual_11 : decode cX0_lowestMutual 11 = .ok (.iload_n 2, 1) := by decide +kernel
theorem dX0_lowestMutual_12 : decode cX0_lowestMutual 12 = .ok (.invokestatic 29, 3) := by decide +kernel
theorem dX0_lowestMutual_15 : decode cX0_lowestMutual 15 = .ok (.iand, 1) := by decide +kernel
theorem dX0_lowestMutual_16 : decode cX0_lowestMutual 16 = .ok (.iconst 1, 1) := by decide +kernel
theorem dX0_lowestMutual_17 : decode cX0_lowestMutual 17 = .ok (.iload_n 1, 1) := by decide +kernel
theorem dX0_lowestMutual_18 : decode cX0_lowestMutual 18 = .ok (.ishl, 1) := by decide +kernel
theorem dX0_lowestMutual_19 : decode cX0_lowestMutual 19 = .ok (.ior, 1) := by decide +kernel
theorem dX0_lowestMutual_20 : decode cX0_lowestMutual 20 = .ok (.invokestatic 33, 3) := by decide +kernel
theorem dX0_lowestMutual_23 : decode cX0_lowestMutual 23 = .ok (.ireturn, 1) := by decide +kernel
theorem dX0_gainWith_0 : decode cX0_gainWith 0 = .ok (.aload_n 0, 1) := by decide +kernel
theorem dX0_gainWith_1 : decode cX0_gainWith 1 = .ok (.getfield 9, 3) := by decide +kernel
theorem dX0_gainWith_4 : decode cX0_gainWith 4 = .ok (.iload_n 2, 1) := by decide +kernel
theorem dX0_gainWith_5 : decode cX0_gainWith 5 = .ok (.iaload, 1) := by decide +kernel
theorem dX0_gainWith_6 : decode cX0_gainWith 6 = .ok (.iconst 1, 1) := by decide +kernel
theorem dX0_gainWith_7 : decode cX0_gainWith 7 = .ok (.iload_n 2, 1) := by decide +kernel
theorem dX0_gainWith_8 : decode cX0_gainWith 8 = .ok (.ishl, 1) := by decide +kernel
theorem dX0_gainWith_9 : decode cX0_gainWith 9 = .ok (.ior, 1) := by decide +kernel
theorem dX0_gainWith_10 : decode cX0_gainWith 10 = .ok (.istore 4, 2) := by decide +kernel
theorem dX0_gainWith_12 : decode cX0_gainWith 12 = .ok (.iconst 0, 1) := by decide +kernel
theorem dX0_gainWith_13 : decode cX0_gainWith 13 = .ok (.istore 5, 2) := by decide +kernel
theorem dX0_gainWith_15 : decode cX0_gainWith 15 = .ok (.iconst 0, 1) := by decide +kernel
theorem dX0_gainWith_16 : decode cX0_gainWith 16 = .ok (.istore 6, 2) := by decide +kernel
theorem dX0_gainWith_18 : decode cX0_gainWith 18 = .ok (.iload 6, 2) := by decide +kernel
theorem dX0_gainWith_20 : decode cX0_gainWith 20 = .ok (.iload_n 3, 1) := by decide +kernel
theorem dX0_gainWith_21 : decode cX0_gainWith 21 = .ok (.if_icmp .ge 38, 3) := by decide +kernel
theorem dX0_gainWith_24 : decode cX0_gainWith 24 = .ok (.iload_n 1, 1) := by decide +kernel
theorem dX0_gainWith_25 : decode cX0_gainWith 25 = .ok (.iload 6, 2) := by decide +kernel
theorem dX0_gainWith_27 : decode cX0_gainWith 27 = .ok (.invokestatic 21, 3) := by decide +kernel
theorem dX0_gainWith_30 : decode cX0_gainWith 30 = .ok (.ifCond .eq 23, 3) := by decide +kernel
theorem dX0_gainWith_33 : decode cX0_gainWith 33 = .ok (.iload 5, 2) := by decide +kernel
theorem dX0_gainWith_35 : decode cX0_gainWith 35 = .ok (.iload 4, 2) := by decide +kernel
theorem dX0_gainWith_37 : decode cX0_gainWith 37 = .ok (.aload_n 0, 1) := by decide +kernel
theorem dX0_gainWith_38 : decode cX0_gainWith 38 = .ok (.getfield 9, 3) := by decide +kernel
theorem dX0_gainWith_41 : decode cX0_gainWith 41 = .ok (.iload 6, 2) := by decide +kernel
theorem dX0_gainWith_43 : decode cX0_gainWith 43 = .ok (.iaload, 1) := by decide +kernel
theorem dX0_gainWith_44 : decode cX0_gainWith 44 = .ok (.iconst (-1), 1) := by decide +kernel
theorem dX0_gainWith_45 : decode cX0_gainWith 45 = .ok (.ixor, 1) := by decide +kernel
theorem dX0_gainWith_46 : decode cX0_gainWith 46 = .ok (.iand, 1) := by decide +kernel
theorem dX0_gainWith_47 : decode cX0_gainWith 47 = .ok (.invokestatic 37, 3) := by decide +kernel
theorem dX0_gainWith_50 : decode cX0_gainWith 50 = .ok (.iadd, 1) := by decide +kernel
theorem dX0_gainWith_51 : decode cX0_gainWith 51 = .ok (.istore 5, 2) := by decide +kernel
theorem dX0_gainWith_53 : decode cX0_gainWith 53 = .ok (.iinc 6 1, 3) := by decide +kernel
theorem dX0_gainWith_56 : decode cX0_gainWith 56 = .ok (.goto (-38), 3) := by decide +kernel
theorem dX0_gainWith_59 : decode cX0_gainWith 59 = .ok (.iload 5, 2) := by decide +kernel
theorem dX0_gainWith_61 : decode cX0_gainWith 61 = .ok (.ireturn, 1) := by decide +kernel
theorem dX0_extend_0 : decode cX0_extend 0 = .ok (.aload_n 0, 1) := by decide +kernel
theorem dX0_extend_1 : decode cX0_extend 1 = .ok (.iload_n 1, 1) := by decide +kernel
theorem dX0_extend_2 : decode cX0_extend 2 = .ok (.iload_n 2, 1) := by decide +kernel
theorem dX0_extend_3 : decode cX0_extend 3 = .ok (.iload_n 3, 1) := by decide +kernel
theorem dX0_extend_4 : decode cX0_extend 4 = .ok (.invokevirtual 42, 3) := by decide +kernel
theorem dX0_extend_7 : decode cX0_extend 7 = .ok (.istore 4, 2) := by decide +kernel
theorem dX0_extend_9 : decode cX0_extend 9 = .ok (.aload_n 0, 1) := by decide +kernel
theorem dX0_extend_10 : decode cX0_extend 10 = .ok (.getfield 9, 3) := by decide +kernel
theorem dX0_extend_13 : decode cX0_extend 13 = .ok (.iload_n 2, 1) := by decide +kernel
theorem dX0_extend_14 : decode cX0_extend 14 = .ok (.iaload, 1) := by decide +kernel
theorem dX0_extend_15 : decode cX0_extend 15 = .ok (.iconst 1, 1) := by decide +kernel
theorem dX0_extend_16 : decode cX0_extend 16 = .ok (.iload_n 2, 1) := by decide +kernel
theorem dX0_extend_17 : decode cX0_extend 17 = .ok (.ishl, 1) := by decide +kernel
theorem dX0_extend_18 : decode cX0_extend 18 = .ok (.ior, 1) := by decide +kernel
theorem dX0_extend_19 : decode cX0_extend 19 = .ok (.istore 5, 2) := by decide +kernel
theorem dX0_extend_21 : decode cX0_extend 21 = .ok (.iconst 0, 1) := by decide +kernel
theorem dX0_extend_22 : decode cX0_extend 22 = .ok (.istore 6, 2) := by decide +kernel
theorem dX0_extend_24 : decode cX0_extend 24 = .ok (.iload 6, 2) := by decide +kernel
theorem dX0_extend_26 : decode cX0_extend 26 = .ok (.iload_n 3, 1) := by decide +kernel
theorem dX0_extend_27 : decode cX0_extend 27 = .ok (.if_icmp .ge 30, 3) := by decide +kernel
theorem dX0_extend_30 : decode cX0_extend 30 = .ok (.iload_n 1, 1) := by decide +kernel
theorem dX0_extend_31 : decode cX0_extend 31 = .ok (.iload 6, 2) := by decide +kernel
theorem dX0_extend_33 : decode cX0_extend 33 = .ok (.invokestatic 21, 3) := by decide +kernel
theorem dX0_extend_36 : decode cX0_extend 36 = .ok (.ifCond .eq 15, 3) := by decide +kernel
theorem dX0_extend_39 : decode cX0_extend 39 = .ok (.aload_n 0, 1) := by decide +kernel
theorem dX0_extend_40 : decode cX0_extend 40 = .ok (.getfield 9, 3) := by decide +kernel
theorem dX0_extend_43 : decode cX0_extend 43 = .ok (.iload 6, 2) := by decide +kernel
theorem dX0_extend_45 : decode cX0_extend 45 = .ok (.dup2, 1) := by decide +kernel
theorem dX0_extend_46 : decode cX0_extend 46 = .ok (.iaload, 1) := by decide +kernel
theorem dX0_extend_47 : decode cX0_extend 47 = .ok (.iload 5, 2) := by decide +kernel
theorem dX0_extend_49 : decode cX0_extend 49 = .ok (.ior, 1) := by decide +kernel
theorem dX0_extend_50 : decode cX0_extend 50 = .ok (.iastore, 1) := by decide +kernel
theorem dX0_extend_51 : decode cX0_extend 51 = .ok (.iinc 6 1, 3) := by decide +kernel
theorem dX0_extend_54 : decode cX0_extend 54 = .ok (.goto (-30), 3) := by decide +kernel
theorem dX0_extend_57 : decode cX0_extend 57 = .ok (.iload 4, 2) := by decide +kernel
theorem dX0_extend_59 : decode cX0_extend 59 = .ok (.ireturn, 1) := by decide +kernel
theorem dX0_mend_0 : decode cX0_mend 0 = .ok (.iconst 0, 1) := by decide +kernel
theorem dX0_mend_1 : decode cX0_mend 1 = .ok (.istore 4, 2) := by decide +kernel
theorem dX0_mend_3 : decode cX0_mend 3 = .ok (.iconst 0, 1) := by decide +kernel
theorem dX0_mend_4 : decode cX0_mend 4 = .ok (.istore 5, 2) := by decide +kernel
theorem dX0_mend_6 : decode cX0_mend 6 = .ok (.iload 5, 2) := by decide +kernel
theorem dX0_mend_8 : decode cX0_mend 8 = .ok (.iload_n 3, 1) := by decide +kernel
theorem dX0_mend_9 : decode cX0_mend 9 = .ok (.if_icmp .ge 56, 3) := by decide +kernel
theorem dX0_mend_12 : decode cX0_mend 12 = .ok (.iload_n 1, 1) := by decide +kernel
theorem dX0_mend_13 : decode cX0_mend 13 = .ok (.iload 5, 2) := by decide +kernel
theorem dX0_mend_15 : decode cX0_mend 15 = .ok (.invokestatic 21, 3) := by decide +kernel
theorem dX0_mend_18 : decode cX0_mend 18 = .ok (.ifCond .eq 41, 3) := by decide +kernel
theorem dX0_mend_21 : decode cX0_mend 21 = .ok (.aload_n 2, 1) := by decide +kernel
theorem dX0_mend_22 : decode cX0_mend 22 = .ok (.iload 5, 2) := by decide +kernel
theorem dX0_mend_24 : decode cX0_mend 24 = .ok (.iload_n 3, 1) := by decide +kernel
theorem dX0_mend_25 : decode cX0_mend 25 = .ok (.invokestatic 46, 3) := by decide +kernel
theorem dX0_mend_28 : decode cX0_mend 28 = .ok (.istore 6, 2) := by decide +kernel
theorem dX0_mend_30 : decode cX0_mend 30 = .ok (.iload 4, 2) := by decide +kernel
theorem dX0_mend_32 : decode cX0_mend 32 = .ok (.aload_n 0, 1) := by decide +kernel
theorem dX0_mend_33 : decode cX0_mend 33 = .ok (.getfield 9, 3) := by decide +kernel
theorem dX0_mend_36 : decode cX0_mend 36 = .ok (.iload 5, 2) := by decide +kernel
theorem dX0_mend_38 : decode cX0_mend 38 = .ok (.iaload, 1) := by decide +kernel
theorem dX0_mend_39 : decode cX0_mend 39 = .ok (.iload 6, 2) := by decide +kernel
theorem dX0_mend_41 : decode cX0_mend 41 = .ok (.iconst (-1), 1) := by decide +kernel
theorem dX0_mend_42 : decode cX0_mend 42 = .ok (.ixor, 1) := by decide +kernel
theorem dX0_mend_43 : decode cX0_mend 43 = .ok (.iand, 1) := by decide +kernel
theorem dX0_mend_44 : decode cX0_mend 44 = .ok (.invokestatic 37, 3) := by decide +kernel
theorem dX0_mend_47 : decode cX0_mend 47 = .ok (.iadd, 1) := by decide +kernel
theorem dX0_mend_48 : decode cX0_mend 48 = .ok (.istore 4, 2) := by decide +kernel
theorem dX0_mend_50 : decode cX0_mend 50 = .ok (.aload_n 0, 1) := by decide +kernel
theorem dX0_mend_51 : decode cX0_mend 51 = .ok (.getfield 9, 3) := by decide +kernel
theorem dX0_mend_54 : decode cX0_mend 54 = .ok (.iload 5, 2) := by decide +kernel
theorem dX0_mend_56 : decode cX0_mend 56 = .ok (.iload 6, 2) := by decide +kernel
theorem dX0_mend_58 : decode cX0_mend 58 = .ok (.iastore, 1) := by decide +kernel
theorem dX0_mend_59 : decode cX0_mend 59 = .ok (.iinc 5 1, 3) := by decide +kernel
theorem dX0_mend_62 : decode cX0_mend 62 = .ok (.goto (-56), 3) := by decide +kernel
theorem dX0_mend_65 : decode cX0_mend 65 = .ok (.iload 4, 2) := by decide +kernel
theorem dX0_mend_67 : decode cX0_mend 67 = .ok (.ireturn, 1) := by decide +kernel
theorem dX0_lossBy_0 : decode cX0_lossBy 0 = .ok (.aload_n 1, 1) := by decide +kernel
theorem dX0_lossBy_1 : decode cX0_lossBy 1 = .ok (.iload_n 2, 1) := by decide +kernel
theorem dX0_lossBy_2 : decode cX0_lossBy 2 = .ok (.iload 4, 2) := by decide +kernel
theorem dX0_lossBy_4 : decode cX0_lossBy 4 = .ok (.invokestatic 46, 3) := by decide +kernel
theorem dX0_lossBy_7 : decode cX0_lossBy 7 = .ok (.iload_n 3, 1) := by decide +kernel
theorem dX0_lossBy_8 : decode cX0_lossBy 8 = .ok (.invokestatic 21, 3) := by decide +kernel
theorem dX0_lossBy_11 : decode cX0_lossBy 11 = .ok (.ifCond .eq 5, 3) := by decide +kernel
theorem dX0_lossBy_14 : decode cX0_lossBy 14 = .ok (.iconst 0, 1) := by decide +kernel
theorem dX0_lossBy_15 : decode cX0_lossBy 15 = .ok (.ireturn, 1) := by decide +kernel
theorem dX0_lossBy_16 : decode cX0_lossBy 16 = .ok (.aload_n 0, 1) := by decide +kernel
theorem dX0_lossBy_17 : decode cX0_lossBy 17 = .ok (.iload_n 2, 1) := by decide +kernel
theorem dX0_lossBy_18 : decode cX0_lossBy 18 = .ok (.iload 4, 2) := by decide +kernel
theorem dX0_lossBy_20 : decode cX0_lossBy 20 = .ok (.invokevirtual 49, 3) := by decide +kernel
theorem dX0_lossBy_23 : decode cX0_lossBy 23 = .ok (.istore 5, 2) := by decide +kernel
theorem dX0_lossBy_25 : decode cX0_lossBy 25 = .ok (.iconst 0, 1) := by decide +kernel
theorem dX0_lossBy_26 : decode cX0_lossBy 26 = .ok (.istore 6, 2) := by decide +kernel
theorem dX0_lossBy_28 : decode cX0_lossBy 28 = .ok (.iconst 0, 1) := by decide +kernel
theorem dX0_lossBy_29 : decode cX0_lossBy 29 = .ok (.istore 7, 2) := by decide +kernel
theorem dX0_lossBy_31 : decode cX0_lossBy 31 = .ok (.iload 7, 2) := by decide +kernel
theorem dX0_lossBy_33 : decode cX0_lossBy 33 = .ok (.iload 4, 2) := by decide +kernel
theorem dX0_lossBy_35 : decode cX0_lossBy 35 = .ok (.if_icmp .ge 45, 3) := by decide +kernel
theorem dX0_lossBy_38 : decode cX0_lossBy 38 = .ok (.iload 5, 2) := by decide +kernel
theorem dX0_lossBy_40 : decode cX0_lossBy 40 = .ok (.iload 7, 2) := by decide +kernel
theorem dX0_lossBy_42 : decode cX0_lossBy 42 = .ok (.invokestatic 21, 3) := by decide +kernel
theorem dX0_lossBy_45 : decode cX0_lossBy 45 = .ok (.ifCond .eq 29, 3) := by decide +kernel
theorem dX0_lossBy_48 : decode cX0_lossBy 48 = .ok (.iload 6, 2) := by decide +kernel
theorem dX0_lossBy_50 : decode cX0_lossBy 50 = .ok (.aload_n 0, 1) := by decide +kernel
theorem dX0_lossBy_51 : decode cX0_lossBy 51 = .ok (.getfield 9, 3) := by decide +kernel
theorem dX0_lossBy_54 : decode cX0_lossBy 54 = .ok (.iload 7, 2) := by decide +kernel
theorem dX0_lossBy_56 : decode cX0_lossBy 56 = .ok (.iaload, 1) := by decide +kernel
theorem dX0_lossBy_57 : decode cX0_lossBy 57 = .ok (.aload_n 1, 1) := by decide +kernel
theorem dX0_lossBy_58 : decode cX0_lossBy 58 = .ok (.iload 7, 2) := by decide +kernel
theorem dX0_lossBy_60 : decode cX0_lossBy 60 = .ok (.iload 4, 2) := by decide +kernel
theorem dX0_lossBy_62 : decode cX0_lossBy 62 = .ok (.invokestatic 46, 3) := by decide +kernel
theorem dX0_lossBy_65 : decode cX0_lossBy 65 = .ok (.iconst (-1), 1) := by decide +kernel
theorem dX0_lossBy_66 : decode cX0_lossBy 66 = .ok (.ixor, 1) := by decide +kernel
theorem dX0_lossBy_67 : decode cX0_lossBy 67 = .ok (.iand, 1) := by decide +kernel
theorem dX0_lossBy_68 : decode cX0_lossBy 68 = .ok (.invokestatic 37, 3) := by decide +kernel
theorem dX0_lossBy_71 : decode cX0_lossBy 71 = .ok (.iadd, 1) := by decide +kernel
theorem dX0_lossBy_72 : decode cX0_lossBy 72 = .ok (.istore 6, 2) := by decide +kernel
theorem dX0_lossBy_74 : decode cX0_lossBy 74 = .ok (.iinc 7 1, 3) := by decide +kernel
theorem dX0_lossBy_77 : decode cX0_lossBy 77 = .ok (.goto (-46), 3) := by decide +kernel
theorem dX0_lossBy_80 : decode cX0_lossBy 80 = .ok (.iload 6, 2) := by decide +kernel
theorem dX0_lossBy_82 : decode cX0_lossBy 82 = .ok (.ireturn, 1) := by decide +kernel
theorem dX1_init_0 : decode cX1_init 0 = .ok (.aload_n 0, 1) := by decide +kernel
theorem dX1_init_1 : decode cX1_init 1 = .ok (.invokespecial 3, 3) := by decide +kernel
theorem dX1_init_4 : decode cX1_init 4 = .ok (.aload_n 0, 1) := by decide +kernel
theorem dX1_init_5 : decode cX1_init 5 = .ok (.bipush 32, 2) := by decide +kernel
theorem dX1_init_7 : decode cX1_init 7 = .ok (.newarray .int, 2) := by decide +kernel
theorem dX1_init_9 : decode cX1_init 9 = .ok (.putfield 9, 3) := by decide +kernel
theorem dX1_init_12 : decode cX1_init 12 = .ok (.aload_n 0, 1) := by decide +kernel
theorem dX1_init_13 : decode cX1_init 13 = .ok (.bipush 32, 2) := by decide +kernel
theorem dX1_init_15 : decode cX1_init 15 = .ok (.newarray .int, 2) := by decide +kernel
theorem dX1_init_17 : decode cX1_init 17 = .ok (.putfield 15, 3) := by decide +kernel
theorem dX1_init_20 : decode cX1_init 20 = .ok (.aload_n 0, 1) := by decide +kernel
theorem dX1_init_21 : decode cX1_init 21 = .ok (.bipush 32, 2) := by decide +kernel
theorem dX1_init_23 : decode cX1_init 23 = .ok (.newarray .int, 2) := by decide +kernel
theorem dX1_init_25 : decode cX1_init 25 = .ok (.putfield 18, 3) := by decide +kernel
theorem dX1_init_28 : decode cX1_init 28 = .ok (.return_, 1) := by decide +kernel
theorem dX1_eliminate_0 : decode cX1_eliminate 0 = .ok (.iconst 0, 1) := by decide +kernel
theorem dX1_eliminate_1 : decode cX1_eliminate 1 = .ok (.istore 4, 2) := by decide +kernel
theorem dX1_eliminate_3 : decode cX1_eliminate 3 = .ok (.iload 4, 2) := by decide +kernel
theorem dX1_eliminate_5 : decode cX1_eliminate 5 = .ok (.iload_n 2, 1) := by decide +kernel
theorem dX1_eliminate_6 : decode cX1_eliminate 6 = .ok (.if_icmp .ge 22, 3) := by decide +kernel
theorem dX1_eliminate_9 : decode cX1_eliminate 9 = .ok (.aload_n 0, 1) := by decide +kernel
theorem dX1_eliminate_10 : decode cX1_eliminate 10 = .ok (.getfield 15, 3) := by decide +kernel
theorem dX1_eliminate_13 : decode cX1_eliminate 13 = .ok (.iload 4, 2) := by decide +kernel
theorem dX1_eliminate_15 : decode cX1_eliminate 15 = .ok (.iload_n 3, 1) := by decide +kernel
theorem dX1_eliminate_16 : decode cX1_eliminate 16 = .ok (.iload 4, 2) := by decide +kernel
theorem dX1_eliminate_18 : decode cX1_eliminate 18 = .ok (.iushr, 1) := by decide +kernel
theorem dX1_eliminate_19 : decode cX1_eliminate 19 = .ok (.iconst 1, 1) := by decide +kernel
theorem dX1_eliminate_20 : decode cX1_eliminate 20 = .ok (.iand, 1) := by decide +kernel
theorem dX1_eliminate_21 : decode cX1_eliminate 21 = .ok (.iastore, 1) := by decide +kernel
theorem dX1_eliminate_22 : decode cX1_eliminate 22 = .ok (.iinc 4 1, 3) := by decide +kernel
theorem dX1_eliminate_25 : decode cX1_eliminate 25 = .ok (.goto (-22), 3) := by decide +kernel
theorem dX1_eliminate_28 : decode cX1_eliminate 28 = .ok (.aload_n 0, 1) := by decide +kernel
theorem dX1_eliminate_29 : decode cX1_eliminate 29 = .ok (.aload_n 1, 1) := by decide +kernel
theorem dX1_eliminate_30 : decode cX1_eliminate 30 = .ok (.iload_n 2, 1) := by decide +kernel
theorem dX1_eliminate_31 : decode cX1_eliminate 31 = .ok (.invokevirtual 21, 3) := by decide +kernel
theorem dX1_eliminate_34 : decode cX1_eliminate 34 = .ok (.return_, 1) := by decide +kernel
theorem dX1_eliminateBesideUnit_0 : decode cX1_eliminateBesideUnit 0 = .ok (.iconst 0, 1) := by decide +kernel
theorem dX1_eliminateBesideUnit_1 : decode cX1_eliminateBesideUnit 1 = .ok (.istore_n 3, 1) := by decide +kernel
theorem dX1_eliminateBesideUnit_2 : decode cX1_eliminateBesideUnit 2 = .ok (.iload_n 3, 1) := by decide +kernel
theorem dX1_eliminateBesideUnit_3 : decode cX1_eliminateBesideUnit 3 = .ok (.iload_n 2, 1) := by decide +kernel
theorem dX1_eliminateBesideUnit_4 : decode cX1_eliminateBesideUnit 4 = .ok (.if_icmp .ge 18, 3) := by decide +kernel
theorem dX1_eliminateBesideUnit_7 : decode cX1_eliminateBesideUnit 7 = .ok (.aload_n 0, 1) := by decide +kernel
theorem dX1_eliminateBesideUnit_8 : decode cX1_eliminateBesideUnit 8 = .ok (.getfield 15, 3) := by decide +kernel
theorem dX1_eliminateBesideUnit_11 : decode cX1_eliminateBesideUnit 11 = .ok (.iload_n 3, 1) := by decide +kernel
theorem dX1_eliminateBesideUnit_12 : decode cX1_eliminateBesideUnit 12 = .ok (.iconst 1, 1) := by decide +kernel
theorem dX1_eliminateBesideUnit_13 : decode cX1_eliminateBesideUnit 13 = .ok (.iload_n 3, 1) := by decide +kernel
theorem dX1_eliminateBesideUnit_14 : decode cX1_eliminateBesideUnit 14 = .ok (.ishl, 1) := by decide +kernel
theorem dX1_eliminateBesideUnit_15 : decode cX1_eliminateBesideUnit 15 = .ok (.iastore, 1) := by decide +kernel
theorem dX1_eliminateBesideUnit_16 : decode cX1_eliminateBesideUnit 16 = .ok (.iinc 3 1, 3) := by decide +kernel
theorem dX1_eliminateBesideUnit_19 : decode cX1_eliminateBesideUnit 19 = .ok (.goto (-17), 3) := by decide +kernel
theorem dX1_eliminateBesideUnit_22 : decode cX1_eliminateBesideUnit 22 = .ok (.aload_n 0, 1) := by decide +kernel
theorem dX1_eliminateBesideUnit_23 : decode cX1_eliminateBesideUnit 23 = .ok (.aload_n 1, 1) := by decide +kernel
theorem dX1_eliminateBesideUnit_24 : decode cX1_eliminateBesideUnit 24 = .ok (.iload_n 2, 1) := by decide +kernel
theorem dX1_eliminateBesideUnit_25 : decode cX1_eliminateBesideUnit 25 = .ok (.invokevirtual 21, 3) := by decide +kernel
theorem dX1_eliminateBesideUnit_28 : decode cX1_eliminateBesideUnit 28 = .ok (.return_, 1) := by decide +kernel
theorem dX1_isSolvable_0 : decode cX1_isSolvable 0 = .ok (.aload_n 0, 1) := by decide +kernel
theorem dX1_isSolvable_1 : decode cX1_isSolvable 1 = .ok (.getfield 25, 3) := by decide +kernel
theorem dX1_isSolvable_4 : decode cX1_isSolvable 4 = .ok (.istore_n 2, 1) := by decide +kernel
theorem dX1_isSolvable_5 : decode cX1_isSolvable 5 = .ok (.iload_n 2, 1) := by decide +kernel
theorem dX1_isSolvable_6 : decode cX1_isSolvable 6 = .ok (.iload_n 1, 1) := by decide +kernel
theorem dX1_isSolvable_7 : decode cX1_isSolvable 7 = .ok (.if_icmp .ge 20, 3) := by decide +kernel
theorem dX1_isSolvable_10 : decode cX1_isSolvable 10 = .ok (.aload_n 0, 1) := by decide +kernel
theorem dX1_isSolvable_11 : decode cX1_isSolvable 11 = .ok (.getfield 15, 3) := by decide +kernel
theorem dX1_isSolvable_14 : decode cX1_isSolvable 14 = .ok (.iload_n 2, 1) := by decide +kernel
theorem dX1_isSolvable_15 : decode cX1_isSolvable 15 = .ok (.iaload, 1) := by decide +kernel
theorem dX1_isSolvable_16 : decode cX1_isSolvable 16 = .ok (.ifCond .eq 5, 3) := by decide +kernel
theorem dX1_isSolvable_19 : decode cX1_isSolvable 19 = .ok (.iconst 0, 1) := by decide +kernel
theorem dX1_isSolvable_20 : decode cX1_isSolvable 20 = .ok (.ireturn, 1) := by decide +kernel
theorem dX1_isSolvable_21 : decode cX1_isSolvable 21 = .ok (.iinc 2 1, 3) := by decide +kernel
theorem dX1_isSolvable_24 : decode cX1_isSolvable 24 = .ok (.goto (-19), 3) := by decide +kernel
theorem dX1_isSolvable_27 : decode cX1_isSolvable 27 = .ok (.iconst 1, 1) := by decide +kernel
theorem dX1_isSolvable_28 : decode cX1_isSolvable 28 = .ok (.ireturn, 1) := by decide +kernel
theorem dX1_solution_0 : decode cX1_solution 0 = .ok (.iconst 0, 1) := by decide +kernel
theorem dX1_solution_1 : decode cX1_solution 1 = .ok (.istore_n 1, 1) := by decide +kernel
theorem dX1_solution_2 : decode cX1_solution 2 = .ok (.iconst 0, 1) := by decide +kernel
theorem dX1_solution_3 : decode cX1_solution 3 = .ok (.istore_n 2, 1) := by decide +kernel
theorem dX1_solution_4 : decode cX1_solution 4 = .ok (.iload_n 2, 1) := by decide +kernel
theorem dX1_solution_5 : decode cX1_solution 5 = .ok (.aload_n 0, 1) := by decide +kernel
theorem dX1_solution_6 : decode cX1_solution 6 = .ok (.getfield 25, 3) := by decide +kernel
theorem dX1_solution_9 : decode cX1_solution 9 = .ok (.if_icmp .ge 25, 3) := by decide +kernel
theorem dX1_solution_12 : decode cX1_solution 12 = .ok (.iload_n 1, 1) := by decide +kernel
theorem dX1_solution_13 : decode cX1_solution 13 = .ok (.aload_n 0, 1) := by decide +kernel
theorem dX1_solution_14 : decode cX1_solution 14 = .ok (.getfield 15, 3) := by decide +kernel
theorem dX1_solution_17 : decode cX1_solution 17 = .ok (.iload_n 2, 1) := by decide +kernel
theorem dX1_solution_18 : decode cX1_solution 18 = .ok (.iaload, 1) := by decide +kernel
theorem dX1_solution_19 : decode cX1_solution 19 = .ok (.aload_n 0, 1) := by decide +kernel
theorem dX1_solution_20 : decode cX1_solution 20 = .ok (.getfield 18, 3) := by decide +kernel
theorem dX1_solution_23 : decode cX1_solution 23 = .ok (.iload_n 2, 1) := by decide +kernel
theorem dX1_solution_24 : decode cX1_solution 24 = .ok (.iaload, 1) := by decide +kernel
theorem dX1_solution_25 : decode cX1_solution 25 = .ok (.ishl, 1) := by decide +kernel
theorem dX1_solution_26 : decode cX1_solution 26 = .ok (.ior, 1) := by decide +kernel
theorem dX1_solution_27 : decode cX1_solution 27 = .ok (.istore_n 1, 1) := by decide +kernel
theorem dX1_solution_28 : decode cX1_solution 28 = .ok (.iinc 2 1, 3) := by decide +kernel
theorem dX1_solution_31 : decode cX1_solution 31 = .ok (.goto (-27), 3) := by decide +kernel
theorem dX1_solution_34 : decode cX1_solution 34 = .ok (.iload_n 1, 1) := by decide +kernel
theorem dX1_solution_35 : decode cX1_solution 35 = .ok (.ireturn, 1) := by decide +kernel
theorem dX1_pivotAt_0 : decode cX1_pivotAt 0 = .ok (.iload_n 1, 1) := by decide +kernel
theorem dX1_pivotAt_1 : decode cX1_pivotAt 1 = .ok (.ifCond .lt 20, 3) := by decide +kernel
theorem dX1_pivotAt_4 : decode cX1_pivotAt 4 = .ok (.iload_n 1, 1) := by decide +kernel
theorem dX1_pivotAt_5 : decode cX1_pivotAt 5 = .ok (.aload_n 0, 1) := by decide +kernel
theorem dX1_pivotAt_6 : decode cX1_pivotAt 6 = .ok (.getfield 25, 3) := by decide +kernel
theorem dX1_pivotAt_9 : decode cX1_pivotAt 9 = .ok (.if_icmp .ge 12, 3) := by decide +kernel
theorem dX1_pivotAt_12 : decode cX1_pivotAt 12 = .ok (.aload_n 0, 1) := by decide +kernel
theorem dX1_pivotAt_13 : decode cX1_pivotAt 13 = .ok (.getfield 18, 3) := by decide +kernel
theorem dX1_pivotAt_16 : decode cX1_pivotAt 16 = .ok (.iload_n 1, 1) := by decide +kernel
theorem dX1_pivotAt_17 : decode cX1_pivotAt 17 = .ok (.iaload, 1) := by decide +kernel
theorem dX1_pivotAt_18 : decode cX1_pivotAt 18 = .ok (.goto 4, 3) := by decide +kernel
theorem dX1_pivotAt_21 : decode cX1_pivotAt 21 = .ok (.iconst (-1), 1) := by decide +kernel
theorem dX1_pivotAt_22 : decode cX1_pivotAt 22 = .ok (.ireturn, 1) := by decide +kernel
theorem dX1_eliminateAll_0 : decode cX1_eliminateAll 0 = .ok (.aload_n 1, 1) := by decide +kernel
theorem dX1_eliminateAll_1 : decode cX1_eliminateAll 1 = .ok (.iconst 0, 1) := by decide +kernel
theorem dX1_eliminateAll_2 : decode cX1_eliminateAll 2 = .ok (.aload_n 0, 1) := by decide +kernel
theorem dX1_eliminateAll_3 : decode cX1_eliminateAll 3 = .ok (.getfield 9, 3) := by decide +kernel
theorem dX1_eliminateAll_6 : decode cX1_eliminateAll 6 = .ok (.iconst 0, 1) := by decide +kernel
theorem dX1_eliminateAll_7 : decode cX1_eliminateAll 7 = .ok (.iload_n 2, 1) := by decide +kernel
theorem dX1_eliminateAll_8 : decode cX1_eliminateAll 8 = .ok (.invokestatic 29, 3) := by decide +kernel
theorem dX1_eliminateAll_11 : decode cX1_eliminateAll 11 = .ok (.aload_n 0, 1) := by decide +kernel
theorem dX1_eliminateAll_12 : decode cX1_eliminateAll 12 = .ok (.iconst 0, 1) := by decide +kernel
theorem dX1_eliminateAll_13 : decode cX1_eliminateAll 13 = .ok (.putfield 25, 3) := by decide +kernel
theorem dX1_eliminateAll_16 : decode cX1_eliminateAll 16 = .ok (.iconst 0, 1) := by decide +kernel
theorem dX1_eliminateAll_17 : decode cX1_eliminateAll 17 = .ok (.istore_n 3, 1) := by decide +kernel
theorem dX1_eliminateAll_18 : decode cX1_eliminateAll 18 = .ok (.iload_n 3, 1) := by decide +kernel
theorem dX1_eliminateAll_19 : decode cX1_eliminateAll 19 = .ok (.iload_n 2, 1) := by decide +kernel
theorem dX1_eliminateAll_20 : decode cX1_eliminateAll 20 = .ok (.if_icmp .ge 63, 3) := by decide +kernel
theorem dX1_eliminateAll_23 : decode cX1_eliminateAll 23 = .ok (.aload_n 0, 1) := by decide +kernel
theorem dX1_eliminateAll_24 : decode cX1_eliminateAll 24 = .ok (.iload_n 3, 1) := by decide +kernel
theorem dX1_eliminateAll_25 : decode cX1_eliminateAll 25 = .ok (.iload_n 2, 1) := by decide +kernel
theorem dX1_eliminateAll_26 : decode cX1_eliminateAll 26 = .ok (.invokevirtual 35, 3) := by decide +kernel
theorem dX1_eliminateAll_29 : decode cX1_eliminateAll 29 = .ok (.istore 4, 2) := by decide +kernel
theorem dX1_eliminateAll_31 : decode cX1_eliminateAll 31 = .ok (.iload 4, 2) := by decide +kernel
theorem dX1_eliminateAll_33 : decode cX1_eliminateAll 33 = .ok (.iconst (-1), 1) := by decide +kernel
theorem dX1_eliminateAll_34 : decode cX1_eliminateAll 34 = .ok (.if_icmp .eq 43, 3) := by decide +kernel
theorem dX1_eliminateAll_37 : decode cX1_eliminateAll 37 = .ok (.aload_n 0, 1) := by decide +kernel
theorem dX1_eliminateAll_38 : decode cX1_eliminateAll 38 = .ok (.iload 4, 2) := by decide +kernel
theorem dX1_eliminateAll_40 : decode cX1_eliminateAll 40 = .ok (.aload_n 0, 1) := by decide +kernel
theorem dX1_eliminateAll_41 : decode cX1_eliminateAll 41 = .ok (.getfield 25, 3) := by decide +kernel
theorem dX1_eliminateAll_44 : decode cX1_eliminateAll 44 = .ok (.invokevirtual 39, 3) := by decide +kernel
theorem dX1_eliminateAll_47 : decode cX1_eliminateAll 47 = .ok (.aload_n 0, 1) := by decide +kernel
theorem dX1_eliminateAll_48 : decode cX1_eliminateAll 48 = .ok (.aload_n 0, 1) := by decide +kernel
theorem dX1_eliminateAll_49 : decode cX1_eliminateAll 49 = .ok (.getfield 25, 3) := by decide +kernel
theorem dX1_eliminateAll_52 : decode cX1_eliminateAll 52 = .ok (.iload_n 3, 1) := by decide +kernel
theorem dX1_eliminateAll_53 : decode cX1_eliminateAll 53 = .ok (.iload_n 2, 1) := by decide +kernel
theorem dX1_eliminateAll_54 : decode cX1_eliminateAll 54 = .ok (.invokevirtual 43, 3) := by decide +kernel
theorem dX1_eliminateAll_57 : decode cX1_eliminateAll 57 = .ok (.aload_n 0, 1) := by decide +kernel
theorem dX1_eliminateAll_58 : decode cX1_eliminateAll 58 = .ok (.getfield 18, 3) := by decide +kernel
theorem dX1_eliminateAll_61 : decode cX1_eliminateAll 61 = .ok (.aload_n 0, 1) := by decide +kernel
theorem dX1_eliminateAll_62 : decode cX1_eliminateAll 62 = .ok (.getfield 25, 3) := by decide +kernel
theorem dX1_eliminateAll_65 : decode cX1_eliminateAll 65 = .ok (.iload_n 3, 1) := by decide +kernel
theorem dX1_eliminateAll_66 : decode cX1_eliminateAll 66 = .ok (.iastore, 1) := by decide +kernel
theorem dX1_eliminateAll_67 : decode cX1_eliminateAll 67 = .ok (.aload_n 0, 1) := by decide +kernel
theorem dX1_eliminateAll_68 : decode cX1_eliminateAll 68 = .ok (.dup, 1) := by decide +kernel
theorem dX1_eliminateAll_69 : decode cX1_eliminateAll 69 = .ok (.getfield 25, 3) := by decide +kernel
theorem dX1_eliminateAll_72 : decode cX1_eliminateAll 72 = .ok (.iconst 1, 1) := by decide +kernel
theorem dX1_eliminateAll_73 : decode cX1_eliminateAll 73 = .ok (.iadd, 1) := by decide +kernel
theorem dX1_eliminateAll_74 : decode cX1_eliminateAll 74 = .ok (.putfield 25, 3) := by decide +kernel
theorem dX1_eliminateAll_77 : decode cX1_eliminateAll 77 = .ok (.iinc 3 1, 3) := by decide +kernel
theorem dX1_eliminateAll_80 : decode cX1_eliminateAll 80 = .ok (.goto (-62), 3) := by decide +kernel
theorem dX1_eliminateAll_83 : decode cX1_eliminateAll 83 = .ok (.return_, 1) := by decide +kernel
theorem dX1_rowNotTaken_0 : decode cX1_rowNotTaken 0 = .ok (.aload_n 0, 1) := by decide +kernel
theorem dX1_rowNotTaken_1 : decode cX1_rowNotTaken 1 = .ok (.getfield 25, 3) := by decide +kernel
theorem dX1_rowNotTaken_4 : decode cX1_rowNotTaken 4 = .ok (.istore_n 3, 1) := by decide +kernel
theorem dX1_rowNotTaken_5 : decode cX1_rowNotTaken 5 = .ok (.iload_n 3, 1) := by decide +kernel
theorem dX1_rowNotTaken_6 : decode cX1_rowNotTaken 6 = .ok (.iload_n 2, 1) := by decide +kernel
theorem dX1_rowNotTaken_7 : decode cX1_rowNotTaken 7 = .ok (.if_icmp .ge 24, 3) := by decide +kernel
theorem dX1_rowNotTaken_10 : decode cX1_rowNotTaken 10 = .ok (.aload_n 0, 1) := by decide +kernel
theorem dX1_rowNotTaken_11 : decode cX1_rowNotTaken 11 = .ok (.getfield 9, 3) := by decide +kernel
theorem dX1_rowNotTaken_14 : decode cX1_rowNotTaken 14 = .ok (.iload_n 3, 1) := by decide +kernel
theorem dX1_rowNotTaken_15 : decode cX1_rowNotTaken 15 = .ok (.iaload, 1) := by decide +kernel
theorem dX1_rowNotTaken_16 : decode cX1_rowNotTaken 16 = .ok (.iload_n 1, 1) := by decide +kernel
theorem dX1_rowNotTaken_17 : decode cX1_rowNotTaken 17 = .ok (.invokestatic 47, 3) := by decide +kernel
theorem dX1_rowNotTaken_20 : decode cX1_rowNotTaken 20 = .ok (.ifCond .eq 5, 3) := by decide +kernel
theorem dX1_rowNotTaken_23 : decode cX1_rowNotTaken 23 = .ok (.iload_n 3, 1) := by decide +kernel
theorem dX1_rowNotTaken_24 : decode cX1_rowNotTaken 24 = .ok (.ireturn, 1) := by decide +kernel
theorem dX1_rowNotTaken_25 : decode cX1_rowNotTaken 25 = .ok (.iinc 3 1, 3) := by decide +kernel
theorem dX1_rowNotTaken_28 : decode cX1_rowNotTaken 28 = .ok (.goto (-23), 3) := by decide +kernel
theorem dX1_rowNotTaken_31 : decode cX1_rowNotTaken 31 = .ok (.iconst (-1), 1) := by decide +kernel
theorem dX1_rowNotTaken_32 : decode cX1_rowNotTaken 32 = .ok (.ireturn, 1) := by decide +kernel
theorem dX1_swapRows_0 : decode cX1_swapRows 0 = .ok (.aload_n 0, 1) := by decide +kernel
theorem dX1_swapRows_1 : decode cX1_swapRows 1 = .ok (.getfield 9, 3) := by decide +kernel
theorem dX1_swapRows_4 : decode cX1_swapRows 4 = .ok (.iload_n 1, 1) := by decide +kernel
theorem dX1_swapRows_5 : decode cX1_swapRows 5 = .ok (.iaload, 1) := by decide +kernel
theorem dX1_swapRows_6 : decode cX1_swapRows 6 = .ok (.istore_n 3, 1) := by decide +kernel
theorem dX1_swapRows_7 : decode cX1_swapRows 7 = .ok (.aload_n 0, 1) := by decide +kernel
theorem dX1_swapRows_8 : decode cX1_swapRows 8 = .ok (.getfield 9, 3) := by decide +kernel
theorem dX1_swapRows_11 : decode cX1_swapRows 11 = .ok (.iload_n 1, 1) := by decide +kernel
theorem dX1_swapRows_12 : decode cX1_swapRows 12 = .ok (.aload_n 0, 1) := by decide +kernel
theorem dX1_swapRows_13 : decode cX1_swapRows 13 = .ok (.getfield 9, 3) := by decide +kernel
theorem dX1_swapRows_16 : decode cX1_swapRows 16 = .ok (.iload_n 2, 1) := by decide +kernel
theorem dX1_swapRows_17 : decode cX1_swapRows 17 = .ok (.iaload, 1) := by decide +kernel
theorem dX1_swapRows_18 : decode cX1_swapRows 18 = .ok (.iastore, 1) := by decide +kernel
theorem dX1_swapRows_19 : decode cX1_swapRows 19 = .ok (.aload_n 0, 1) := by decide +kernel
theorem dX1_swapRows_20 : decode cX1_swapRows 20 = .ok (.getfield 9, 3) := by decide +kernel
theorem dX1_swapRows_23 : decode cX1_swapRows 23 = .ok (.iload_n 2, 1) := by decide +kernel
theorem dX1_swapRows_24 : decode cX1_swapRows 24 = .ok (.iload_n 3, 1) := by decide +kernel
theorem dX1_swapRows_25 : decode cX1_swapRows 25 = .ok (.iastore, 1) := by decide +kernel
theorem dX1_swapRows_26 : decode cX1_swapRows 26 = .ok (.aload_n 0, 1) := by decide +kernel
theorem dX1_swapRows_27 : decode cX1_swapRows 27 = .ok (.getfield 15, 3) := by decide +kernel
theorem dX1_swapRows_30 : decode cX1_swapRows 30 = .ok (.iload_n 1, 1) := by decide +kernel
theorem dX1_swapRows_31 : decode cX1_swapRows 31 = .ok (.iaload, 1) := by decide +kernel
theorem dX1_swapRows_32 : decode cX1_swapRows 32 = .ok (.istore 4, 2) := by decide +kernel
theorem dX1_swapRows_34 : decode cX1_swapRows 34 = .ok (.aload_n 0, 1) := by decide +kernel
theorem dX1_swapRows_35 : decode cX1_swapRows 35 = .ok (.getfield 15, 3) := by decide +kernel
theorem dX1_swapRows_38 : decode cX1_swapRows 38 = .ok (.iload_n 1, 1) := by decide +kernel
theorem dX1_swapRows_39 : decode cX1_swapRows 39 = .ok (.aload_n 0, 1) := by decide +kernel
theorem dX1_swapRows_40 : decode cX1_swapRows 40 = .ok (.getfield 15, 3) := by decide +kernel
theorem dX1_swapRows_43 : decode cX1_swapRows 43 = .ok (.iload_n 2, 1) := by decide +kernel
theorem dX1_swapRows_44 : decode cX1_swapRows 44 = .ok (.iaload, 1) := by decide +kernel
theorem dX1_swapRows_45 : decode cX1_swapRows 45 = .ok (.iastore, 1) := by decide +kernel
theorem dX1_swapRows_46 : decode cX1_swapRows 46 = .ok (.aload_n 0, 1) := by decide +kernel
theorem dX1_swapRows_47 : decode cX1_swapRows 47 = .ok (.getfield 15, 3) := by decide +kernel
theorem dX1_swapRows_50 : decode cX1_swapRows 50 = .ok (.iload_n 2, 1) := by decide +kernel
theorem dX1_swapRows_51 : decode cX1_swapRows 51 = .ok (.iload 4, 2) := by decide +kernel
theorem dX1_swapRows_53 : decode cX1_swapRows 53 = .ok (.iastore, 1) := by decide +kernel
theorem dX1_swapRows_54 : decode cX1_swapRows 54 = .ok (.return_, 1) := by decide +kernel
theorem dX1_clearOthers_0 : decode cX1_clearOthers 0 = .ok (.iconst 0, 1) := by decide +kernel
theorem dX1_clearOthers_1 : decode cX1_clearOthers 1 = .ok (.istore 4, 2) := by decide +kernel
theorem dX1_clearOthers_3 : decode cX1_clearOthers 3 = .ok (.iload 4, 2) := by decide +kernel
theorem dX1_clearOthers_5 : decode cX1_clearOthers 5 = .ok (.iload_n 3, 1) := by decide +kernel
theorem dX1_clearOthers_6 : decode cX1_clearOthers 6 = .ok (.if_icmp .ge 61, 3) := by decide +kernel
theorem dX1_clearOthers_9 : decode cX1_clearOthers 9 = .ok (.iload 4, 2) := by decide +kernel
theorem dX1_clearOthers_11 : decode cX1_clearOthers 11 = .ok (.iload_n 1, 1) := by decide +kernel
theorem dX1_clearOthers_12 : decode cX1_clearOthers 12 = .ok (.if_icmp .eq 49, 3) := by decide +kernel
theorem dX1_clearOthers_15 : decode cX1_clearOthers 15 = .ok (.aload_n 0, 1) := by decide +kernel
theorem dX1_clearOthers_16 : decode cX1_clearOthers 16 = .ok (.getfield 9, 3) := by decide +kernel
theorem dX1_clearOthers_19 : decode cX1_clearOthers 19 = .ok (.iload 4, 2) := by decide +kernel
theorem dX1_clearOthers_21 : decode cX1_clearOthers 21 = .ok (.iaload, 1) := by decide +kernel
theorem dX1_clearOthers_22 : decode cX1_clearOthers 22 = .ok (.iload_n 2, 1) := by decide +kernel
theorem dX1_clearOthers_23 : decode cX1_clearOthers 23 = .ok (.invokestatic 47, 3) := by decide +kernel
theorem dX1_clearOthers_26 : decode cX1_clearOthers 26 = .ok (.ifCond .eq 35, 3) := by decide +kernel
theorem dX1_clearOthers_29 : decode cX1_clearOthers 29 = .ok (.aload_n 0, 1) := by decide +kernel
theorem dX1_clearOthers_30 : decode cX1_clearOthers 30 = .ok (.getfield 9, 3) := by decide +kernel
theorem dX1_clearOthers_33 : decode cX1_clearOthers 33 = .ok (.iload 4, 2) := by decide +kernel
theorem dX1_clearOthers_35 : decode cX1_clearOthers 35 = .ok (.dup2, 1) := by decide +kernel
theorem dX1_clearOthers_36 : decode cX1_clearOthers 36 = .ok (.iaload, 1) := by decide +kernel
theorem dX1_clearOthers_37 : decode cX1_clearOthers 37 = .ok (.aload_n 0, 1) := by decide +kernel
theorem dX1_clearOthers_38 : decode cX1_clearOthers 38 = .ok (.getfield 9, 3) := by decide +kernel
theorem dX1_clearOthers_41 : decode cX1_clearOthers 41 = .ok (.iload_n 1, 1) := by decide +kernel
theorem dX1_clearOthers_42 : decode cX1_clearOthers 42 = .ok (.iaload, 1) := by decide +kernel
theorem dX1_clearOthers_43 : decode cX1_clearOthers 43 = .ok (.ixor, 1) := by decide +kernel
theorem dX1_clearOthers_44 : decode cX1_clearOthers 44 = .ok (.iastore, 1) := by decide +kernel
theorem dX1_clearOthers_45 : decode cX1_clearOthers 45 = .ok (.aload_n 0, 1) := by decide +kernel
theorem dX1_clearOthers_46 : decode cX1_clearOthers 46 = .ok (.getfield 15, 3) := by decide +kernel
theorem dX1_clearOthers_49 : decode cX1_clearOthers 49 = .ok (.iload 4, 2) := by decide +kernel
theorem dX1_clearOthers_51 : decode cX1_clearOthers 51 = .ok (.dup2, 1) := by decide +kernel
theorem dX1_clearOthers_52 : decode cX1_clearOthers 52 = .ok (.iaload, 1) := by decide +kernel
theorem dX1_clearOthers_53 : decode cX1_clearOthers 53 = .ok (.aload_n 0, 1) := by decide +kernel
theorem dX1_clearOthers_54 : decode cX1_clearOthers 54 = .ok (.getfield 15, 3) := by decide +kernel
theorem dX1_clearOthers_57 : decode cX1_clearOthers 57 = .ok (.iload_n 1, 1) := by decide +kernel
theorem dX1_clearOthers_58 : decode cX1_clearOthers 58 = .ok (.iaload, 1) := by decide +kernel
theorem dX1_clearOthers_59 : decode cX1_clearOthers 59 = .ok (.ixor, 1) := by decide +kernel
theorem dX1_clearOthers_60 : decode cX1_clearOthers 60 = .ok (.iastore, 1) := by decide +kernel
theorem dX1_clearOthers_61 : decode cX1_clearOthers 61 = .ok (.iinc 4 1, 3) := by decide +kernel
theorem dX1_clearOthers_64 : decode cX1_clearOthers 64 = .ok (.goto (-61), 3) := by decide +kernel
theorem dX1_clearOthers_67 : decode cX1_clearOthers 67 = .ok (.return_, 1) := by decide +kernel
theorem dX2_init_0 : decode cX2_init 0 = .ok (.aload_n 0, 1) := by decide +kernel
theorem dX2_init_1 : decode cX2_init 1 = .ok (.invokespecial 3, 3) := by decide +kernel
theorem dX2_init_4 : decode cX2_init 4 = .ok (.aload_n 0, 1) := by decide +kernel
theorem dX2_init_5 : decode cX2_init 5 = .ok (.bipush 32, 2) := by decide +kernel
theorem dX2_init_7 : decode cX2_init 7 = .ok (.newarray .int, 2) := by decide +kernel
theorem dX2_init_9 : decode cX2_init 9 = .ok (.putfield 9, 3) := by decide +kernel
theorem dX2_init_12 : decode cX2_init 12 = .ok (.return_, 1) := by decide +kernel
theorem dX2_makeEmpty_0 : decode cX2_makeEmpty 0 = .ok (.iconst 0, 1) := by decide +kernel
theorem dX2_makeEmpty_1 : decode cX2_makeEmpty 1 = .ok (.istore_n 1, 1) := by decide +kernel
theorem dX2_makeEmpty_2 : decode cX2_makeEmpty 2 = .ok (.iload_n 1, 1) := by decide +kernel
theorem dX2_makeEmpty_3 : decode cX2_makeEmpty 3 = .ok (.bipush 32, 2) := by decide +kernel
theorem dX2_makeEmpty_5 : decode cX2_makeEmpty 5 = .ok (.if_icmp .ge 16, 3) := by decide +kernel
theorem dX2_makeEmpty_8 : decode cX2_makeEmpty 8 = .ok (.aload_n 0, 1) := by decide +kernel
theorem dX2_makeEmpty_9 : decode cX2_makeEmpty 9 = .ok (.getfield 9, 3) := by decide +kernel
theorem dX2_makeEmpty_12 : decode cX2_makeEmpty 12 = .ok (.iload_n 1, 1) := by decide +kernel
theorem dX2_makeEmpty_13 : decode cX2_makeEmpty 13 = .ok (.iconst 0, 1) := by decide +kernel
theorem dX2_makeEmpty_14 : decode cX2_makeEmpty 14 = .ok (.iastore, 1) := by decide +kernel
theorem dX2_makeEmpty_15 : decode cX2_makeEmpty 15 = .ok (.iinc 1 1, 3) := by decide +kernel
theorem dX2_makeEmpty_18 : decode cX2_makeEmpty 18 = .ok (.goto (-16), 3) := by decide +kernel
theorem dX2_makeEmpty_21 : decode cX2_makeEmpty 21 = .ok (.aload_n 0, 1) := by decide +kernel
theorem dX2_makeEmpty_22 : decode cX2_makeEmpty 22 = .ok (.iconst 0, 1) := by decide +kernel
theorem dX2_makeEmpty_23 : decode cX2_makeEmpty 23 = .ok (.putfield 15, 3) := by decide +kernel
theorem dX2_makeEmpty_26 : decode cX2_makeEmpty 26 = .ok (.aload_n 0, 1) := by decide +kernel
theorem dX2_makeEmpty_27 : decode cX2_makeEmpty 27 = .ok (.iconst 0, 1) := by decide +kernel
theorem dX2_makeEmpty_28 : decode cX2_makeEmpty 28 = .ok (.putfield 19, 3) := by decide +kernel
theorem dX2_makeEmpty_31 : decode cX2_makeEmpty 31 = .ok (.aload_n 0, 1) := by decide +kernel
theorem dX2_makeEmpty_32 : decode cX2_makeEmpty 32 = .ok (.iconst 0, 1) := by decide +kernel
theorem dX2_makeEmpty_33 : decode cX2_makeEmpty 33 = .ok (.putfield 23, 3) := by decide +kernel
theorem dX2_makeEmpty_36 : decode cX2_makeEmpty 36 = .ok (.aload_n 0, 1) := by decide +kernel
theorem dX2_makeEmpty_37 : decode cX2_makeEmpty 37 = .ok (.iconst 0, 1) := by decide +kernel
theorem dX2_makeEmpty_38 : decode cX2_makeEmpty 38 = .ok (.putfield 26, 3) := by decide +kernel
theorem dX2_makeEmpty_41 : decode cX2_makeEmpty 41 = .ok (.return_, 1) := by decide +kernel
theorem dX2_takeFrom_0 : decode cX2_takeFrom 0 = .ok (.aload_n 1, 1) := by decide +kernel
theorem dX2_takeFrom_1 : decode cX2_takeFrom 1 = .ok (.getfield 9, 3) := by decide +kernel
theorem dX2_takeFrom_4 : decode cX2_takeFrom 4 = .ok (.iconst 0, 1) := by decide +kernel
theorem dX2_takeFrom_5 : decode cX2_takeFrom 5 = .ok (.aload_n 0, 1) := by decide +kernel
theorem dX2_takeFrom_6 : decode cX2_takeFrom 6 = .ok (.getfield 9, 3) := by decide +kernel
theorem dX2_takeFrom_9 : decode cX2_takeFrom 9 = .ok (.iconst 0, 1) := by decide +kernel
theorem dX2_takeFrom_10 : decode cX2_takeFrom 10 = .ok (.bipush 32, 2) := by decide +kernel
theorem dX2_takeFrom_12 : decode cX2_takeFrom 12 = .ok (.invokestatic 29, 3) := by decide +kernel
theorem dX2_takeFrom_15 : decode cX2_takeFrom 15 = .ok (.aload_n 0, 1) := by decide +kernel
theorem dX2_takeFrom_16 : decode cX2_takeFrom 16 = .ok (.aload_n 1, 1) := by decide +kernel
theorem dX2_takeFrom_17 : decode cX2_takeFrom 17 = .ok (.getfield 15, 3) := by decide +kernel
theorem dX2_takeFrom_20 : decode cX2_takeFrom 20 = .ok (.putfield 15, 3) := by decide +kernel
theorem dX2_takeFrom_23 : decode cX2_takeFrom 23 = .ok (.aload_n 0, 1) := by decide +kernel
theorem dX2_takeFrom_24 : decode cX2_takeFrom 24 = .ok (.aload_n 1, 1) := by decide +kernel
theorem dX2_takeFrom_25 : decode cX2_takeFrom 25 = .ok (.getfield 19, 3) := by decide +kernel
theorem dX2_takeFrom_28 : decode cX2_takeFrom 28 = .ok (.putfield 19, 3) := by decide +kernel
theorem dX2_takeFrom_31 : decode cX2_takeFrom 31 = .ok (.aload_n 0, 1) := by decide +kernel
theorem dX2_takeFrom_32 : decode cX2_takeFrom 32 = .ok (.aload_n 1, 1) := by decide +kernel
theorem dX2_takeFrom_33 : decode cX2_takeFrom 33 = .ok (.getfield 23, 3) := by decide +kernel
theorem dX2_takeFrom_36 : decode cX2_takeFrom 36 = .ok (.putfield 23, 3) := by decide +kernel
theorem dX2_takeFrom_39 : decode cX2_takeFrom 39 = .ok (.aload_n 0, 1) := by decide +kernel
theorem dX2_takeFrom_40 : decode cX2_takeFrom 40 = .ok (.aload_n 1, 1) := by decide +kernel
theorem dX2_takeFrom_41 : decode cX2_takeFrom 41 = .ok (.getfield 26, 3) := by decide +kernel
theorem dX2_takeFrom_44 : decode cX2_takeFrom 44 = .ok (.putfield 26, 3) := by decide +kernel
theorem dX2_takeFrom_47 : decode cX2_takeFrom 47 = .ok (.return_, 1) := by decide +kernel
theorem dX2_noteLooked_0 : decode cX2_noteLooked 0 = .ok (.aload_n 0, 1) := by decide +kernel
theorem dX2_noteLooked_1 : decode cX2_noteLooked 1 = .ok (.getfield 15, 3) := by decide +kernel
theorem dX2_noteLooked_4 : decode cX2_noteLooked 4 = .ok (.ifCond .eq 18, 3) := by decide +kernel
theorem dX2_noteLooked_7 : decode cX2_noteLooked 7 = .ok (.aload_n 0, 1) := by decide +kernel
theorem dX2_noteLooked_8 : decode cX2_noteLooked 8 = .ok (.iload_n 1, 1) := by decide +kernel
theorem dX2_noteLooked_9 : decode cX2_noteLooked 9 = .ok (.putfield 19, 3) := by decide +kernel
theorem dX2_noteLooked_12 : decode cX2_noteLooked 12 = .ok (.aload_n 0, 1) := by decide +kernel
theorem dX2_noteLooked_13 : decode cX2_noteLooked 13 = .ok (.dup, 1) := by decide +kernel
theorem dX2_noteLooked_14 : decode cX2_noteLooked 14 = .ok (.getfield 23, 3) := by decide +kernel
theorem dX2_noteLooked_17 : decode cX2_noteLooked 17 = .ok (.iload_n 1, 1) := by decide +kernel
theorem dX2_noteLooked_18 : decode cX2_noteLooked 18 = .ok (.iadd, 1) := by decide +kernel
theorem dX2_noteLooked_19 : decode cX2_noteLooked 19 = .ok (.putfield 23, 3) := by decide +kernel
theorem dX2_noteLooked_22 : decode cX2_noteLooked 22 = .ok (.return_, 1) := by decide +kernel
theorem dX2_noteMadeAnew_0 : decode cX2_noteMadeAnew 0 = .ok (.aload_n 0, 1) := by decide +kernel
theorem dX2_noteMadeAnew_1 : decode cX2_noteMadeAnew 1 = .ok (.getfield 15, 3) := by decide +kernel
theorem dX2_noteMadeAnew_4 : decode cX2_noteMadeAnew 4 = .ok (.ifCond .eq 18, 3) := by decide +kernel
theorem dX2_noteMadeAnew_7 : decode cX2_noteMadeAnew 7 = .ok (.aload_n 0, 1) := by decide +kernel
theorem dX2_noteMadeAnew_8 : decode cX2_noteMadeAnew 8 = .ok (.iload_n 1, 1) := by decide +kernel
theorem dX2_noteMadeAnew_9 : decode cX2_noteMadeAnew 9 = .ok (.invokevirtual 35, 3) := by decide +kernel
theorem dX2_noteMadeAnew_12 : decode cX2_noteMadeAnew 12 = .ok (.aload_n 0, 1) := by decide +kernel
theorem dX2_noteMadeAnew_13 : decode cX2_noteMadeAnew 13 = .ok (.dup, 1) := by decide +kernel
theorem dX2_noteMadeAnew_14 : decode cX2_noteMadeAnew 14 = .ok (.getfield 26, 3) := by decide +kernel
theorem dX2_noteMadeAnew_17 : decode cX2_noteMadeAnew 17 = .ok (.iconst 1, 1) := by decide +kernel
theorem dX2_noteMadeAnew_18 : decode cX2_noteMadeAnew 18 = .ok (.iadd, 1) := by decide +kernel
theorem dX2_noteMadeAnew_19 : decode cX2_noteMadeAnew 19 = .ok (.putfield 26, 3) := by decide +kernel
theorem dX2_noteMadeAnew_22 : decode cX2_noteMadeAnew 22 = .ok (.return_, 1) := by decide +kernel
theorem dX3_init_0 : decode cX3_init 0 = .ok (.aload_n 0, 1) := by decide +kernel
theorem dX3_init_1 : decode cX3_init 1 = .ok (.invokespecial 3, 3) := by decide +kernel
theorem dX3_init_4 : decode cX3_init 4 = .ok (.aload_n 0, 1) := by decide +kernel
theorem dX3_init_5 : decode cX3_init 5 = .ok (.sipush 256, 3) := by decide +kernel
theorem dX3_init_8 : decode cX3_init 8 = .ok (.newarray .int, 2) := by decide +kernel
theorem dX3_init_10 : decode cX3_init 10 = .ok (.putfield 9, 3) := by decide +kernel
theorem dX3_init_13 : decode cX3_init 13 = .ok (.aload_n 0, 1) := by decide +kernel
theorem dX3_init_14 : decode cX3_init 14 = .ok (.bipush 32, 2) := by decide +kernel
theorem dX3_init_16 : decode cX3_init 16 = .ok (.newarray .int, 2) := by decide +kernel
theorem dX3_init_18 : decode cX3_init 18 = .ok (.putfield 15, 3) := by decide +kernel
theorem dX3_init_21 : decode cX3_init 21 = .ok (.aload_n 0, 1) := by decide +kernel
theorem dX3_init_22 : decode cX3_init 22 = .ok (.bipush 32, 2) := by decide +kernel
theorem dX3_init_24 : decode cX3_init 24 = .ok (.newarray .int, 2) := by decide +kernel
theorem dX3_init_26 : decode cX3_init 26 = .ok (.putfield 18, 3) := by decide +kernel
theorem dX3_init_29 : decode cX3_init 29 = .ok (.return_, 1) := by decide +kernel
theorem dX3_begin_0 : decode cX3_begin 0 = .ok (.aload_n 0, 1) := by decide +kernel
theorem dX3_begin_1 : decode cX3_begin 1 = .ok (.aload_n 1, 1) := by decide +kernel
theorem dX3_begin_2 : decode cX3_begin 2 = .ok (.getfield 21, 3) := by decide +kernel
theorem dX3_begin_5 : decode cX3_begin 5 = .ok (.putfield 27, 3) := by decide +kernel
theorem dX3_begin_8 : decode cX3_begin 8 = .ok (.aload_n 0, 1) := by decide +kernel
theorem dX3_begin_9 : decode cX3_begin 9 = .ok (.aload_n 1, 1) := by decide +kernel
theorem dX3_begin_10 : decode cX3_begin 10 = .ok (.getfield 28, 3) := by decide +kernel
theorem dX3_begin_13 : decode cX3_begin 13 = .ok (.putfield 31, 3) := by decide +kernel
theorem dX3_begin_16 : decode cX3_begin 16 = .ok (.aload_n 0, 1) := by decide +kernel
theorem dX3_begin_17 : decode cX3_begin 17 = .ok (.iload_n 2, 1) := by decide +kernel
theorem dX3_begin_18 : decode cX3_begin 18 = .ok (.putfield 32, 3) := by decide +kernel
theorem dX3_begin_21 : decode cX3_begin 21 = .ok (.return_, 1) := by decide +kernel
theorem dX3_multiply_0 : decode cX3_multiply 0 = .ok (.aload_n 0, 1) := by decide +kernel
theorem dX3_multiply_1 : decode cX3_multiply 1 = .ok (.iconst 0, 1) := by decide +kernel
theorem dX3_multiply_2 : decode cX3_multiply 2 = .ok (.putfield 36, 3) := by decide +kernel
theorem dX3_multiply_5 : decode cX3_multiply 5 = .ok (.aload_n 0, 1) := by decide +kernel
theorem dX3_multiply_6 : decode cX3_multiply 6 = .ok (.iconst 0, 1) := by decide +kernel
theorem dX3_multiply_7 : decode cX3_multiply 7 = .ok (.putfield 39, 3) := by decide +kernel
theorem dX3_multiply_10 : decode cX3_multiply 10 = .ok (.iconst 0, 1) := by decide +kernel
theorem dX3_multiply_11 : decode cX3_multiply 11 = .ok (.istore 4, 2) := by decide +kernel
theorem dX3_multiply_13 : decode cX3_multiply 13 = .ok (.iload 4, 2) := by decide +kernel
theorem dX3_multiply_15 : decode cX3_multiply 15 = .ok (.aload_n 0, 1) := by decide +kernel
theorem dX3_multiply_16 : decode cX3_multiply 16 = .ok (.getfield 27, 3) := by decide +kernel
theorem dX3_multiply_19 : decode cX3_multiply 19 = .ok (.if_icmp .ge 14, 3) := by decide +kernel
theorem dX3_multiply_22 : decode cX3_multiply 22 = .ok (.aload_n 3, 1) := by decide +kernel
theorem dX3_multiply_23 : decode cX3_multiply 23 = .ok (.iload 4, 2) := by decide +kernel
theorem dX3_multiply_25 : decode cX3_multiply 25 = .ok (.iconst 0, 1) := by decide +kernel
theorem dX3_multiply_26 : decode cX3_multiply 26 = .ok (.iastore, 1) := by decide +kernel
theorem dX3_multiply_27 : decode cX3_multiply 27 = .ok (.iinc 4 1, 3) := by decide +kernel
theorem dX3_multiply_30 : decode cX3_multiply 30 = .ok (.goto (-17), 3) := by decide +kernel
theorem dX3_multiply_33 : decode cX3_multiply 33 = .ok (.iconst 0, 1) := by decide +kernel
theorem dX3_multiply_34 : decode cX3_multiply 34 = .ok (.istore 4, 2) := by decide +kernel
theorem dX3_multiply_36 : decode cX3_multiply 36 = .ok (.iload 4, 2) := by decide +kernel
theorem dX3_multiply_38 : decode cX3_multiply 38 = .ok (.aload_n 0, 1) := by decide +kernel
theorem dX3_multiply_39 : decode cX3_multiply 39 = .ok (.getfield 27, 3) := by decide +kernel
theorem dX3_multiply_42 : decode cX3_multiply 42 = .ok (.if_icmp .ge 50, 3) := by decide +kernel
theorem dX3_multiply_45 : decode cX3_multiply 45 = .ok (.aload_n 0, 1) := by decide +kernel
theorem dX3_multiply_46 : decode cX3_multiply 46 = .ok (.getfield 31, 3) := by decide +kernel
theorem dX3_multiply_49 : decode cX3_multiply 49 = .ok (.aload_n 0, 1) := by decide +kernel
theorem dX3_multiply_50 : decode cX3_multiply 50 = .ok (.getfield 27, 3) := by decide +kernel
theorem dX3_multiply_53 : decode cX3_multiply 53 = .ok (.iload 4, 2) := by decide +kernel
theorem dX3_multiply_55 : decode cX3_multiply 55 = .ok (.isub, 1) := by decide +kernel
theorem dX3_multiply_56 : decode cX3_multiply 56 = .ok (.invokestatic 42, 3) := by decide +kernel
theorem dX3_multiply_59 : decode cX3_multiply 59 = .ok (.istore 5, 2) := by decide +kernel
theorem dX3_multiply_61 : decode cX3_multiply 61 = .ok (.aload_n 0, 1) := by decide +kernel
theorem dX3_multiply_62 : decode cX3_multiply 62 = .ok (.aload_n 2, 1) := by decide +kernel
theorem dX3_multiply_63 : decode cX3_multiply 63 = .ok (.iload 4, 2) := by decide +kernel
theorem dX3_multiply_65 : decode cX3_multiply 65 = .ok (.iload 5, 2) := by decide +kernel
theorem dX3_multiply_67 : decode cX3_multiply 67 = .ok (.invokevirtual 48, 3) := by decide +kernel
theorem dX3_multiply_70 : decode cX3_multiply 70 = .ok (.aload_n 0, 1) := by decide +kernel
theorem dX3_multiply_71 : decode cX3_multiply 71 = .ok (.aload_n 1, 1) := by decide +kernel
theorem dX3_multiply_72 : decode cX3_multiply 72 = .ok (.aload_n 3, 1) := by decide +kernel
theorem dX3_multiply_73 : decode cX3_multiply 73 = .ok (.iload 4, 2) := by decide +kernel
theorem dX3_multiply_75 : decode cX3_multiply 75 = .ok (.iload 5, 2) := by decide +kernel
theorem dX3_multiply_77 : decode cX3_multiply 77 = .ok (.invokevirtual 52, 3) := by decide +kernel
theorem dX3_multiply_80 : decode cX3_multiply 80 = .ok (.iload 4, 2) := by decide +kernel
theorem dX3_multiply_82 : decode cX3_multiply 82 = .ok (.aload_n 0, 1) := by decide +kernel
theorem dX3_multiply_83 : decode cX3_multiply 83 = .ok (.getfield 31, 3) := by decide +kernel
theorem dX3_multiply_86 : decode cX3_multiply 86 = .ok (.iadd, 1) := by decide +kernel
theorem dX3_multiply_87 : decode cX3_multiply 87 = .ok (.istore 4, 2) := by decide +kernel
theorem dX3_multiply_89 : decode cX3_multiply 89 = .ok (.goto (-53), 3) := by decide +kernel
theorem dX3_multiply_92 : decode cX3_multiply 92 = .ok (.return_, 1) := by decide +kernel
theorem dX3_raise_0 : decode cX3_raise 0 = .ok (.aload_n 0, 1) := by decide +kernel
theorem dX3_raise_1 : decode cX3_raise 1 = .ok (.getfield 15, 3) := by decide +kernel
theorem dX3_raise_4 : decode cX3_raise 4 = .ok (.astore_n 3, 1) := by decide +kernel
theorem dX3_raise_5 : decode cX3_raise 5 = .ok (.aload_n 0, 1) := by decide +kernel
theorem dX3_raise_6 : decode cX3_raise 6 = .ok (.getfield 18, 3) := by decide +kernel
theorem dX3_raise_9 : decode cX3_raise 9 = .ok (.astore 4, 2) := by decide +kernel
theorem dX3_raise_11 : decode cX3_raise 11 = .ok (.iconst 0, 1) := by decide +kernel
theorem dX3_raise_12 : decode cX3_raise 12 = .ok (.istore 5, 2) := by decide +kernel
theorem dX3_raise_14 : decode cX3_raise 14 = .ok (.iload 5, 2) := by decide +kernel
theorem dX3_raise_16 : decode cX3_raise 16 = .ok (.aload_n 0, 1) := by decide +kernel
theorem dX3_raise_17 : decode cX3_raise 17 = .ok (.getfield 27, 3) := by decide +kernel
theorem dX3_raise_20 : decode cX3_raise 20 = .ok (.if_icmp .ge 17, 3) := by decide +kernel
theorem dX3_raise_23 : decode cX3_raise 23 = .ok (.aload_n 3, 1) := by decide +kernel
theorem dX3_raise_24 : decode cX3_raise 24 = .ok (.iload 5, 2) := by decide +kernel
theorem dX3_raise_26 : decode cX3_raise 26 = .ok (.iconst 1, 1) := by decide +kernel
theorem dX3_raise_27 : decode cX3_raise 27 = .ok (.iload 5, 2) := by decide +kernel
theorem dX3_raise_29 : decode cX3_raise 29 = .ok (.ishl, 1) := by decide +kernel
theorem dX3_raise_30 : decode cX3_raise 30 = .ok (.iastore, 1) := by decide +kernel
theorem dX3_raise_31 : decode cX3_raise 31 = .ok (.iinc 5 1, 3) := by decide +kernel
theorem dX3_raise_34 : decode cX3_raise 34 = .ok (.goto (-20), 3) := by decide +kernel
theorem dX3_raise_37 : decode cX3_raise 37 = .ok (.bipush 19, 2) := by decide +kernel
theorem dX3_raise_39 : decode cX3_raise 39 = .ok (.istore 5, 2) := by decide +kernel
theorem dX3_raise_41 : decode cX3_raise 41 = .ok (.iload 5, 2) := by decide +kernel
theorem dX3_raise_43 : decode cX3_raise 43 = .ok (.ifCond .lt 61, 3) := by decide +kernel
theorem dX3_raise_46 : decode cX3_raise 46 = .ok (.iload_n 2, 1) := by decide +kernel
theorem dX3_raise_47 : decode cX3_raise 47 = .ok (.iload 5, 2) := by decide +kernel
theorem dX3_raise_49 : decode cX3_raise 49 = .ok (.ishr, 1) := by decide +kernel
theorem dX3_raise_50 : decode cX3_raise 50 = .ok (.ifCond .eq 21, 3) := by decide +kernel
theorem dX3_raise_53 : decode cX3_raise 53 = .ok (.aload_n 0, 1) := by decide +kernel
theorem dX3_raise_54 : decode cX3_raise 54 = .ok (.aload_n 3, 1) := by decide +kernel
theorem dX3_raise_55 : decode cX3_raise 55 = .ok (.aload_n 3, 1) := by decide +kernel
theorem dX3_raise_56 : decode cX3_raise 56 = .ok (.aload 4, 2) := by decide +kernel
theorem dX3_raise_58 : decode cX3_raise 58 = .ok (.invokevirtual 56, 3) := by decide +kernel
theorem dX3_raise_61 : decode cX3_raise 61 = .ok (.aload 4, 2) := by decide +kernel
theorem dX3_raise_63 : decode cX3_raise 63 = .ok (.astore 6, 2) := by decide +kernel
theorem dX3_raise_65 : decode cX3_raise 65 = .ok (.aload_n 3, 1) := by decide +kernel
theorem dX3_raise_66 : decode cX3_raise 66 = .ok (.astore 4, 2) := by decide +kernel
theorem dX3_raise_68 : decode cX3_raise 68 = .ok (.aload 6, 2) := by decide +kernel
theorem dX3_raise_70 : decode cX3_raise 70 = .ok (.astore_n 3, 1) := by decide +kernel
theorem dX3_raise_71 : decode cX3_raise 71 = .ok (.iload_n 2, 1) := by decide +kernel
theorem dX3_raise_72 : decode cX3_raise 72 = .ok (.iload 5, 2) := by decide +kernel
theorem dX3_raise_74 : decode cX3_raise 74 = .ok (.invokestatic 60, 3) := by decide +kernel
theorem dX3_raise_77 : decode cX3_raise 77 = .ok (.ifCond .eq 21, 3) := by decide +kernel
theorem dX3_raise_80 : decode cX3_raise 80 = .ok (.aload_n 0, 1) := by decide +kernel
theorem dX3_raise_81 : decode cX3_raise 81 = .ok (.aload_n 3, 1) := by decide +kernel
theorem dX3_raise_82 : decode cX3_raise 82 = .ok (.aload_n 1, 1) := by decide +kernel
theorem dX3_raise_83 : decode cX3_raise 83 = .ok (.aload 4, 2) := by decide +kernel
theorem dX3_raise_85 : decode cX3_raise 85 = .ok (.invokevirtual 56, 3) := by decide +kernel
theorem dX3_raise_88 : decode cX3_raise 88 = .ok (.aload 4, 2) := by decide +kernel
theorem dX3_raise_90 : decode cX3_raise 90 = .ok (.astore 6, 2) := by decide +kernel
theorem dX3_raise_92 : decode cX3_raise 92 = .ok (.aload_n 3, 1) := by decide +kernel
theorem dX3_raise_93 : decode cX3_raise 93 = .ok (.astore 4, 2) := by decide +kernel
theorem dX3_raise_95 : decode cX3_raise 95 = .ok (.aload 6, 2) := by decide +kernel
theorem dX3_raise_97 : decode cX3_raise 97 = .ok (.astore_n 3, 1) := by decide +kernel
theorem dX3_raise_98 : decode cX3_raise 98 = .ok (.iinc 5 (-1), 3) := by decide +kernel
theorem dX3_raise_101 : decode cX3_raise 101 = .ok (.goto (-60), 3) := by decide +kernel
theorem dX3_raise_104 : decode cX3_raise 104 = .ok (.aload_n 3, 1) := by decide +kernel
theorem dX3_raise_105 : decode cX3_raise 105 = .ok (.areturn, 1) := by decide +kernel
theorem dX3_fillTable_0 : decode cX3_fillTable 0 = .ok (.iconst 0, 1) := by decide +kernel
theorem dX3_fillTable_1 : decode cX3_fillTable 1 = .ok (.istore 4, 2) := by decide +kernel
theorem dX3_fillTable_3 : decode cX3_fillTable 3 = .ok (.iload 4, 2) := by decide +kernel
theorem dX3_fillTable_5 : decode cX3_fillTable 5 = .ok (.iload_n 3, 1) := by decide +kernel
theorem dX3_fillTable_6 : decode cX3_fillTable 6 = .ok (.if_icmp .ge 58, 3) := by decide +kernel
theorem dX3_fillTable_9 : decode cX3_fillTable 9 = .ok (.iconst 1, 1) := by decide +kernel
theorem dX3_fillTable_10 : decode cX3_fillTable 10 = .ok (.iload 4, 2) := by decide +kernel
theorem dX3_fillTable_12 : decode cX3_fillTable 12 = .ok (.ishl, 1) := by decide +kernel
theorem dX3_fillTable_13 : decode cX3_fillTable 13 = .ok (.istore 5, 2) := by decide +kernel
theorem dX3_fillTable_15 : decode cX3_fillTable 15 = .ok (.iconst 0, 1) := by decide +kernel
theorem dX3_fillTable_16 : decode cX3_fillTable 16 = .ok (.istore 6, 2) := by decide +kernel
theorem dX3_fillTable_18 : decode cX3_fillTable 18 = .ok (.iload 6, 2) := by decide +kernel
theorem dX3_fillTable_20 : decode cX3_fillTable 20 = .ok (.iload 5, 2) := by decide +kernel
theorem dX3_fillTable_22 : decode cX3_fillTable 22 = .ok (.if_icmp .ge 36, 3) := by decide +kernel
theorem dX3_fillTable_25 : decode cX3_fillTable 25 = .ok (.aload_n 0, 1) := by decide +kernel
theorem dX3_fillTable_26 : decode cX3_fillTable 26 = .ok (.getfield 9, 3) := by decide +kernel
theorem dX3_fillTable_29 : decode cX3_fillTable 29 = .ok (.iload 5, 2) := by decide +kernel
theorem dX3_fillTable_31 : decode cX3_fillTable 31 = .ok (.iload 6, 2) := by decide +kernel
theorem dX3_fillTable_33 : decode cX3_fillTable 33 = .ok (.iadd, 1) := by decide +kernel
theorem dX3_fillTable_34 : decode cX3_fillTable 34 = .ok (.aload_n 0, 1) := by decide +kernel
theorem dX3_fillTable_35 : decode cX3_fillTable 35 = .ok (.aload_n 0, 1) := by decide +kernel
theorem dX3_fillTable_36 : decode cX3_fillTable 36 = .ok (.getfield 9, 3) := by decide +kernel
theorem dX3_fillTable_39 : decode cX3_fillTable 39 = .ok (.iload 6, 2) := by decide +kernel
theorem dX3_fillTable_41 : decode cX3_fillTable 41 = .ok (.iaload, 1) := by decide +kernel
theorem dX3_fillTable_42 : decode cX3_fillTable 42 = .ok (.aload_n 1, 1) := by decide +kernel
theorem dX3_fillTable_43 : decode cX3_fillTable 43 = .ok (.iload_n 2, 1) := by decide +kernel
theorem dX3_fillTable_44 : decode cX3_fillTable 44 = .ok (.iload 4, 2) := by decide +kernel
theorem dX3_fillTable_46 : decode cX3_fillTable 46 = .ok (.iadd, 1) := by decide +kernel
theorem dX3_fillTable_47 : decode cX3_fillTable 47 = .ok (.iaload, 1) := by decide +kernel
theorem dX3_fillTable_48 : decode cX3_fillTable 48 = .ok (.invokevirtual 64, 3) := by decide +kernel
theorem dX3_fillTable_51 : decode cX3_fillTable 51 = .ok (.iastore, 1) := by decide +kernel
theorem dX3_fillTable_52 : decode cX3_fillTable 52 = .ok (.iinc 6 1, 3) := by decide +kernel
theorem dX3_fillTable_55 : decode cX3_fillTable 55 = .ok (.goto (-37), 3) := by decide +kernel
theorem dX3_fillTable_58 : decode cX3_fillTable 58 = .ok (.iinc 4 1, 3) := by decide +kernel
theorem dX3_fillTable_61 : decode cX3_fillTable 61 = .ok (.goto (-58), 3) := by decide +kernel
theorem dX3_fillTable_64 : decode cX3_fillTable 64 = .ok (.aload_n 0, 1) := by decide +kernel
theorem dX3_fillTable_65 : decode cX3_fillTable 65 = .ok (.dup, 1) := by decide +kernel
theorem dX3_fillTable_66 : decode cX3_fillTable 66 = .ok (.getfield 36, 3) := by decide +kernel
theorem dX3_fillTable_69 : decode cX3_fillTable 69 = .ok (.iconst 1, 1) := by decide +kernel
theorem dX3_fillTable_70 : decode cX3_fillTable 70 = .ok (.iload_n 3, 1) := by decide +kernel
theorem dX3_fillTable_71 : decode cX3_fillTable 71 = .ok (.ishl, 1) := by decide +kernel
theorem dX3_fillTable_72 : decode cX3_fillTable 72 = .ok (.iconst 1, 1) := by decide +kernel
theorem dX3_fillTable_73 : decode cX3_fillTable 73 = .ok (.isub, 1) := by decide +kernel
theorem dX3_fillTable_74 : decode cX3_fillTable 74 = .ok (.iadd, 1) := by decide +kernel
theorem dX3_fillTable_75 : decode cX3_fillTable 75 = .ok (.putfield 36, 3) := by decide +kernel
theorem dX3_fillTable_78 : decode cX3_fillTable 78 = .ok (.return_, 1) := by decide +kernel
theorem dX3_takeEntries_0 : decode cX3_takeEntries 0 = .ok (.iconst 0, 1) := by decide +kernel
theorem dX3_takeEntries_1 : decode cX3_takeEntries 1 = .ok (.istore 5, 2) := by decide +kernel
theorem dX3_takeEntries_3 : decode cX3_takeEntries 3 = .ok (.iload 5, 2) := by decide +kernel
theorem dX3_takeEntries_5 : decode cX3_takeEntries 5 = .ok (.aload_n 0, 1) := by decide +kernel
theorem dX3_takeEntries_6 : decode cX3_takeEntries 6 = .ok (.getfield 27, 3) := by decide +kernel
theorem dX3_takeEntries_9 : decode cX3_takeEntries 9 = .ok (.if_icmp .ge 57, 3) := by decide +kernel
theorem dX3_takeEntries_12 : decode cX3_takeEntries 12 = .ok (.aload_n 1, 1) := by decide +kernel
theorem dX3_takeEntries_13 : decode cX3_takeEntries 13 = .ok (.iload 5, 2) := by decide +kernel
theorem dX3_takeEntries_15 : decode cX3_takeEntries 15 = .ok (.iaload, 1) := by decide +kernel
theorem dX3_takeEntries_16 : decode cX3_takeEntries 16 = .ok (.iload_n 3, 1) := by decide +kernel
theorem dX3_takeEntries_17 : decode cX3_takeEntries 17 = .ok (.iushr, 1) := by decide +kernel
theorem dX3_takeEntries_18 : decode cX3_takeEntries 18 = .ok (.iload 4, 2) := by decide +kernel
theorem dX3_takeEntries_20 : decode cX3_takeEntries 20 = .ok (.invokestatic 67, 3) := by decide +kernel
theorem dX3_takeEntries_23 : decode cX3_takeEntries 23 = .ok (.iand, 1) := by decide +kernel
theorem dX3_takeEntries_24 : decode cX3_takeEntries 24 = .ok (.istore 6, 2) := by decide +kernel
theorem dX3_takeEntries_26 : decode cX3_takeEntries 26 = .ok (.iload 6, 2) := by decide +kernel
theorem dX3_takeEntries_28 : decode cX3_takeEntries 28 = .ok (.ifCond .eq 32, 3) := by decide +kernel
theorem dX3_takeEntries_31 : decode cX3_takeEntries 31 = .ok (.aload_n 2, 1) := by decide +kernel
theorem dX3_takeEntries_32 : decode cX3_takeEntries 32 = .ok (.iload 5, 2) := by decide +kernel
theorem dX3_takeEntries_34 : decode cX3_takeEntries 34 = .ok (.aload_n 0, 1) := by decide +kernel
theorem dX3_takeEntries_35 : decode cX3_takeEntries 35 = .ok (.aload_n 2, 1) := by decide +kernel
theorem dX3_takeEntries_36 : decode cX3_takeEntries 36 = .ok (.iload 5, 2) := by decide +kernel
theorem dX3_takeEntries_38 : decode cX3_takeEntries 38 = .ok (.iaload, 1) := by decide +kernel
theorem dX3_takeEntries_39 : decode cX3_takeEntries 39 = .ok (.aload_n 0, 1) := by decide +kernel
theorem dX3_takeEntries_40 : decode cX3_takeEntries 40 = .ok (.getfield 9, 3) := by decide +kernel
theorem dX3_takeEntries_43 : decode cX3_takeEntries 43 = .ok (.iload 6, 2) := by decide +kernel
theorem dX3_takeEntries_45 : decode cX3_takeEntries 45 = .ok (.iaload, 1) := by decide +kernel
theorem dX3_takeEntries_46 : decode cX3_takeEntries 46 = .ok (.invokevirtual 64, 3) := by decide +kernel
theorem dX3_takeEntries_49 : decode cX3_takeEntries 49 = .ok (.iastore, 1) := by decide +kernel
theorem dX3_takeEntries_50 : decode cX3_takeEntries 50 = .ok (.aload_n 0, 1) := by decide +kernel
theorem dX3_takeEntries_51 : decode cX3_takeEntries 51 = .ok (.dup, 1) := by decide +kernel
theorem dX3_takeEntries_52 : decode cX3_takeEntries 52 = .ok (.getfield 39, 3) := by decide +kernel
theorem dX3_takeEntries_55 : decode cX3_takeEntries 55 = .ok (.iconst 1, 1) := by decide +kernel
theorem dX3_takeEntries_56 : decode cX3_takeEntries 56 = .ok (.iadd, 1) := by decide +kernel
theorem dX3_takeEntries_57 : decode cX3_takeEntries 57 = .ok (.putfield 39, 3) := by decide +kernel
theorem dX3_takeEntries_60 : decode cX3_takeEntries 60 = .ok (.iinc 5 1, 3) := by decide +kernel
theorem dX3_takeEntries_63 : decode cX3_takeEntries 63 = .ok (.goto (-60), 3) := by decide +kernel
theorem dX3_takeEntries_66 : decode cX3_takeEntries 66 = .ok (.return_, 1) := by decide +kernel
theorem dX3_joined_0 : decode cX3_joined 0 = .ok (.aload_n 0, 1) := by decide +kernel
theorem dX3_joined_1 : decode cX3_joined 1 = .ok (.getfield 32, 3) := by decide +kernel
theorem dX3_joined_4 : decode cX3_joined 4 = .ok (.ifCond .eq 9, 3) := by decide +kernel
theorem dX3_joined_7 : decode cX3_joined 7 = .ok (.iload_n 1, 1) := by decide +kernel
theorem dX3_joined_8 : decode cX3_joined 8 = .ok (.iload_n 2, 1) := by decide +kernel
theorem dX3_joined_9 : decode cX3_joined 9 = .ok (.ixor, 1) := by decide +kernel
theorem dX3_joined_10 : decode cX3_joined 10 = .ok (.goto 6, 3) := by decide +kernel
theorem dX3_joined_13 : decode cX3_joined 13 = .ok (.iload_n 1, 1) := by decide +kernel
theorem dX3_joined_14 : decode cX3_joined 14 = .ok (.iload_n 2, 1) := by decide +kernel
theorem dX3_joined_15 : decode cX3_joined 15 = .ok (.ior, 1) := by decide +kernel
theorem dX3_joined_16 : decode cX3_joined 16 = .ok (.ireturn, 1) := by decide +kernel
theorem dX4_init_0 : decode cX4_init 0 = .ok (.aload_n 0, 1) := by decide +kernel
theorem dX4_init_1 : decode cX4_init 1 = .ok (.invokespecial 3, 3) := by decide +kernel
theorem dX4_init_4 : decode cX4_init 4 = .ok (.aload_n 0, 1) := by decide +kernel
theorem dX4_init_5 : decode cX4_init 5 = .ok (.sipush 600, 3) := by decide +kernel
theorem dX4_init_8 : decode cX4_init 8 = .ok (.newarray .int, 2) := by decide +kernel
theorem dX4_init_10 : decode cX4_init 10 = .ok (.putfield 9, 3) := by decide +kernel
theorem dX4_init_13 : decode cX4_init 13 = .ok (.return_, 1) := by decide +kernel
theorem dX4_addBytes_0 : decode cX4_addBytes 0 = .ok (.iconst 0, 1) := by decide +kernel
theorem dX4_addBytes_1 : decode cX4_addBytes 1 = .ok (.istore_n 3, 1) := by decide +kernel
theorem dX4_addBytes_2 : decode cX4_addBytes 2 = .ok (.bipush 56, 2) := by decide +kernel
theorem dX4_addBytes_4 : decode cX4_addBytes 4 = .ok (.istore 4, 2) := by decide +kernel
theorem dX4_addBytes_6 : decode cX4_addBytes 6 = .ok (.iload 4, 2) := by decide +kernel
theorem dX4_addBytes_8 : decode cX4_addBytes 8 = .ok (.ifCond .lt 25, 3) := by decide +kernel
theorem dX4_addBytes_11 : decode cX4_addBytes 11 = .ok (.lload_n 1, 1) := by decide +kernel
theorem dX4_addBytes_12 : decode cX4_addBytes 12 = .ok (.iload 4, 2) := by decide +kernel
theorem dX4_addBytes_14 : decode cX4_addBytes 14 = .ok (.lushr, 1) := by decide +kernel
theorem dX4_addBytes_15 : decode cX4_addBytes 15 = .ok (.ldc2_w 15, 3) := by decide +kernel
theorem dX4_addBytes_18 : decode cX4_addBytes 18 = .ok (.land, 1) := by decide +kernel
theorem dX4_addBytes_19 : decode cX4_addBytes 19 = .ok (.lconst 0, 1) := by decide +kernel
theorem dX4_addBytes_20 : decode cX4_addBytes 20 = .ok (.lcmp, 1) := by decide +kernel
theorem dX4_addBytes_21 : decode cX4_addBytes 21 = .ok (.ifCond .eq 6, 3) := by decide +kernel
theorem dX4_addBytes_24 : decode cX4_addBytes 24 = .ok (.iinc 3 1, 3) := by decide +kernel
theorem dX4_addBytes_27 : decode cX4_addBytes 27 = .ok (.iinc 4 (-8), 3) := by decide +kernel
theorem dX4_addBytes_30 : decode cX4_addBytes 30 = .ok (.goto (-24), 3) := by decide +kernel
theorem dX4_addBytes_33 : decode cX4_addBytes 33 = .ok (.aload_n 0, 1) := by decide +kernel
theorem dX4_addBytes_34 : decode cX4_addBytes 34 = .ok (.getfield 17, 3) := by decide +kernel
theorem dX4_addBytes_37 : decode cX4_addBytes 37 = .ok (.iload_n 3, 1) := by decide +kernel
theorem dX4_addBytes_38 : decode cX4_addBytes 38 = .ok (.iadd, 1) := by decide +kernel
theorem dX4_addBytes_39 : decode cX4_addBytes 39 = .ok (.sipush 600, 3) := by decide +kernel
theorem dX4_addBytes_42 : decode cX4_addBytes 42 = .ok (.if_icmp .le 6, 3) := by decide +kernel
theorem dX4_addBytes_45 : decode cX4_addBytes 45 = .ok (.bipush (-2), 2) := by decide +kernel
theorem dX4_addBytes_47 : decode cX4_addBytes 47 = .ok (.ireturn, 1) := by decide +kernel
theorem dX4_addBytes_48 : decode cX4_addBytes 48 = .ok (.bipush 56, 2) := by decide +kernel
theorem dX4_addBytes_50 : decode cX4_addBytes 50 = .ok (.istore 4, 2) := by decide +kernel
theorem dX4_addBytes_52 : decode cX4_addBytes 52 = .ok (.iload 4, 2) := by decide +kernel
theorem dX4_addBytes_54 : decode cX4_addBytes 54 = .ok (.ifCond .lt 56, 3) := by decide +kernel
theorem dX4_addBytes_57 : decode cX4_addBytes 57 = .ok (.lload_n 1, 1) := by decide +kernel
theorem dX4_addBytes_58 : decode cX4_addBytes 58 = .ok (.iload 4, 2) := by decide +kernel
theorem dX4_addBytes_60 : decode cX4_addBytes 60 = .ok (.lushr, 1) := by decide +kernel
theorem dX4_addBytes_61 : decode cX4_addBytes 61 = .ok (.ldc2_w 15, 3) := by decide +kernel
theorem dX4_addBytes_64 : decode cX4_addBytes 64 = .ok (.land, 1) := by decide +kernel
theorem dX4_addBytes_65 : decode cX4_addBytes 65 = .ok (.l2i, 1) := by decide +kernel
theorem dX4_addBytes_66 : decode cX4_addBytes 66 = .ok (.istore 5, 2) := by decide +kernel
theorem dX4_addBytes_68 : decode cX4_addBytes 68 = .ok (.iload 5, 2) := by decide +kernel
theorem dX4_addBytes_70 : decode cX4_addBytes 70 = .ok (.ifCond .eq 34, 3) := by decide +kernel
theorem dX4_addBytes_73 : decode cX4_addBytes 73 = .ok (.aload_n 0, 1) := by decide +kernel
theorem dX4_addBytes_74 : decode cX4_addBytes 74 = .ok (.getfield 17, 3) := by decide +kernel
theorem dX4_addBytes_77 : decode cX4_addBytes 77 = .ok (.sipush 600, 3) := by decide +kernel
theorem dX4_addBytes_80 : decode cX4_addBytes 80 = .ok (.if_icmp .ge 24, 3) := by decide +kernel
theorem dX4_addBytes_83 : decode cX4_addBytes 83 = .ok (.aload_n 0, 1) := by decide +kernel
theorem dX4_addBytes_84 : decode cX4_addBytes 84 = .ok (.getfield 9, 3) := by decide +kernel
theorem dX4_addBytes_87 : decode cX4_addBytes 87 = .ok (.aload_n 0, 1) := by decide +kernel
theorem dX4_addBytes_88 : decode cX4_addBytes 88 = .ok (.getfield 17, 3) := by decide +kernel
theorem dX4_addBytes_91 : decode cX4_addBytes 91 = .ok (.iload 5, 2) := by decide +kernel
theorem dX4_addBytes_93 : decode cX4_addBytes 93 = .ok (.iastore, 1) := by decide +kernel
theorem dX4_addBytes_94 : decode cX4_addBytes 94 = .ok (.aload_n 0, 1) := by decide +kernel
theorem dX4_addBytes_95 : decode cX4_addBytes 95 = .ok (.dup, 1) := by decide +kernel
theorem dX4_addBytes_96 : decode cX4_addBytes 96 = .ok (.getfield 17, 3) := by decide +kernel
theorem dX4_addBytes_99 : decode cX4_addBytes 99 = .ok (.iconst 1, 1) := by decide +kernel
theorem dX4_addBytes_100 : decode cX4_addBytes 100 = .ok (.iadd, 1) := by decide +kernel
theorem dX4_addBytes_101 : decode cX4_addBytes 101 = .ok (.putfield 17, 3) := by decide +kernel
theorem dX4_addBytes_104 : decode cX4_addBytes 104 = .ok (.iinc 4 (-8), 3) := by decide +kernel
theorem dX4_addBytes_107 : decode cX4_addBytes 107 = .ok (.goto (-55), 3) := by decide +kernel
theorem dX4_addBytes_110 : decode cX4_addBytes 110 = .ok (.aload_n 0, 1) := by decide +kernel
theorem dX4_addBytes_111 : decode cX4_addBytes 111 = .ok (.getfield 17, 3) := by decide +kernel
theorem dX4_addBytes_114 : decode cX4_addBytes 114 = .ok (.ireturn, 1) := by decide +kernel
theorem dX4_readInto_0 : decode cX4_readInto 0 = .ok (.aload_n 0, 1) := by decide +kernel
theorem dX4_readInto_1 : decode cX4_readInto 1 = .ok (.iconst 0, 1) := by decide +kernel
theorem dX4_readInto_2 : decode cX4_readInto 2 = .ok (.putfield 21, 3) := by decide +kernel
theorem dX4_readInto_5 : decode cX4_readInto 5 = .ok (.aload_n 0, 1) := by decide +kernel
theorem dX4_readInto_6 : decode cX4_readInto 6 = .ok (.iconst 0, 1) := by decide +kernel
theorem dX4_readInto_7 : decode cX4_readInto 7 = .ok (.putfield 24, 3) := by decide +kernel
theorem dX4_readInto_10 : decode cX4_readInto 10 = .ok (.aload_n 0, 1) := by decide +kernel
theorem dX4_readInto_11 : decode cX4_readInto 11 = .ok (.iconst 0, 1) := by decide +kernel
theorem dX4_readInto_12 : decode cX4_readInto 12 = .ok (.putfield 27, 3) := by decide +kernel
theorem dX4_readInto_15 : decode cX4_readInto 15 = .ok (.aload_n 0, 1) := by decide +kernel
theorem dX4_readInto_16 : decode cX4_readInto 16 = .ok (.iconst 0, 1) := by decide +kernel
theorem dX4_readInto_17 : decode cX4_readInto 17 = .ok (.putfield 30, 3) := by decide +kernel
theorem dX4_readInto_20 : decode cX4_readInto 20 = .ok (.aload_n 0, 1) := by decide +kernel
theorem dX4_readInto_21 : decode cX4_readInto 21 = .ok (.aload_n 1, 1) := by decide +kernel
theorem dX4_readInto_22 : decode cX4_readInto 22 = .ok (.invokevirtual 33, 3) := by decide +kernel
theorem dX4_readInto_25 : decode cX4_readInto 25 = .ok (.iconst 0, 1) := by decide +kernel
theorem dX4_readInto_26 : decode cX4_readInto 26 = .ok (.istore_n 2, 1) := by decide +kernel
theorem dX4_readInto_27 : decode cX4_readInto 27 = .ok (.iload_n 2, 1) := by decide +kernel
theorem dX4_readInto_28 : decode cX4_readInto 28 = .ok (.aload_n 0, 1) := by decide +kernel
theorem dX4_readInto_29 : decode cX4_readInto 29 = .ok (.getfield 17, 3) := by decide +kernel
theorem dX4_readInto_32 : decode cX4_readInto 32 = .ok (.if_icmp .ge 32, 3) := by decide +kernel
theorem dX4_readInto_35 : decode cX4_readInto 35 = .ok (.aload_n 0, 1) := by decide +kernel
theorem dX4_readInto_36 : decode cX4_readInto 36 = .ok (.invokevirtual 37, 3) := by decide +kernel
theorem dX4_readInto_39 : decode cX4_readInto 39 = .ok (.ifCond .eq 25, 3) := by decide +kernel
theorem dX4_readInto_42 : decode cX4_readInto 42 = .ok (.aload_n 0, 1) := by decide +kernel
theorem dX4_readInto_43 : decode cX4_readInto 43 = .ok (.invokevirtual 41, 3) := by decide +kernel
theorem dX4_readInto_46 : decode cX4_readInto 46 = .ok (.aload_n 0, 1) := by decide +kernel
theorem dX4_readInto_47 : decode cX4_readInto 47 = .ok (.getfield 27, 3) := by decide +kernel
theorem dX4_readInto_50 : decode cX4_readInto 50 = .ok (.ifCond .ne 8, 3) := by decide +kernel
theorem dX4_readInto_53 : decode cX4_readInto 53 = .ok (.aload_n 0, 1) := by decide +kernel
theorem dX4_readInto_54 : decode cX4_readInto 54 = .ok (.aload_n 1, 1) := by decide +kernel
theorem dX4_readInto_55 : decode cX4_readInto 55 = .ok (.invokevirtual 44, 3) := by decide +kernel
theorem dX4_readInto_58 : decode cX4_readInto 58 = .ok (.iinc 2 1, 3) := by decide +kernel
theorem dX4_readInto_61 : decode cX4_readInto 61 = .ok (.goto (-34), 3) := by decide +kernel
theorem dX4_readInto_64 : decode cX4_readInto 64 = .ok (.iconst 0, 1) := by decide +kernel
theorem dX4_readInto_65 : decode cX4_readInto 65 = .ok (.istore_n 2, 1) := by decide +kernel
theorem dX4_readInto_66 : decode cX4_readInto 66 = .ok (.iload_n 2, 1) := by decide +kernel
theorem dX4_readInto_67 : decode cX4_readInto 67 = .ok (.bipush 6, 2) := by decide +kernel
theorem dX4_readInto_69 : decode cX4_readInto 69 = .ok (.if_icmp .ge 22, 3) := by decide +kernel
theorem dX4_readInto_72 : decode cX4_readInto 72 = .ok (.aload_n 1, 1) := by decide +kernel
theorem dX4_readInto_73 : decode cX4_readInto 73 = .ok (.getfield 47, 3) := by decide +kernel
theorem dX4_readInto_76 : decode cX4_readInto 76 = .ok (.iload_n 2, 1) := by decide +kernel
theorem dX4_readInto_77 : decode cX4_readInto 77 = .ok (.aaload, 1) := by decide +kernel
theorem dX4_readInto_78 : decode cX4_readInto 78 = .ok (.aload_n 1, 1) := by decide +kernel
theorem dX4_readInto_79 : decode cX4_readInto 79 = .ok (.getfield 53, 3) := by decide +kernel
theorem dX4_readInto_82 : decode cX4_readInto 82 = .ok (.invokevirtual 56, 3) := by decide +kernel
theorem dX4_readInto_85 : decode cX4_readInto 85 = .ok (.iinc 2 1, 3) := by decide +kernel
theorem dX4_readInto_88 : decode cX4_readInto 88 = .ok (.goto (-22), 3) := by decide +kernel
theorem dX4_readInto_91 : decode cX4_readInto 91 = .ok (.aload_n 0, 1) := by decide +kernel
theorem dX4_readInto_92 : decode cX4_readInto 92 = .ok (.iconst 0, 1) := by decide +kernel
theorem dX4_readInto_93 : decode cX4_readInto 93 = .ok (.putfield 17, 3) := by decide +kernel
theorem dX4_readInto_96 : decode cX4_readInto 96 = .ok (.return_, 1) := by decide +kernel
theorem dX4_readSize_0 : decode cX4_readSize 0 = .ok (.aload_n 0, 1) := by decide +kernel
theorem dX4_readSize_1 : decode cX4_readSize 1 = .ok (.invokevirtual 62, 3) := by decide +kernel
theorem dX4_readSize_4 : decode cX4_readSize 4 = .ok (.aload_n 0, 1) := by decide +kernel
theorem dX4_readSize_5 : decode cX4_readSize 5 = .ok (.ldc 65, 2) := by decide +kernel
theorem dX4_readSize_7 : decode cX4_readSize 7 = .ok (.invokevirtual 66, 3) := by decide +kernel
theorem dX4_readSize_10 : decode cX4_readSize 10 = .ok (.ifCond .ne 12, 3) := by decide +kernel
theorem dX4_readSize_13 : decode cX4_readSize 13 = .ok (.aload_n 0, 1) := by decide +kernel
theorem dX4_readSize_14 : decode cX4_readSize 14 = .ok (.iconst 1, 1) := by decide +kernel
theorem dX4_readSize_15 : decode cX4_readSize 15 = .ok (.aload_n 0, 1) := by decide +kernel
theorem dX4_readSize_16 : decode cX4_readSize 16 = .ok (.getfield 70, 3) := by decide +kernel
theorem dX4_readSize_19 : decode cX4_readSize 19 = .ok (.invokevirtual 73, 3) := by decide +kernel
theorem dX4_readSize_22 : decode cX4_readSize 22 = .ok (.aload_n 1, 1) := by decide +kernel
theorem dX4_readSize_23 : decode cX4_readSize 23 = .ok (.aload_n 0, 1) := by decide +kernel
theorem dX4_readSize_24 : decode cX4_readSize 24 = .ok (.iconst 1, 1) := by decide +kernel
theorem dX4_readSize_25 : decode cX4_readSize 25 = .ok (.bipush 32, 2) := by decide +kernel
theorem dX4_readSize_27 : decode cX4_readSize 27 = .ok (.invokevirtual 77, 3) := by decide +kernel
theorem dX4_readSize_30 : decode cX4_readSize 30 = .ok (.invokevirtual 81, 3) := by decide +kernel
theorem dX4_readSize_33 : decode cX4_readSize 33 = .ok (.return_, 1) := by decide +kernel
theorem dX4_readStatement_0 : decode cX4_readStatement 0 = .ok (.aload_n 0, 1) := by decide +kernel
theorem dX4_readStatement_1 : decode cX4_readStatement 1 = .ok (.invokevirtual 62, 3) := by decide +kernel
theorem dX4_readStatement_4 : decode cX4_readStatement 4 = .ok (.aload_n 0, 1) := by decide +kernel
theorem dX4_readStatement_5 : decode cX4_readStatement 5 = .ok (.ldc 84, 2) := by decide +kernel
theorem dX4_readStatement_7 : decode cX4_readStatement 7 = .ok (.invokevirtual 66, 3) := by decide +kernel
theorem dX4_readStatement_10 : decode cX4_readStatement 10 = .ok (.ifCond .eq 11, 3) := by decide +kernel
theorem dX4_readStatement_13 : decode cX4_readStatement 13 = .ok (.aload_n 0, 1) := by decide +kernel
theorem dX4_readStatement_14 : decode cX4_readStatement 14 = .ok (.aload_n 1, 1) := by decide +kernel
theorem dX4_readStatement_15 : decode cX4_readStatement 15 = .ok (.invokevirtual 86, 3) := by decide +kernel
theorem dX4_readStatement_18 : decode cX4_readStatement 18 = .ok (.goto 86, 3) := by decide +kernel
theorem dX4_readStatement_21 : decode cX4_readStatement 21 = .ok (.aload_n 0, 1) := by decide +kernel
theorem dX4_readStatement_22 : decode cX4_readStatement 22 = .ok (.ldc 89, 2) := by decide +kernel
theorem dX4_readStatement_24 : decode cX4_readStatement 24 = .ok (.invokevirtual 66, 3) := by decide +kernel
theorem dX4_readStatement_27 : decode cX4_readStatement 27 = .ok (.ifCond .eq 11, 3) := by decide +kernel
theorem dX4_readStatement_30 : decode cX4_readStatement 30 = .ok (.aload_n 0, 1) := by decide +kernel
theorem dX4_readStatement_31 : decode cX4_readStatement 31 = .ok (.aload_n 1, 1) := by decide +kernel
theorem dX4_readStatement_32 : decode cX4_readStatement 32 = .ok (.invokevirtual 91, 3) := by decide +kernel
theorem dX4_readStatement_35 : decode cX4_readStatement 35 = .ok (.goto 69, 3) := by decide +kernel
theorem dX4_readStatement_38 : decode cX4_readStatement 38 = .ok (.aload_n 0, 1) := by decide +kernel
theorem dX4_readStatement_39 : decode cX4_readStatement 39 = .ok (.ldc 94, 2) := by decide +kernel
theorem dX4_readStatement_41 : decode cX4_readStatement 41 = .ok (.invokevirtual 66, 3) := by decide +kernel
theorem dX4_readStatement_44 : decode cX4_readStatement 44 = .ok (.ifCond .eq 11, 3) := by decide +kernel
theorem dX4_readStatement_47 : decode cX4_readStatement 47 = .ok (.aload_n 0, 1) := by decide +kernel
theorem dX4_readStatement_48 : decode cX4_readStatement 48 = .ok (.aload_n 1, 1) := by decide +kernel
theorem dX4_readStatement_49 : decode cX4_readStatement 49 = .ok (.invokevirtual 96, 3) := by decide +kernel
theorem dX4_readStatement_52 : decode cX4_readStatement 52 = .ok (.goto 52, 3) := by decide +kernel
theorem dX4_readStatement_55 : decode cX4_readStatement 55 = .ok (.aload_n 0, 1) := by decide +kernel
theorem dX4_readStatement_56 : decode cX4_readStatement 56 = .ok (.ldc 99, 2) := by decide +kernel
theorem dX4_readStatement_58 : decode cX4_readStatement 58 = .ok (.invokevirtual 66, 3) := by decide +kernel
theorem dX4_readStatement_61 : decode cX4_readStatement 61 = .ok (.ifCond .eq 11, 3) := by decide +kernel
theorem dX4_readStatement_64 : decode cX4_readStatement 64 = .ok (.aload_n 0, 1) := by decide +kernel
theorem dX4_readStatement_65 : decode cX4_readStatement 65 = .ok (.aload_n 1, 1) := by decide +kernel
theorem dX4_readStatement_66 : decode cX4_readStatement 66 = .ok (.invokevirtual 101, 3) := by decide +kernel
theorem dX4_readStatement_69 : decode cX4_readStatement 69 = .ok (.goto 35, 3) := by decide +kernel
theorem dX4_readStatement_72 : decode cX4_readStatement 72 = .ok (.aload_n 0, 1) := by decide +kernel
theorem dX4_readStatement_73 : decode cX4_readStatement 73 = .ok (.ldc 104, 2) := by decide +kernel
theorem dX4_readStatement_75 : decode cX4_readStatement 75 = .ok (.invokevirtual 66, 3) := by decide +kernel
theorem dX4_readStatement_78 : decode cX4_readStatement 78 = .ok (.ifCond .eq 17, 3) := by decide +kernel
theorem dX4_readStatement_81 : decode cX4_readStatement 81 = .ok (.aload_n 1, 1) := by decide +kernel
theorem dX4_readStatement_82 : decode cX4_readStatement 82 = .ok (.aload_n 0, 1) := by decide +kernel
theorem dX4_readStatement_83 : decode cX4_readStatement 83 = .ok (.iconst 1, 1) := by decide +kernel
theorem dX4_readStatement_84 : decode cX4_readStatement 84 = .ok (.bipush 8, 2) := by decide +kernel
theorem dX4_readStatement_86 : decode cX4_readStatement 86 = .ok (.invokevirtual 77, 3) := by decide +kernel
theorem dX4_readStatement_89 : decode cX4_readStatement 89 = .ok (.putfield 106, 3) := by decide +kernel
theorem dX4_readStatement_92 : decode cX4_readStatement 92 = .ok (.goto 12, 3) := by decide +kernel
theorem dX4_readStatement_95 : decode cX4_readStatement 95 = .ok (.aload_n 0, 1) := by decide +kernel
theorem dX4_readStatement_96 : decode cX4_readStatement 96 = .ok (.iconst 1, 1) := by decide +kernel
theorem dX4_readStatement_97 : decode cX4_readStatement 97 = .ok (.aload_n 0, 1) := by decide +kernel
theorem dX4_readStatement_98 : decode cX4_readStatement 98 = .ok (.getfield 70, 3) := by decide +kernel
theorem dX4_readStatement_101 : decode cX4_readStatement 101 = .ok (.invokevirtual 73, 3) := by decide +kernel
theorem dX4_readStatement_104 : decode cX4_readStatement 104 = .ok (.return_, 1) := by decide +kernel
theorem dX4_readEdge_0 : decode cX4_readEdge 0 = .ok (.aload_n 0, 1) := by decide +kernel
theorem dX4_readEdge_1 : decode cX4_readEdge 1 = .ok (.iconst 0, 1) := by decide +kernel
theorem dX4_readEdge_2 : decode cX4_readEdge 2 = .ok (.iconst 5, 1) := by decide +kernel
theorem dX4_readEdge_3 : decode cX4_readEdge 3 = .ok (.invokevirtual 77, 3) := by decide +kernel
theorem dX4_readEdge_6 : decode cX4_readEdge 6 = .ok (.istore_n 2, 1) := by decide +kernel
theorem dX4_readEdge_7 : decode cX4_readEdge 7 = .ok (.aload_n 0, 1) := by decide +kernel
theorem dX4_readEdge_8 : decode cX4_readEdge 8 = .ok (.iconst 0, 1) := by decide +kernel
theorem dX4_readEdge_9 : decode cX4_readEdge 9 = .ok (.aload_n 1, 1) := by decide +kernel
theorem dX4_readEdge_10 : decode cX4_readEdge 10 = .ok (.getfield 53, 3) := by decide +kernel
theorem dX4_readEdge_13 : decode cX4_readEdge 13 = .ok (.iconst 1, 1) := by decide +kernel
theorem dX4_readEdge_14 : decode cX4_readEdge 14 = .ok (.isub, 1) := by decide +kernel
theorem dX4_readEdge_15 : decode cX4_readEdge 15 = .ok (.invokevirtual 77, 3) := by decide +kernel
theorem dX4_readEdge_18 : decode cX4_readEdge 18 = .ok (.istore_n 3, 1) := by decide +kernel
theorem dX4_readEdge_19 : decode cX4_readEdge 19 = .ok (.aload_n 0, 1) := by decide +kernel
theorem dX4_readEdge_20 : decode cX4_readEdge 20 = .ok (.iconst 0, 1) := by decide +kernel
theorem dX4_readEdge_21 : decode cX4_readEdge 21 = .ok (.aload_n 1, 1) := by decide +kernel
theorem dX4_readEdge_22 : decode cX4_readEdge 22 = .ok (.getfield 53, 3) := by decide +kernel
theorem dX4_readEdge_25 : decode cX4_readEdge 25 = .ok (.iconst 1, 1) := by decide +kernel
theorem dX4_readEdge_26 : decode cX4_readEdge 26 = .ok (.isub, 1) := by decide +kernel
theorem dX4_readEdge_27 : decode cX4_readEdge 27 = .ok (.invokevirtual 77, 3) := by decide +kernel
theorem dX4_readEdge_30 : decode cX4_readEdge 30 = .ok (.istore 4, 2) := by decide +kernel
theorem dX4_readEdge_32 : decode cX4_readEdge 32 = .ok (.aload_n 1, 1) := by decide +kernel
theorem dX4_readEdge_33 : decode cX4_readEdge 33 = .ok (.getfield 47, 3) := by decide +kernel
theorem dX4_readEdge_36 : decode cX4_readEdge 36 = .ok (.iload_n 2, 1) := by decide +kernel
theorem dX4_readEdge_37 : decode cX4_readEdge 37 = .ok (.aaload, 1) := by decide +kernel
theorem dX4_readEdge_38 : decode cX4_readEdge 38 = .ok (.getfield 108, 3) := by decide +kernel
theorem dX4_readEdge_41 : decode cX4_readEdge 41 = .ok (.iload_n 3, 1) := by decide +kernel
theorem dX4_readEdge_42 : decode cX4_readEdge 42 = .ok (.dup2, 1) := by decide +kernel
theorem dX4_readEdge_43 : decode cX4_readEdge 43 = .ok (.iaload, 1) := by decide +kernel
theorem dX4_readEdge_44 : decode cX4_readEdge 44 = .ok (.iconst 1, 1) := by decide +kernel
theorem dX4_readEdge_45 : decode cX4_readEdge 45 = .ok (.iload 4, 2) := by decide +kernel
theorem dX4_readEdge_47 : decode cX4_readEdge 47 = .ok (.ishl, 1) := by decide +kernel
theorem dX4_readEdge_48 : decode cX4_readEdge 48 = .ok (.ior, 1) := by decide +kernel
theorem dX4_readEdge_49 : decode cX4_readEdge 49 = .ok (.iastore, 1) := by decide +kernel
theorem dX4_readEdge_50 : decode cX4_readEdge 50 = .ok (.return_, 1) := by decide +kernel
theorem dX4_readRow_0 : decode cX4_readRow 0 = .ok (.aload_n 0, 1) := by decide +kernel
theorem dX4_readRow_1 : decode cX4_readRow 1 = .ok (.iconst 0, 1) := by decide +kernel
theorem dX4_readRow_2 : decode cX4_readRow 2 = .ok (.iconst 5, 1) := by decide +kernel
theorem dX4_readRow_3 : decode cX4_readRow 3 = .ok (.invokevirtual 77, 3) := by decide +kernel
theorem dX4_readRow_6 : decode cX4_readRow 6 = .ok (.istore_n 2, 1) := by decide +kernel
theorem dX4_readRow_7 : decode cX4_readRow 7 = .ok (.aload_n 0, 1) := by decide +kernel
theorem dX4_readRow_8 : decode cX4_readRow 8 = .ok (.iconst 0, 1) := by decide +kernel
theorem dX4_readRow_9 : decode cX4_readRow 9 = .ok (.aload_n 1, 1) := by decide +kernel
theorem dX4_readRow_10 : decode cX4_readRow 10 = .ok (.getfield 53, 3) := by decide +kernel
theorem dX4_readRow_13 : decode cX4_readRow 13 = .ok (.iconst 1, 1) := by decide +kernel
theorem dX4_readRow_14 : decode cX4_readRow 14 = .ok (.isub, 1) := by decide +kernel
theorem dX4_readRow_15 : decode cX4_readRow 15 = .ok (.invokevirtual 77, 3) := by decide +kernel
theorem dX4_readRow_18 : decode cX4_readRow 18 = .ok (.istore_n 3, 1) := by decide +kernel
theorem dX4_readRow_19 : decode cX4_readRow 19 = .ok (.aload_n 1, 1) := by decide +kernel
theorem dX4_readRow_20 : decode cX4_readRow 20 = .ok (.getfield 47, 3) := by decide +kernel
theorem dX4_readRow_23 : decode cX4_readRow 23 = .ok (.iload_n 2, 1) := by decide +kernel
theorem dX4_readRow_24 : decode cX4_readRow 24 = .ok (.aaload, 1) := by decide +kernel
theorem dX4_readRow_25 : decode cX4_readRow 25 = .ok (.getfield 108, 3) := by decide +kernel
theorem dX4_readRow_28 : decode cX4_readRow 28 = .ok (.iload_n 3, 1) := by decide +kernel
theorem dX4_readRow_29 : decode cX4_readRow 29 = .ok (.aload_n 0, 1) := by decide +kernel
theorem dX4_readRow_30 : decode cX4_readRow 30 = .ok (.aload_n 1, 1) := by decide +kernel
theorem dX4_readRow_31 : decode cX4_readRow 31 = .ok (.getfield 53, 3) := by decide +kernel
theorem dX4_readRow_34 : decode cX4_readRow 34 = .ok (.invokevirtual 111, 3) := by decide +kernel
theorem dX4_readRow_37 : decode cX4_readRow 37 = .ok (.iastore, 1) := by decide +kernel
theorem dX4_readRow_38 : decode cX4_readRow 38 = .ok (.return_, 1) := by decide +kernel
theorem dX4_readKeep_0 : decode cX4_readKeep 0 = .ok (.aload_n 0, 1) := by decide +kernel
theorem dX4_readKeep_1 : decode cX4_readKeep 1 = .ok (.iconst 0, 1) := by decide +kernel
theorem dX4_readKeep_2 : decode cX4_readKeep 2 = .ok (.iconst 5, 1) := by decide +kernel
theorem dX4_readKeep_3 : decode cX4_readKeep 3 = .ok (.invokevirtual 77, 3) := by decide +kernel
theorem dX4_readKeep_6 : decode cX4_readKeep 6 = .ok (.istore_n 2, 1) := by decide +kernel
theorem dX4_readKeep_7 : decode cX4_readKeep 7 = .ok (.aload_n 1, 1) := by decide +kernel
theorem dX4_readKeep_8 : decode cX4_readKeep 8 = .ok (.getfield 47, 3) := by decide +kernel
theorem dX4_readKeep_11 : decode cX4_readKeep 11 = .ok (.iload_n 2, 1) := by decide +kernel
theorem dX4_readKeep_12 : decode cX4_readKeep 12 = .ok (.aaload, 1) := by decide +kernel
theorem dX4_readKeep_13 : decode cX4_readKeep 13 = .ok (.getfield 115, 3) := by decide +kernel
theorem dX4_readKeep_16 : decode cX4_readKeep 16 = .ok (.ifCond .eq 12, 3) := by decide +kernel
theorem dX4_readKeep_19 : decode cX4_readKeep 19 = .ok (.aload_n 0, 1) := by decide +kernel
theorem dX4_readKeep_20 : decode cX4_readKeep 20 = .ok (.iconst 3, 1) := by decide +kernel
theorem dX4_readKeep_21 : decode cX4_readKeep 21 = .ok (.aload_n 0, 1) := by decide +kernel
theorem dX4_readKeep_22 : decode cX4_readKeep 22 = .ok (.getfield 70, 3) := by decide +kernel
theorem dX4_readKeep_25 : decode cX4_readKeep 25 = .ok (.invokevirtual 73, 3) := by decide +kernel
theorem dX4_readKeep_28 : decode cX4_readKeep 28 = .ok (.aload_n 1, 1) := by decide +kernel
theorem dX4_readKeep_29 : decode cX4_readKeep 29 = .ok (.getfield 47, 3) := by decide +kernel
theorem dX4_readKeep_32 : decode cX4_readKeep 32 = .ok (.iload_n 2, 1) := by decide +kernel
theorem dX4_readKeep_33 : decode cX4_readKeep 33 = .ok (.aaload, 1) := by decide +kernel
theorem dX4_readKeep_34 : decode cX4_readKeep 34 = .ok (.iconst 1, 1) := by decide +kernel
theorem dX4_readKeep_35 : decode cX4_readKeep 35 = .ok (.putfield 115, 3) := by decide +kernel
theorem dX4_readKeep_38 : decode cX4_readKeep 38 = .ok (.return_, 1) := by decide +kernel
theorem dX4_readFill_0 : decode cX4_readFill 0 = .ok (.aload_n 0, 1) := by decide +kernel
theorem dX4_readFill_1 : decode cX4_readFill 1 = .ok (.iconst 0, 1) := by decide +kernel
theorem dX4_readFill_2 : decode cX4_readFill 2 = .ok (.iconst 5, 1) := by decide +kernel
theorem dX4_readFill_3 : decode cX4_readFill 3 = .ok (.invokevirtual 77, 3) := by decide +kernel
theorem dX4_readFill_6 : decode cX4_readFill 6 = .ok (.istore_n 2, 1) := by decide +kernel
theorem dX4_readFill_7 : decode cX4_readFill 7 = .ok (.aload_n 0, 1) := by decide +kernel
theorem dX4_readFill_8 : decode cX4_readFill 8 = .ok (.invokevirtual 62, 3) := by decide +kernel
theorem dX4_readFill_11 : decode cX4_readFill 11 = .ok (.iconst 0, 1) := by decide +kernel
theorem dX4_readFill_12 : decode cX4_readFill 12 = .ok (.istore_n 3, 1) := by decide +kernel
theorem dX4_readFill_13 : decode cX4_readFill 13 = .ok (.iload_n 3, 1) := by decide +kernel
theorem dX4_readFill_14 : decode cX4_readFill 14 = .ok (.aload_n 1, 1) := by decide +kernel
theorem dX4_readFill_15 : decode cX4_readFill 15 = .ok (.getfield 53, 3) := by decide +kernel
theorem dX4_readFill_18 : decode cX4_readFill 18 = .ok (.if_icmp .ge 29, 3) := by decide +kernel
theorem dX4_readFill_21 : decode cX4_readFill 21 = .ok (.aload_n 1, 1) := by decide +kernel
theorem dX4_readFill_22 : decode cX4_readFill 22 = .ok (.getfield 47, 3) := by decide +kernel
theorem dX4_readFill_25 : decode cX4_readFill 25 = .ok (.iload_n 2, 1) := by decide +kernel
theorem dX4_readFill_26 : decode cX4_readFill 26 = .ok (.aaload, 1) := by decide +kernel
theorem dX4_readFill_27 : decode cX4_readFill 27 = .ok (.getfield 108, 3) := by decide +kernel
theorem dX4_readFill_30 : decode cX4_readFill 30 = .ok (.iload_n 3, 1) := by decide +kernel
theorem dX4_readFill_31 : decode cX4_readFill 31 = .ok (.aload_n 0, 1) := by decide +kernel
theorem dX4_readFill_32 : decode cX4_readFill 32 = .ok (.iload_n 3, 1) := by decide +kernel
theorem dX4_readFill_33 : decode cX4_readFill 33 = .ok (.aload_n 1, 1) := by decide +kernel
theorem dX4_readFill_34 : decode cX4_readFill 34 = .ok (.getfield 53, 3) := by decide +kernel
theorem dX4_readFill_37 : decode cX4_readFill 37 = .ok (.invokevirtual 119, 3) := by decide +kernel
theorem dX4_readFill_40 : decode cX4_readFill 40 = .ok (.iastore, 1) := by decide +kernel
theorem dX4_readFill_41 : decode cX4_readFill 41 = .ok (.iinc 3 1, 3) := by decide +kernel
theorem dX4_readFill_44 : decode cX4_readFill 44 = .ok (.goto (-31), 3) := by decide +kernel
theorem dX4_readFill_47 : decode cX4_readFill 47 = .ok (.return_, 1) := by decide +kernel
theorem dX4_rowOfKind_0 : decode cX4_rowOfKind 0 = .ok (.aload_n 0, 1) := by decide +kernel
theorem dX4_rowOfKind_1 : decode cX4_rowOfKind 1 = .ok (.ldc 122, 2) := by decide +kernel
theorem dX4_rowOfKind_3 : decode cX4_rowOfKind 3 = .ok (.invokevirtual 66, 3) := by decide +kernel
theorem dX4_rowOfKind_6 : decode cX4_rowOfKind 6 = .ok (.ifCond .eq 7, 3) := by decide +kernel
theorem dX4_rowOfKind_9 : decode cX4_rowOfKind 9 = .ok (.iconst 1, 1) := by decide +kernel
theorem dX4_rowOfKind_10 : decode cX4_rowOfKind 10 = .ok (.iload_n 1, 1) := by decide +kernel
theorem dX4_rowOfKind_11 : decode cX4_rowOfKind 11 = .ok (.ishl, 1) := by decide +kernel
theorem dX4_rowOfKind_12 : decode cX4_rowOfKind 12 = .ok (.ireturn, 1) := by decide +kernel
theorem dX4_rowOfKind_13 : decode cX4_rowOfKind 13 = .ok (.aload_n 0, 1) := by decide +kernel
theorem dX4_rowOfKind_14 : decode cX4_rowOfKind 14 = .ok (.ldc 124, 2) := by decide +kernel
theorem dX4_rowOfKind_16 : decode cX4_rowOfKind 16 = .ok (.invokevirtual 66, 3) := by decide +kernel
theorem dX4_rowOfKind_19 : decode cX4_rowOfKind 19 = .ok (.ifCond .eq 8, 3) := by decide +kernel
theorem dX4_rowOfKind_22 : decode cX4_rowOfKind 22 = .ok (.iload_n 2, 1) := by decide +kernel
theorem dX4_rowOfKind_23 : decode cX4_rowOfKind 23 = .ok (.invokestatic 126, 3) := by decide +kernel
theorem dX4_rowOfKind_26 : decode cX4_rowOfKind 26 = .ok (.ireturn, 1) := by decide +kernel
theorem dX4_rowOfKind_27 : decode cX4_rowOfKind 27 = .ok (.aload_n 0, 1) := by decide +kernel
theorem dX4_rowOfKind_28 : decode cX4_rowOfKind 28 = .ok (.ldc 129, 2) := by decide +kernel
theorem dX4_rowOfKind_30 : decode cX4_rowOfKind 30 = .ok (.invokevirtual 66, 3) := by decide +kernel
theorem dX4_rowOfKind_33 : decode cX4_rowOfKind 33 = .ok (.ifCond .eq 20, 3) := by decide +kernel
theorem dX4_rowOfKind_36 : decode cX4_rowOfKind 36 = .ok (.iload_n 1, 1) := by decide +kernel
theorem dX4_rowOfKind_37 : decode cX4_rowOfKind 37 = .ok (.iconst 1, 1) := by decide +kernel
theorem dX4_rowOfKind_38 : decode cX4_rowOfKind 38 = .ok (.iadd, 1) := by decide +kernel
theorem dX4_rowOfKind_39 : decode cX4_rowOfKind 39 = .ok (.iload_n 2, 1) := by decide +kernel
theorem dX4_rowOfKind_40 : decode cX4_rowOfKind 40 = .ok (.if_icmp .ge 11, 3) := by decide +kernel
theorem dX4_rowOfKind_43 : decode cX4_rowOfKind 43 = .ok (.iconst 1, 1) := by decide +kernel
theorem dX4_rowOfKind_44 : decode cX4_rowOfKind 44 = .ok (.iload_n 1, 1) := by decide +kernel
theorem dX4_rowOfKind_45 : decode cX4_rowOfKind 45 = .ok (.iconst 1, 1) := by decide +kernel
theorem dX4_rowOfKind_46 : decode cX4_rowOfKind 46 = .ok (.iadd, 1) := by decide +kernel
theorem dX4_rowOfKind_47 : decode cX4_rowOfKind 47 = .ok (.ishl, 1) := by decide +kernel
theorem dX4_rowOfKind_48 : decode cX4_rowOfKind 48 = .ok (.goto 4, 3) := by decide +kernel
theorem dX4_rowOfKind_51 : decode cX4_rowOfKind 51 = .ok (.iconst 1, 1) := by decide +kernel
theorem dX4_rowOfKind_52 : decode cX4_rowOfKind 52 = .ok (.ireturn, 1) := by decide +kernel
theorem dX4_rowOfKind_53 : decode cX4_rowOfKind 53 = .ok (.aload_n 0, 1) := by decide +kernel
theorem dX4_rowOfKind_54 : decode cX4_rowOfKind 54 = .ok (.ldc 131, 2) := by decide +kernel
theorem dX4_rowOfKind_56 : decode cX4_rowOfKind 56 = .ok (.invokevirtual 66, 3) := by decide +kernel
theorem dX4_rowOfKind_59 : decode cX4_rowOfKind 59 = .ok (.ifCond .eq 8, 3) := by decide +kernel
theorem dX4_rowOfKind_62 : decode cX4_rowOfKind 62 = .ok (.iload_n 1, 1) := by decide +kernel
theorem dX4_rowOfKind_63 : decode cX4_rowOfKind 63 = .ok (.invokestatic 126, 3) := by decide +kernel
theorem dX4_rowOfKind_66 : decode cX4_rowOfKind 66 = .ok (.ireturn, 1) := by decide +kernel
theorem dX4_rowOfKind_67 : decode cX4_rowOfKind 67 = .ok (.aload_n 0, 1) := by decide +kernel
theorem dX4_rowOfKind_68 : decode cX4_rowOfKind 68 = .ok (.iconst 1, 1) := by decide +kernel
theorem dX4_rowOfKind_69 : decode cX4_rowOfKind 69 = .ok (.aload_n 0, 1) := by decide +kernel
theorem dX4_rowOfKind_70 : decode cX4_rowOfKind 70 = .ok (.getfield 70, 3) := by decide +kernel
theorem dX4_rowOfKind_73 : decode cX4_rowOfKind 73 = .ok (.invokevirtual 73, 3) := by decide +kernel
theorem dX4_rowOfKind_76 : decode cX4_rowOfKind 76 = .ok (.iconst 0, 1) := by decide +kernel
theorem dX4_rowOfKind_77 : decode cX4_rowOfKind 77 = .ok (.ireturn, 1) := by decide +kernel
theorem dX4_hasMore_0 : decode cX4_hasMore 0 = .ok (.aload_n 0, 1) := by decide +kernel
theorem dX4_hasMore_1 : decode cX4_hasMore 1 = .ok (.invokevirtual 133, 3) := by decide +kernel
theorem dX4_hasMore_4 : decode cX4_hasMore 4 = .ok (.aload_n 0, 1) := by decide +kernel
theorem dX4_hasMore_5 : decode cX4_hasMore 5 = .ok (.getfield 27, 3) := by decide +kernel
theorem dX4_hasMore_8 : decode cX4_hasMore 8 = .ok (.ifCond .ne 18, 3) := by decide +kernel
theorem dX4_hasMore_11 : decode cX4_hasMore 11 = .ok (.aload_n 0, 1) := by decide +kernel
theorem dX4_hasMore_12 : decode cX4_hasMore 12 = .ok (.getfield 21, 3) := by decide +kernel
theorem dX4_hasMore_15 : decode cX4_hasMore 15 = .ok (.aload_n 0, 1) := by decide +kernel
theorem dX4_hasMore_16 : decode cX4_hasMore 16 = .ok (.getfield 17, 3) := by decide +kernel
theorem dX4_hasMore_19 : decode cX4_hasMore 19 = .ok (.if_icmp .ge 7, 3) := by decide +kernel
theorem dX4_hasMore_22 : decode cX4_hasMore 22 = .ok (.iconst 1, 1) := by decide +kernel
theorem dX4_hasMore_23 : decode cX4_hasMore 23 = .ok (.goto 4, 3) := by decide +kernel
theorem dX4_hasMore_26 : decode cX4_hasMore 26 = .ok (.iconst 0, 1) := by decide +kernel
theorem dX4_hasMore_27 : decode cX4_hasMore 27 = .ok (.ireturn, 1) := by decide +kernel
theorem dX4_takeSemicolon_0 : decode cX4_takeSemicolon 0 = .ok (.aload_n 0, 1) := by decide +kernel
theorem dX4_takeSemicolon_1 : decode cX4_takeSemicolon 1 = .ok (.getfield 21, 3) := by decide +kernel
theorem dX4_takeSemicolon_4 : decode cX4_takeSemicolon 4 = .ok (.aload_n 0, 1) := by decide +kernel
theorem dX4_takeSemicolon_5 : decode cX4_takeSemicolon 5 = .ok (.getfield 17, 3) := by decide +kernel
theorem dX4_takeSemicolon_8 : decode cX4_takeSemicolon 8 = .ok (.if_icmp .ge 40, 3) := by decide +kernel
theorem dX4_takeSemicolon_11 : decode cX4_takeSemicolon 11 = .ok (.aload_n 0, 1) := by decide +kernel
theorem dX4_takeSemicolon_12 : decode cX4_takeSemicolon 12 = .ok (.getfield 9, 3) := by decide +kernel
theorem dX4_takeSemicolon_15 : decode cX4_takeSemicolon 15 = .ok (.aload_n 0, 1) := by decide +kernel
theorem dX4_takeSemicolon_16 : decode cX4_takeSemicolon 16 = .ok (.getfield 21, 3) := by decide +kernel
theorem dX4_takeSemicolon_19 : decode cX4_takeSemicolon 19 = .ok (.iaload, 1) := by decide +kernel
theorem dX4_takeSemicolon_20 : decode cX4_takeSemicolon 20 = .ok (.bipush 59, 2) := by decide +kernel
theorem dX4_takeSemicolon_22 : decode cX4_takeSemicolon 22 = .ok (.if_icmp .ne 26, 3) := by decide +kernel
theorem dX4_takeSemicolon_25 : decode cX4_takeSemicolon 25 = .ok (.aload_n 0, 1) := by decide +kernel
theorem dX4_takeSemicolon_26 : decode cX4_takeSemicolon 26 = .ok (.dup, 1) := by decide +kernel
theorem dX4_takeSemicolon_27 : decode cX4_takeSemicolon 27 = .ok (.getfield 21, 3) := by decide +kernel
theorem dX4_takeSemicolon_30 : decode cX4_takeSemicolon 30 = .ok (.iconst 1, 1) := by decide +kernel
theorem dX4_takeSemicolon_31 : decode cX4_takeSemicolon 31 = .ok (.iadd, 1) := by decide +kernel
theorem dX4_takeSemicolon_32 : decode cX4_takeSemicolon 32 = .ok (.putfield 21, 3) := by decide +kernel
theorem dX4_takeSemicolon_35 : decode cX4_takeSemicolon 35 = .ok (.aload_n 0, 1) := by decide +kernel
theorem dX4_takeSemicolon_36 : decode cX4_takeSemicolon 36 = .ok (.dup, 1) := by decide +kernel
theorem dX4_takeSemicolon_37 : decode cX4_takeSemicolon 37 = .ok (.getfield 24, 3) := by decide +kernel
theorem dX4_takeSemicolon_40 : decode cX4_takeSemicolon 40 = .ok (.iconst 1, 1) := by decide +kernel
theorem dX4_takeSemicolon_41 : decode cX4_takeSemicolon 41 = .ok (.iadd, 1) := by decide +kernel
theorem dX4_takeSemicolon_42 : decode cX4_takeSemicolon 42 = .ok (.putfield 24, 3) := by decide +kernel
theorem dX4_takeSemicolon_45 : decode cX4_takeSemicolon 45 = .ok (.goto 12, 3) := by decide +kernel
theorem dX4_takeSemicolon_48 : decode cX4_takeSemicolon 48 = .ok (.aload_n 0, 1) := by decide +kernel
theorem dX4_takeSemicolon_49 : decode cX4_takeSemicolon 49 = .ok (.iconst 1, 1) := by decide +kernel
theorem dX4_takeSemicolon_50 : decode cX4_takeSemicolon 50 = .ok (.aload_n 0, 1) := by decide +kernel
theorem dX4_takeSemicolon_51 : decode cX4_takeSemicolon 51 = .ok (.getfield 21, 3) := by decide +kernel
theorem dX4_takeSemicolon_54 : decode cX4_takeSemicolon 54 = .ok (.invokevirtual 73, 3) := by decide +kernel
theorem dX4_takeSemicolon_57 : decode cX4_takeSemicolon 57 = .ok (.return_, 1) := by decide +kernel
theorem dX4_takeWord_0 : decode cX4_takeWord 0 = .ok (.aload_n 0, 1) := by decide +kernel
theorem dX4_takeWord_1 : decode cX4_takeWord 1 = .ok (.invokevirtual 133, 3) := by decide +kernel
theorem dX4_takeWord_4 : decode cX4_takeWord 4 = .ok (.aload_n 0, 1) := by decide +kernel
theorem dX4_takeWord_5 : decode cX4_takeWord 5 = .ok (.aload_n 0, 1) := by decide +kernel
theorem dX4_takeWord_6 : decode cX4_takeWord 6 = .ok (.getfield 21, 3) := by decide +kernel
theorem dX4_takeWord_9 : decode cX4_takeWord 9 = .ok (.putfield 70, 3) := by decide +kernel
theorem dX4_takeWord_12 : decode cX4_takeWord 12 = .ok (.aload_n 0, 1) := by decide +kernel
theorem dX4_takeWord_13 : decode cX4_takeWord 13 = .ok (.getfield 21, 3) := by decide +kernel
theorem dX4_takeWord_16 : decode cX4_takeWord 16 = .ok (.aload_n 0, 1) := by decide +kernel
theorem dX4_takeWord_17 : decode cX4_takeWord 17 = .ok (.getfield 17, 3) := by decide +kernel
theorem dX4_takeWord_20 : decode cX4_takeWord 20 = .ok (.if_icmp .ge 44, 3) := by decide +kernel
theorem dX4_takeWord_23 : decode cX4_takeWord 23 = .ok (.aload_n 0, 1) := by decide +kernel
theorem dX4_takeWord_24 : decode cX4_takeWord 24 = .ok (.getfield 9, 3) := by decide +kernel
theorem dX4_takeWord_27 : decode cX4_takeWord 27 = .ok (.aload_n 0, 1) := by decide +kernel
theorem dX4_takeWord_28 : decode cX4_takeWord 28 = .ok (.getfield 21, 3) := by decide +kernel
theorem dX4_takeWord_31 : decode cX4_takeWord 31 = .ok (.iaload, 1) := by decide +kernel
theorem dX4_takeWord_32 : decode cX4_takeWord 32 = .ok (.bipush 97, 2) := by decide +kernel
theorem dX4_takeWord_34 : decode cX4_takeWord 34 = .ok (.if_icmp .lt 30, 3) := by decide +kernel
theorem dX4_takeWord_37 : decode cX4_takeWord 37 = .ok (.aload_n 0, 1) := by decide +kernel
theorem dX4_takeWord_38 : decode cX4_takeWord 38 = .ok (.getfield 9, 3) := by decide +kernel
theorem dX4_takeWord_41 : decode cX4_takeWord 41 = .ok (.aload_n 0, 1) := by decide +kernel
theorem dX4_takeWord_42 : decode cX4_takeWord 42 = .ok (.getfield 21, 3) := by decide +kernel
theorem dX4_takeWord_45 : decode cX4_takeWord 45 = .ok (.iaload, 1) := by decide +kernel
theorem dX4_takeWord_46 : decode cX4_takeWord 46 = .ok (.bipush 122, 2) := by decide +kernel
theorem dX4_takeWord_48 : decode cX4_takeWord 48 = .ok (.if_icmp .gt 16, 3) := by decide +kernel
theorem dX4_takeWord_51 : decode cX4_takeWord 51 = .ok (.aload_n 0, 1) := by decide +kernel
theorem dX4_takeWord_52 : decode cX4_takeWord 52 = .ok (.dup, 1) := by decide +kernel
theorem dX4_takeWord_53 : decode cX4_takeWord 53 = .ok (.getfield 21, 3) := by decide +kernel
theorem dX4_takeWord_56 : decode cX4_takeWord 56 = .ok (.iconst 1, 1) := by decide +kernel
theorem dX4_takeWord_57 : decode cX4_takeWord 57 = .ok (.iadd, 1) := by decide +kernel
theorem dX4_takeWord_58 : decode cX4_takeWord 58 = .ok (.putfield 21, 3) := by decide +kernel
theorem dX4_takeWord_61 : decode cX4_takeWord 61 = .ok (.goto (-49), 3) := by decide +kernel
theorem dX4_takeWord_64 : decode cX4_takeWord 64 = .ok (.return_, 1) := by decide +kernel
theorem dX4_takeDigits_0 : decode cX4_takeDigits 0 = .ok (.aload_n 0, 1) := by decide +kernel
theorem dX4_takeDigits_1 : decode cX4_takeDigits 1 = .ok (.invokevirtual 133, 3) := by decide +kernel
theorem dX4_takeDigits_4 : decode cX4_takeDigits 4 = .ok (.aload_n 0, 1) := by decide +kernel
theorem dX4_takeDigits_5 : decode cX4_takeDigits 5 = .ok (.aload_n 0, 1) := by decide +kernel
theorem dX4_takeDigits_6 : decode cX4_takeDigits 6 = .ok (.getfield 21, 3) := by decide +kernel
theorem dX4_takeDigits_9 : decode cX4_takeDigits 9 = .ok (.putfield 70, 3) := by decide +kernel
theorem dX4_takeDigits_12 : decode cX4_takeDigits 12 = .ok (.aload_n 0, 1) := by decide +kernel
theorem dX4_takeDigits_13 : decode cX4_takeDigits 13 = .ok (.getfield 21, 3) := by decide +kernel
theorem dX4_takeDigits_16 : decode cX4_takeDigits 16 = .ok (.aload_n 0, 1) := by decide +kernel
theorem dX4_takeDigits_17 : decode cX4_takeDigits 17 = .ok (.getfield 17, 3) := by decide +kernel
theorem dX4_takeDigits_20 : decode cX4_takeDigits 20 = .ok (.if_icmp .ge 44, 3) := by decide +kernel
theorem dX4_takeDigits_23 : decode cX4_takeDigits 23 = .ok (.aload_n 0, 1) := by decide +kernel
theorem dX4_takeDigits_24 : decode cX4_takeDigits 24 = .ok (.getfield 9, 3) := by decide +kernel
theorem dX4_takeDigits_27 : decode cX4_takeDigits 27 = .ok (.aload_n 0, 1) := by decide +kernel
theorem dX4_takeDigits_28 : decode cX4_takeDigits 28 = .ok (.getfield 21, 3) := by decide +kernel
theorem dX4_takeDigits_31 : decode cX4_takeDigits 31 = .ok (.iaload, 1) := by decide +kernel
theorem dX4_takeDigits_32 : decode cX4_takeDigits 32 = .ok (.bipush 48, 2) := by decide +kernel
theorem dX4_takeDigits_34 : decode cX4_takeDigits 34 = .ok (.if_icmp .lt 30, 3) := by decide +kernel
theorem dX4_takeDigits_37 : decode cX4_takeDigits 37 = .ok (.aload_n 0, 1) := by decide +kernel
theorem dX4_takeDigits_38 : decode cX4_takeDigits 38 = .ok (.getfield 9, 3) := by decide +kernel
theorem dX4_takeDigits_41 : decode cX4_takeDigits 41 = .ok (.aload_n 0, 1) := by decide +kernel
theorem dX4_takeDigits_42 : decode cX4_takeDigits 42 = .ok (.getfield 21, 3) := by decide +kernel
theorem dX4_takeDigits_45 : decode cX4_takeDigits 45 = .ok (.iaload, 1) := by decide +kernel
theorem dX4_takeDigits_46 : decode cX4_takeDigits 46 = .ok (.bipush 57, 2) := by decide +kernel
theorem dX4_takeDigits_48 : decode cX4_takeDigits 48 = .ok (.if_icmp .gt 16, 3) := by decide +kernel
theorem dX4_takeDigits_51 : decode cX4_takeDigits 51 = .ok (.aload_n 0, 1) := by decide +kernel
theorem dX4_takeDigits_52 : decode cX4_takeDigits 52 = .ok (.dup, 1) := by decide +kernel
theorem dX4_takeDigits_53 : decode cX4_takeDigits 53 = .ok (.getfield 21, 3) := by decide +kernel
theorem dX4_takeDigits_56 : decode cX4_takeDigits 56 = .ok (.iconst 1, 1) := by decide +kernel
theorem dX4_takeDigits_57 : decode cX4_takeDigits 57 = .ok (.iadd, 1) := by decide +kernel
theorem dX4_takeDigits_58 : decode cX4_takeDigits 58 = .ok (.putfield 21, 3) := by decide +kernel
theorem dX4_takeDigits_61 : decode cX4_takeDigits 61 = .ok (.goto (-49), 3) := by decide +kernel
theorem dX4_takeDigits_64 : decode cX4_takeDigits 64 = .ok (.aload_n 0, 1) := by decide +kernel
theorem dX4_takeDigits_65 : decode cX4_takeDigits 65 = .ok (.getfield 70, 3) := by decide +kernel
theorem dX4_takeDigits_68 : decode cX4_takeDigits 68 = .ok (.aload_n 0, 1) := by decide +kernel
theorem dX4_takeDigits_69 : decode cX4_takeDigits 69 = .ok (.getfield 21, 3) := by decide +kernel
theorem dX4_takeDigits_72 : decode cX4_takeDigits 72 = .ok (.if_icmp .ne 12, 3) := by decide +kernel
theorem dX4_takeDigits_75 : decode cX4_takeDigits 75 = .ok (.aload_n 0, 1) := by decide +kernel
theorem dX4_takeDigits_76 : decode cX4_takeDigits 76 = .ok (.iconst 1, 1) := by decide +kernel
theorem dX4_takeDigits_77 : decode cX4_takeDigits 77 = .ok (.aload_n 0, 1) := by decide +kernel
theorem dX4_takeDigits_78 : decode cX4_takeDigits 78 = .ok (.getfield 70, 3) := by decide +kernel
theorem dX4_takeDigits_81 : decode cX4_takeDigits 81 = .ok (.invokevirtual 73, 3) := by decide +kernel
theorem dX4_takeDigits_84 : decode cX4_takeDigits 84 = .ok (.return_, 1) := by decide +kernel
theorem dX4_takeNumber_0 : decode cX4_takeNumber 0 = .ok (.aload_n 0, 1) := by decide +kernel
theorem dX4_takeNumber_1 : decode cX4_takeNumber 1 = .ok (.invokevirtual 136, 3) := by decide +kernel
theorem dX4_takeNumber_4 : decode cX4_takeNumber 4 = .ok (.iconst 0, 1) := by decide +kernel
theorem dX4_takeNumber_5 : decode cX4_takeNumber 5 = .ok (.istore_n 3, 1) := by decide +kernel
theorem dX4_takeNumber_6 : decode cX4_takeNumber 6 = .ok (.aload_n 0, 1) := by decide +kernel
theorem dX4_takeNumber_7 : decode cX4_takeNumber 7 = .ok (.getfield 70, 3) := by decide +kernel
theorem dX4_takeNumber_10 : decode cX4_takeNumber 10 = .ok (.istore 4, 2) := by decide +kernel
theorem dX4_takeNumber_12 : decode cX4_takeNumber 12 = .ok (.iload 4, 2) := by decide +kernel
theorem dX4_takeNumber_14 : decode cX4_takeNumber 14 = .ok (.aload_n 0, 1) := by decide +kernel
theorem dX4_takeNumber_15 : decode cX4_takeNumber 15 = .ok (.getfield 21, 3) := by decide +kernel
theorem dX4_takeNumber_18 : decode cX4_takeNumber 18 = .ok (.if_icmp .ge 31, 3) := by decide +kernel
theorem dX4_takeNumber_21 : decode cX4_takeNumber 21 = .ok (.bipush 10, 2) := by decide +kernel
theorem dX4_takeNumber_23 : decode cX4_takeNumber 23 = .ok (.iload_n 3, 1) := by decide +kernel
theorem dX4_takeNumber_24 : decode cX4_takeNumber 24 = .ok (.imul, 1) := by decide +kernel
theorem dX4_takeNumber_25 : decode cX4_takeNumber 25 = .ok (.aload_n 0, 1) := by decide +kernel
theorem dX4_takeNumber_26 : decode cX4_takeNumber 26 = .ok (.getfield 9, 3) := by decide +kernel
theorem dX4_takeNumber_29 : decode cX4_takeNumber 29 = .ok (.iload 4, 2) := by decide +kernel
theorem dX4_takeNumber_31 : decode cX4_takeNumber 31 = .ok (.iaload, 1) := by decide +kernel
theorem dX4_takeNumber_32 : decode cX4_takeNumber 32 = .ok (.iadd, 1) := by decide +kernel
theorem dX4_takeNumber_33 : decode cX4_takeNumber 33 = .ok (.bipush 48, 2) := by decide +kernel
theorem dX4_takeNumber_35 : decode cX4_takeNumber 35 = .ok (.isub, 1) := by decide +kernel
theorem dX4_takeNumber_36 : decode cX4_takeNumber 36 = .ok (.sipush 1000, 3) := by decide +kernel
theorem dX4_takeNumber_39 : decode cX4_takeNumber 39 = .ok (.invokestatic 139, 3) := by decide +kernel
theorem dX4_takeNumber_42 : decode cX4_takeNumber 42 = .ok (.istore_n 3, 1) := by decide +kernel
theorem dX4_takeNumber_43 : decode cX4_takeNumber 43 = .ok (.iinc 4 1, 3) := by decide +kernel
theorem dX4_takeNumber_46 : decode cX4_takeNumber 46 = .ok (.goto (-34), 3) := by decide +kernel
theorem dX4_takeNumber_49 : decode cX4_takeNumber 49 = .ok (.iload_n 3, 1) := by decide +kernel
theorem dX4_takeNumber_50 : decode cX4_takeNumber 50 = .ok (.iload_n 1, 1) := by decide +kernel
theorem dX4_takeNumber_51 : decode cX4_takeNumber 51 = .ok (.if_icmp .lt 8, 3) := by decide +kernel
theorem dX4_takeNumber_54 : decode cX4_takeNumber 54 = .ok (.iload_n 3, 1) := by decide +kernel
theorem dX4_takeNumber_55 : decode cX4_takeNumber 55 = .ok (.iload_n 2, 1) := by decide +kernel
theorem dX4_takeNumber_56 : decode cX4_takeNumber 56 = .ok (.if_icmp .le 12, 3) := by decide +kernel
theorem dX4_takeNumber_59 : decode cX4_takeNumber 59 = .ok (.aload_n 0, 1) := by decide +kernel
theorem dX4_takeNumber_60 : decode cX4_takeNumber 60 = .ok (.iconst 2, 1) := by decide +kernel
theorem dX4_takeNumber_61 : decode cX4_takeNumber 61 = .ok (.aload_n 0, 1) := by decide +kernel
theorem dX4_takeNumber_62 : decode cX4_takeNumber 62 = .ok (.getfield 70, 3) := by decide +kernel
theorem dX4_takeNumber_65 : decode cX4_takeNumber 65 = .ok (.invokevirtual 73, 3) := by decide +kernel
theorem dX4_takeNumber_68 : decode cX4_takeNumber 68 = .ok (.aload_n 0, 1) := by decide +kernel
theorem dX4_takeNumber_69 : decode cX4_takeNumber 69 = .ok (.getfield 27, 3) := by decide +kernel
theorem dX4_takeNumber_72 : decode cX4_takeNumber 72 = .ok (.ifCond .ne 7, 3) := by decide +kernel
theorem dX4_takeNumber_75 : decode cX4_takeNumber 75 = .ok (.iload_n 3, 1) := by decide +kernel
theorem dX4_takeNumber_76 : decode cX4_takeNumber 76 = .ok (.goto 4, 3) := by decide +kernel
theorem dX4_takeNumber_79 : decode cX4_takeNumber 79 = .ok (.iload_n 1, 1) := by decide +kernel
theorem dX4_takeNumber_80 : decode cX4_takeNumber 80 = .ok (.ireturn, 1) := by decide +kernel
theorem dX4_takeBits_0 : decode cX4_takeBits 0 = .ok (.aload_n 0, 1) := by decide +kernel
theorem dX4_takeBits_1 : decode cX4_takeBits 1 = .ok (.invokevirtual 136, 3) := by decide +kernel
theorem dX4_takeBits_4 : decode cX4_takeBits 4 = .ok (.aload_n 0, 1) := by decide +kernel
theorem dX4_takeBits_5 : decode cX4_takeBits 5 = .ok (.getfield 21, 3) := by decide +kernel
theorem dX4_takeBits_8 : decode cX4_takeBits 8 = .ok (.aload_n 0, 1) := by decide +kernel
theorem dX4_takeBits_9 : decode cX4_takeBits 9 = .ok (.getfield 70, 3) := by decide +kernel
theorem dX4_takeBits_12 : decode cX4_takeBits 12 = .ok (.isub, 1) := by decide +kernel
theorem dX4_takeBits_13 : decode cX4_takeBits 13 = .ok (.iload_n 1, 1) := by decide +kernel
theorem dX4_takeBits_14 : decode cX4_takeBits 14 = .ok (.if_icmp .eq 14, 3) := by decide +kernel
theorem dX4_takeBits_17 : decode cX4_takeBits 17 = .ok (.aload_n 0, 1) := by decide +kernel
theorem dX4_takeBits_18 : decode cX4_takeBits 18 = .ok (.iconst 2, 1) := by decide +kernel
theorem dX4_takeBits_19 : decode cX4_takeBits 19 = .ok (.aload_n 0, 1) := by decide +kernel
theorem dX4_takeBits_20 : decode cX4_takeBits 20 = .ok (.getfield 70, 3) := by decide +kernel
theorem dX4_takeBits_23 : decode cX4_takeBits 23 = .ok (.invokevirtual 73, 3) := by decide +kernel
theorem dX4_takeBits_26 : decode cX4_takeBits 26 = .ok (.iconst 0, 1) := by decide +kernel
theorem dX4_takeBits_27 : decode cX4_takeBits 27 = .ok (.ireturn, 1) := by decide +kernel
theorem dX4_takeBits_28 : decode cX4_takeBits 28 = .ok (.iconst 0, 1) := by decide +kernel
theorem dX4_takeBits_29 : decode cX4_takeBits 29 = .ok (.istore_n 2, 1) := by decide +kernel
theorem dX4_takeBits_30 : decode cX4_takeBits 30 = .ok (.iconst 0, 1) := by decide +kernel
theorem dX4_takeBits_31 : decode cX4_takeBits 31 = .ok (.istore_n 3, 1) := by decide +kernel
theorem dX4_takeBits_32 : decode cX4_takeBits 32 = .ok (.iload_n 3, 1) := by decide +kernel
theorem dX4_takeBits_33 : decode cX4_takeBits 33 = .ok (.iload_n 1, 1) := by decide +kernel
theorem dX4_takeBits_34 : decode cX4_takeBits 34 = .ok (.if_icmp .ge 54, 3) := by decide +kernel
theorem dX4_takeBits_37 : decode cX4_takeBits 37 = .ok (.aload_n 0, 1) := by decide +kernel
theorem dX4_takeBits_38 : decode cX4_takeBits 38 = .ok (.getfield 9, 3) := by decide +kernel
theorem dX4_takeBits_41 : decode cX4_takeBits 41 = .ok (.aload_n 0, 1) := by decide +kernel
theorem dX4_takeBits_42 : decode cX4_takeBits 42 = .ok (.getfield 70, 3) := by decide +kernel
theorem dX4_takeBits_45 : decode cX4_takeBits 45 = .ok (.iload_n 3, 1) := by decide +kernel
theorem dX4_takeBits_46 : decode cX4_takeBits 46 = .ok (.iadd, 1) := by decide +kernel
theorem dX4_takeBits_47 : decode cX4_takeBits 47 = .ok (.iaload, 1) := by decide +kernel
theorem dX4_takeBits_48 : decode cX4_takeBits 48 = .ok (.istore 4, 2) := by decide +kernel
theorem dX4_takeBits_50 : decode cX4_takeBits 50 = .ok (.iload 4, 2) := by decide +kernel
theorem dX4_takeBits_52 : decode cX4_takeBits 52 = .ok (.bipush 49, 2) := by decide +kernel
theorem dX4_takeBits_54 : decode cX4_takeBits 54 = .ok (.if_icmp .le 15, 3) := by decide +kernel
theorem dX4_takeBits_57 : decode cX4_takeBits 57 = .ok (.aload_n 0, 1) := by decide +kernel
theorem dX4_takeBits_58 : decode cX4_takeBits 58 = .ok (.iconst 2, 1) := by decide +kernel
theorem dX4_takeBits_59 : decode cX4_takeBits 59 = .ok (.aload_n 0, 1) := by decide +kernel
theorem dX4_takeBits_60 : decode cX4_takeBits 60 = .ok (.getfield 70, 3) := by decide +kernel
theorem dX4_takeBits_63 : decode cX4_takeBits 63 = .ok (.invokevirtual 73, 3) := by decide +kernel
theorem dX4_takeBits_66 : decode cX4_takeBits 66 = .ok (.goto 16, 3) := by decide +kernel
theorem dX4_takeBits_69 : decode cX4_takeBits 69 = .ok (.iload 4, 2) := by decide +kernel
theorem dX4_takeBits_71 : decode cX4_takeBits 71 = .ok (.bipush 49, 2) := by decide +kernel
theorem dX4_takeBits_73 : decode cX4_takeBits 73 = .ok (.if_icmp .ne 9, 3) := by decide +kernel
theorem dX4_takeBits_76 : decode cX4_takeBits 76 = .ok (.iload_n 2, 1) := by decide +kernel
theorem dX4_takeBits_77 : decode cX4_takeBits 77 = .ok (.iconst 1, 1) := by decide +kernel
theorem dX4_takeBits_78 : decode cX4_takeBits 78 = .ok (.iload_n 3, 1) := by decide +kernel
theorem dX4_takeBits_79 : decode cX4_takeBits 79 = .ok (.ishl, 1) := by decide +kernel
theorem dX4_takeBits_80 : decode cX4_takeBits 80 = .ok (.ior, 1) := by decide +kernel
theorem dX4_takeBits_81 : decode cX4_takeBits 81 = .ok (.istore_n 2, 1) := by decide +kernel
theorem dX4_takeBits_82 : decode cX4_takeBits 82 = .ok (.iinc 3 1, 3) := by decide +kernel
theorem dX4_takeBits_85 : decode cX4_takeBits 85 = .ok (.goto (-53), 3) := by decide +kernel
theorem dX4_takeBits_88 : decode cX4_takeBits 88 = .ok (.iload_n 2, 1) := by decide +kernel
theorem dX4_takeBits_89 : decode cX4_takeBits 89 = .ok (.ireturn, 1) := by decide +kernel
theorem dX4_skipSpaces_0 : decode cX4_skipSpaces 0 = .ok (.aload_n 0, 1) := by decide +kernel
theorem dX4_skipSpaces_1 : decode cX4_skipSpaces 1 = .ok (.getfield 21, 3) := by decide +kernel
theorem dX4_skipSpaces_4 : decode cX4_skipSpaces 4 = .ok (.aload_n 0, 1) := by decide +kernel
theorem dX4_skipSpaces_5 : decode cX4_skipSpaces 5 = .ok (.getfield 17, 3) := by decide +kernel
theorem dX4_skipSpaces_8 : decode cX4_skipSpaces 8 = .ok (.if_icmp .ge 30, 3) := by decide +kernel
theorem dX4_skipSpaces_11 : decode cX4_skipSpaces 11 = .ok (.aload_n 0, 1) := by decide +kernel
theorem dX4_skipSpaces_12 : decode cX4_skipSpaces 12 = .ok (.getfield 9, 3) := by decide +kernel
theorem dX4_skipSpaces_15 : decode cX4_skipSpaces 15 = .ok (.aload_n 0, 1) := by decide +kernel
theorem dX4_skipSpaces_16 : decode cX4_skipSpaces 16 = .ok (.getfield 21, 3) := by decide +kernel
theorem dX4_skipSpaces_19 : decode cX4_skipSpaces 19 = .ok (.iaload, 1) := by decide +kernel
theorem dX4_skipSpaces_20 : decode cX4_skipSpaces 20 = .ok (.bipush 32, 2) := by decide +kernel
theorem dX4_skipSpaces_22 : decode cX4_skipSpaces 22 = .ok (.if_icmp .ne 16, 3) := by decide +kernel
theorem dX4_skipSpaces_25 : decode cX4_skipSpaces 25 = .ok (.aload_n 0, 1) := by decide +kernel
theorem dX4_skipSpaces_26 : decode cX4_skipSpaces 26 = .ok (.dup, 1) := by decide +kernel
theorem dX4_skipSpaces_27 : decode cX4_skipSpaces 27 = .ok (.getfield 21, 3) := by decide +kernel
theorem dX4_skipSpaces_30 : decode cX4_skipSpaces 30 = .ok (.iconst 1, 1) := by decide +kernel
theorem dX4_skipSpaces_31 : decode cX4_skipSpaces 31 = .ok (.iadd, 1) := by decide +kernel
theorem dX4_skipSpaces_32 : decode cX4_skipSpaces 32 = .ok (.putfield 21, 3) := by decide +kernel
theorem dX4_skipSpaces_35 : decode cX4_skipSpaces 35 = .ok (.goto (-35), 3) := by decide +kernel
theorem dX4_skipSpaces_38 : decode cX4_skipSpaces 38 = .ok (.return_, 1) := by decide +kernel
theorem dX4_isWord_0 : decode cX4_isWord 0 = .ok (.aload_n 0, 1) := by decide +kernel
theorem dX4_isWord_1 : decode cX4_isWord 1 = .ok (.getfield 21, 3) := by decide +kernel
theorem dX4_isWord_4 : decode cX4_isWord 4 = .ok (.aload_n 0, 1) := by decide +kernel
theorem dX4_isWord_5 : decode cX4_isWord 5 = .ok (.getfield 70, 3) := by decide +kernel
theorem dX4_isWord_8 : decode cX4_isWord 8 = .ok (.isub, 1) := by decide +kernel
theorem dX4_isWord_9 : decode cX4_isWord 9 = .ok (.aload_n 1, 1) := by decide +kernel
theorem dX4_isWord_10 : decode cX4_isWord 10 = .ok (.invokevirtual 144, 3) := by decide +kernel
theorem dX4_isWord_13 : decode cX4_isWord 13 = .ok (.if_icmp .eq 5, 3) := by decide +kernel
theorem dX4_isWord_16 : decode cX4_isWord 16 = .ok (.iconst 0, 1) := by decide +kernel
theorem dX4_isWord_17 : decode cX4_isWord 17 = .ok (.ireturn, 1) := by decide +kernel
theorem dX4_isWord_18 : decode cX4_isWord 18 = .ok (.iconst 0, 1) := by decide +kernel
theorem dX4_isWord_19 : decode cX4_isWord 19 = .ok (.istore_n 2, 1) := by decide +kernel
theorem dX4_isWord_20 : decode cX4_isWord 20 = .ok (.iload_n 2, 1) := by decide +kernel
theorem dX4_isWord_21 : decode cX4_isWord 21 = .ok (.aload_n 1, 1) := by decide +kernel
theorem dX4_isWord_22 : decode cX4_isWord 22 = .ok (.invokevirtual 144, 3) := by decide +kernel
theorem dX4_isWord_25 : decode cX4_isWord 25 = .ok (.if_icmp .ge 30, 3) := by decide +kernel
theorem dX4_isWord_28 : decode cX4_isWord 28 = .ok (.aload_n 0, 1) := by decide +kernel
theorem dX4_isWord_29 : decode cX4_isWord 29 = .ok (.getfield 9, 3) := by decide +kernel
theorem dX4_isWord_32 : decode cX4_isWord 32 = .ok (.aload_n 0, 1) := by decide +kernel
theorem dX4_isWord_33 : decode cX4_isWord 33 = .ok (.getfield 70, 3) := by decide +kernel
theorem dX4_isWord_36 : decode cX4_isWord 36 = .ok (.iload_n 2, 1) := by decide +kernel
theorem dX4_isWord_37 : decode cX4_isWord 37 = .ok (.iadd, 1) := by decide +kernel
theorem dX4_isWord_38 : decode cX4_isWord 38 = .ok (.iaload, 1) := by decide +kernel
theorem dX4_isWord_39 : decode cX4_isWord 39 = .ok (.aload_n 1, 1) := by decide +kernel
theorem dX4_isWord_40 : decode cX4_isWord 40 = .ok (.iload_n 2, 1) := by decide +kernel
theorem dX4_isWord_41 : decode cX4_isWord 41 = .ok (.invokevirtual 149, 3) := by decide +kernel
theorem dX4_isWord_44 : decode cX4_isWord 44 = .ok (.if_icmp .eq 5, 3) := by decide +kernel
theorem dX4_isWord_47 : decode cX4_isWord 47 = .ok (.iconst 0, 1) := by decide +kernel
theorem dX4_isWord_48 : decode cX4_isWord 48 = .ok (.ireturn, 1) := by decide +kernel
theorem dX4_isWord_49 : decode cX4_isWord 49 = .ok (.iinc 2 1, 3) := by decide +kernel
theorem dX4_isWord_52 : decode cX4_isWord 52 = .ok (.goto (-32), 3) := by decide +kernel
theorem dX4_isWord_55 : decode cX4_isWord 55 = .ok (.iconst 1, 1) := by decide +kernel
theorem dX4_isWord_56 : decode cX4_isWord 56 = .ok (.ireturn, 1) := by decide +kernel
theorem dX4_fail_0 : decode cX4_fail 0 = .ok (.aload_n 0, 1) := by decide +kernel
theorem dX4_fail_1 : decode cX4_fail 1 = .ok (.getfield 27, 3) := by decide +kernel
theorem dX4_fail_4 : decode cX4_fail 4 = .ok (.ifCond .ne 13, 3) := by decide +kernel
theorem dX4_fail_7 : decode cX4_fail 7 = .ok (.aload_n 0, 1) := by decide +kernel
theorem dX4_fail_8 : decode cX4_fail 8 = .ok (.iload_n 1, 1) := by decide +kernel
theorem dX4_fail_9 : decode cX4_fail 9 = .ok (.putfield 27, 3) := by decide +kernel
theorem dX4_fail_12 : decode cX4_fail 12 = .ok (.aload_n 0, 1) := by decide +kernel
theorem dX4_fail_13 : decode cX4_fail 13 = .ok (.iload_n 2, 1) := by decide +kernel
theorem dX4_fail_14 : decode cX4_fail 14 = .ok (.putfield 30, 3) := by decide +kernel
theorem dX4_fail_17 : decode cX4_fail 17 = .ok (.return_, 1) := by decide +kernel
theorem dX5_init_0 : decode cX5_init 0 = .ok (.aload_n 0, 1) := by decide +kernel
theorem dX5_init_1 : decode cX5_init 1 = .ok (.invokespecial 3, 3) := by decide +kernel
theorem dX5_init_4 : decode cX5_init 4 = .ok (.aload_n 0, 1) := by decide +kernel
theorem dX5_init_5 : decode cX5_init 5 = .ok (.bipush 6, 2) := by decide +kernel
theorem dX5_init_7 : decode cX5_init 7 = .ok (.anewarray 9, 3) := by decide +kernel
theorem dX5_init_10 : decode cX5_init 10 = .ok (.putfield 11, 3) := by decide +kernel
theorem dX5_init_13 : decode cX5_init 13 = .ok (.iconst 0, 1) := by decide +kernel
theorem dX5_init_14 : decode cX5_init 14 = .ok (.istore_n 1, 1) := by decide +kernel
theorem dX5_init_15 : decode cX5_init 15 = .ok (.iload_n 1, 1) := by decide +kernel
theorem dX5_init_16 : decode cX5_init 16 = .ok (.bipush 6, 2) := by decide +kernel
theorem dX5_init_18 : decode cX5_init 18 = .ok (.if_icmp .ge 22, 3) := by decide +kernel
theorem dX5_init_21 : decode cX5_init 21 = .ok (.aload_n 0, 1) := by decide +kernel
theorem dX5_init_22 : decode cX5_init 22 = .ok (.getfield 11, 3) := by decide +kernel
theorem dX5_init_25 : decode cX5_init 25 = .ok (.iload_n 1, 1) := by decide +kernel
theorem dX5_init_26 : decode cX5_init 26 = .ok (.new 9, 3) := by decide +kernel
theorem dX5_init_29 : decode cX5_init 29 = .ok (.dup, 1) := by decide +kernel
theorem dX5_init_30 : decode cX5_init 30 = .ok (.invokespecial 17, 3) := by decide +kernel
theorem dX5_init_33 : decode cX5_init 33 = .ok (.aastore, 1) := by decide +kernel
theorem dX5_init_34 : decode cX5_init 34 = .ok (.iinc 1 1, 3) := by decide +kernel
theorem dX5_init_37 : decode cX5_init 37 = .ok (.goto (-22), 3) := by decide +kernel
theorem dX5_init_40 : decode cX5_init 40 = .ok (.aload_n 0, 1) := by decide +kernel
theorem dX5_init_41 : decode cX5_init 41 = .ok (.bipush 8, 2) := by decide +kernel
theorem dX5_init_43 : decode cX5_init 43 = .ok (.putfield 18, 3) := by decide +kernel
theorem dX5_init_46 : decode cX5_init 46 = .ok (.aload_n 0, 1) := by decide +kernel
theorem dX5_init_47 : decode cX5_init 47 = .ok (.iconst 4, 1) := by decide +kernel
theorem dX5_init_48 : decode cX5_init 48 = .ok (.putfield 22, 3) := by decide +kernel
theorem dX5_init_51 : decode cX5_init 51 = .ok (.return_, 1) := by decide +kernel
theorem dX5_makeEmpty_0 : decode cX5_makeEmpty 0 = .ok (.iconst 0, 1) := by decide +kernel
theorem dX5_makeEmpty_1 : decode cX5_makeEmpty 1 = .ok (.istore_n 2, 1) := by decide +kernel
theorem dX5_makeEmpty_2 : decode cX5_makeEmpty 2 = .ok (.iload_n 2, 1) := by decide +kernel
theorem dX5_makeEmpty_3 : decode cX5_makeEmpty 3 = .ok (.bipush 6, 2) := by decide +kernel
theorem dX5_makeEmpty_5 : decode cX5_makeEmpty 5 = .ok (.if_icmp .ge 18, 3) := by decide +kernel
theorem dX5_makeEmpty_8 : decode cX5_makeEmpty 8 = .ok (.aload_n 0, 1) := by decide +kernel
theorem dX5_makeEmpty_9 : decode cX5_makeEmpty 9 = .ok (.getfield 11, 3) := by decide +kernel
theorem dX5_makeEmpty_12 : decode cX5_makeEmpty 12 = .ok (.iload_n 2, 1) := by decide +kernel
theorem dX5_makeEmpty_13 : decode cX5_makeEmpty 13 = .ok (.aaload, 1) := by decide +kernel
theorem dX5_makeEmpty_14 : decode cX5_makeEmpty 14 = .ok (.invokevirtual 25, 3) := by decide +kernel
theorem dX5_makeEmpty_17 : decode cX5_makeEmpty 17 = .ok (.iinc 2 1, 3) := by decide +kernel
theorem dX5_makeEmpty_20 : decode cX5_makeEmpty 20 = .ok (.goto (-18), 3) := by decide +kernel
theorem dX5_makeEmpty_23 : decode cX5_makeEmpty 23 = .ok (.aload_n 0, 1) := by decide +kernel
theorem dX5_makeEmpty_24 : decode cX5_makeEmpty 24 = .ok (.iload_n 1, 1) := by decide +kernel
theorem dX5_makeEmpty_25 : decode cX5_makeEmpty 25 = .ok (.putfield 18, 3) := by decide +kernel
theorem dX5_makeEmpty_28 : decode cX5_makeEmpty 28 = .ok (.aload_n 0, 1) := by decide +kernel
theorem dX5_makeEmpty_29 : decode cX5_makeEmpty 29 = .ok (.iconst 4, 1) := by decide +kernel
theorem dX5_makeEmpty_30 : decode cX5_makeEmpty 30 = .ok (.putfield 22, 3) := by decide +kernel
theorem dX5_makeEmpty_33 : decode cX5_makeEmpty 33 = .ok (.aload_n 0, 1) := by decide +kernel
theorem dX5_makeEmpty_34 : decode cX5_makeEmpty 34 = .ok (.iconst 0, 1) := by decide +kernel
theorem dX5_makeEmpty_35 : decode cX5_makeEmpty 35 = .ok (.putfield 28, 3) := by decide +kernel
theorem dX5_makeEmpty_38 : decode cX5_makeEmpty 38 = .ok (.aload_n 0, 1) := by decide +kernel
theorem dX5_makeEmpty_39 : decode cX5_makeEmpty 39 = .ok (.iconst 0, 1) := by decide +kernel
theorem dX5_makeEmpty_40 : decode cX5_makeEmpty 40 = .ok (.putfield 31, 3) := by decide +kernel
theorem dX5_makeEmpty_43 : decode cX5_makeEmpty 43 = .ok (.return_, 1) := by decide +kernel
theorem dX5_takeFrom_0 : decode cX5_takeFrom 0 = .ok (.iconst 0, 1) := by decide +kernel
theorem dX5_takeFrom_1 : decode cX5_takeFrom 1 = .ok (.istore_n 2, 1) := by decide +kernel
theorem dX5_takeFrom_2 : decode cX5_takeFrom 2 = .ok (.iload_n 2, 1) := by decide +kernel
theorem dX5_takeFrom_3 : decode cX5_takeFrom 3 = .ok (.bipush 6, 2) := by decide +kernel
theorem dX5_takeFrom_5 : decode cX5_takeFrom 5 = .ok (.if_icmp .ge 24, 3) := by decide +kernel
theorem dX5_takeFrom_8 : decode cX5_takeFrom 8 = .ok (.aload_n 0, 1) := by decide +kernel
theorem dX5_takeFrom_9 : decode cX5_takeFrom 9 = .ok (.getfield 11, 3) := by decide +kernel
theorem dX5_takeFrom_12 : decode cX5_takeFrom 12 = .ok (.iload_n 2, 1) := by decide +kernel
theorem dX5_takeFrom_13 : decode cX5_takeFrom 13 = .ok (.aaload, 1) := by decide +kernel
theorem dX5_takeFrom_14 : decode cX5_takeFrom 14 = .ok (.aload_n 1, 1) := by decide +kernel
theorem dX5_takeFrom_15 : decode cX5_takeFrom 15 = .ok (.getfield 11, 3) := by decide +kernel
theorem dX5_takeFrom_18 : decode cX5_takeFrom 18 = .ok (.iload_n 2, 1) := by decide +kernel
theorem dX5_takeFrom_19 : decode cX5_takeFrom 19 = .ok (.aaload, 1) := by decide +kernel
theorem dX5_takeFrom_20 : decode cX5_takeFrom 20 = .ok (.invokevirtual 34, 3) := by decide +kernel
theorem dX5_takeFrom_23 : decode cX5_takeFrom 23 = .ok (.iinc 2 1, 3) := by decide +kernel
theorem dX5_takeFrom_26 : decode cX5_takeFrom 26 = .ok (.goto (-24), 3) := by decide +kernel
theorem dX5_takeFrom_29 : decode cX5_takeFrom 29 = .ok (.aload_n 0, 1) := by decide +kernel
theorem dX5_takeFrom_30 : decode cX5_takeFrom 30 = .ok (.aload_n 1, 1) := by decide +kernel
theorem dX5_takeFrom_31 : decode cX5_takeFrom 31 = .ok (.getfield 18, 3) := by decide +kernel
theorem dX5_takeFrom_34 : decode cX5_takeFrom 34 = .ok (.putfield 18, 3) := by decide +kernel
theorem dX5_takeFrom_37 : decode cX5_takeFrom 37 = .ok (.aload_n 0, 1) := by decide +kernel
theorem dX5_takeFrom_38 : decode cX5_takeFrom 38 = .ok (.aload_n 1, 1) := by decide +kernel
theorem dX5_takeFrom_39 : decode cX5_takeFrom 39 = .ok (.getfield 22, 3) := by decide +kernel
theorem dX5_takeFrom_42 : decode cX5_takeFrom 42 = .ok (.putfield 22, 3) := by decide +kernel
theorem dX5_takeFrom_45 : decode cX5_takeFrom 45 = .ok (.aload_n 0, 1) := by decide +kernel
theorem dX5_takeFrom_46 : decode cX5_takeFrom 46 = .ok (.aload_n 1, 1) := by decide +kernel
theorem dX5_takeFrom_47 : decode cX5_takeFrom 47 = .ok (.getfield 28, 3) := by decide +kernel
theorem dX5_takeFrom_50 : decode cX5_takeFrom 50 = .ok (.putfield 28, 3) := by decide +kernel
theorem dX5_takeFrom_53 : decode cX5_takeFrom 53 = .ok (.aload_n 0, 1) := by decide +kernel
theorem dX5_takeFrom_54 : decode cX5_takeFrom 54 = .ok (.aload_n 1, 1) := by decide +kernel
theorem dX5_takeFrom_55 : decode cX5_takeFrom 55 = .ok (.getfield 31, 3) := by decide +kernel
theorem dX5_takeFrom_58 : decode cX5_takeFrom 58 = .ok (.putfield 31, 3) := by decide +kernel
theorem dX5_takeFrom_61 : decode cX5_takeFrom 61 = .ok (.return_, 1) := by decide +kernel
theorem dX6_init_0 : decode cX6_init 0 = .ok (.aload_n 0, 1) := by decide +kernel
theorem dX6_init_1 : decode cX6_init 1 = .ok (.invokespecial 1, 3) := by decide +kernel
theorem dX6_init_4 : decode cX6_init 4 = .ok (.aload_n 0, 1) := by decide +kernel
theorem dX6_init_5 : decode cX6_init 5 = .ok (.new 7, 3) := by decide +kernel
theorem dX6_init_8 : decode cX6_init 8 = .ok (.dup, 1) := by decide +kernel
theorem dX6_init_9 : decode cX6_init 9 = .ok (.invokespecial 9, 3) := by decide +kernel
theorem dX6_init_12 : decode cX6_init 12 = .ok (.putfield 10, 3) := by decide +kernel
theorem dX6_init_15 : decode cX6_init 15 = .ok (.aload_n 0, 1) := by decide +kernel
theorem dX6_init_16 : decode cX6_init 16 = .ok (.new 16, 3) := by decide +kernel
theorem dX6_init_19 : decode cX6_init 19 = .ok (.dup, 1) := by decide +kernel
theorem dX6_init_20 : decode cX6_init 20 = .ok (.invokespecial 18, 3) := by decide +kernel
theorem dX6_init_23 : decode cX6_init 23 = .ok (.putfield 19, 3) := by decide +kernel
theorem dX6_init_26 : decode cX6_init 26 = .ok (.aload_n 0, 1) := by decide +kernel
theorem dX6_init_27 : decode cX6_init 27 = .ok (.new 16, 3) := by decide +kernel
theorem dX6_init_30 : decode cX6_init 30 = .ok (.dup, 1) := by decide +kernel
theorem dX6_init_31 : decode cX6_init 31 = .ok (.invokespecial 18, 3) := by decide +kernel
theorem dX6_init_34 : decode cX6_init 34 = .ok (.putfield 23, 3) := by decide +kernel
theorem dX6_init_37 : decode cX6_init 37 = .ok (.aload_n 0, 1) := by decide +kernel
theorem dX6_init_38 : decode cX6_init 38 = .ok (.bipush 8, 2) := by decide +kernel
theorem dX6_init_40 : decode cX6_init 40 = .ok (.anewarray 16, 3) := by decide +kernel
theorem dX6_init_43 : decode cX6_init 43 = .ok (.putfield 26, 3) := by decide +kernel
theorem dX6_init_46 : decode cX6_init 46 = .ok (.iconst 0, 1) := by decide +kernel
theorem dX6_init_47 : decode cX6_init 47 = .ok (.istore_n 1, 1) := by decide +kernel
theorem dX6_init_48 : decode cX6_init 48 = .ok (.iload_n 1, 1) := by decide +kernel
theorem dX6_init_49 : decode cX6_init 49 = .ok (.bipush 8, 2) := by decide +kernel
theorem dX6_init_51 : decode cX6_init 51 = .ok (.if_icmp .ge 22, 3) := by decide +kernel
theorem dX6_init_54 : decode cX6_init 54 = .ok (.aload_n 0, 1) := by decide +kernel
theorem dX6_init_55 : decode cX6_init 55 = .ok (.getfield 26, 3) := by decide +kernel
theorem dX6_init_58 : decode cX6_init 58 = .ok (.iload_n 1, 1) := by decide +kernel
theorem dX6_init_59 : decode cX6_init 59 = .ok (.new 16, 3) := by decide +kernel
theorem dX6_init_62 : decode cX6_init 62 = .ok (.dup, 1) := by decide +kernel
theorem dX6_init_63 : decode cX6_init 63 = .ok (.invokespecial 18, 3) := by decide +kernel
theorem dX6_init_66 : decode cX6_init 66 = .ok (.aastore, 1) := by decide +kernel
theorem dX6_init_67 : decode cX6_init 67 = .ok (.iinc 1 1, 3) := by decide +kernel
theorem dX6_init_70 : decode cX6_init 70 = .ok (.goto (-22), 3) := by decide +kernel
theorem dX6_init_73 : decode cX6_init 73 = .ok (.aload_n 0, 1) := by decide +kernel
theorem dX6_init_74 : decode cX6_init 74 = .ok (.iconst 2, 1) := by decide +kernel
theorem dX6_init_75 : decode cX6_init 75 = .ok (.anewarray 16, 3) := by decide +kernel
theorem dX6_init_78 : decode cX6_init 78 = .ok (.putfield 30, 3) := by decide +kernel
theorem dX6_init_81 : decode cX6_init 81 = .ok (.iconst 0, 1) := by decide +kernel
theorem dX6_init_82 : decode cX6_init 82 = .ok (.istore_n 1, 1) := by decide +kernel
theorem dX6_init_83 : decode cX6_init 83 = .ok (.iload_n 1, 1) := by decide +kernel
theorem dX6_init_84 : decode cX6_init 84 = .ok (.iconst 2, 1) := by decide +kernel
theorem dX6_init_85 : decode cX6_init 85 = .ok (.if_icmp .ge 22, 3) := by decide +kernel
theorem dX6_init_88 : decode cX6_init 88 = .ok (.aload_n 0, 1) := by decide +kernel
theorem dX6_init_89 : decode cX6_init 89 = .ok (.getfield 30, 3) := by decide +kernel
theorem dX6_init_92 : decode cX6_init 92 = .ok (.iload_n 1, 1) := by decide +kernel
theorem dX6_init_93 : decode cX6_init 93 = .ok (.new 16, 3) := by decide +kernel
theorem dX6_init_96 : decode cX6_init 96 = .ok (.dup, 1) := by decide +kernel
theorem dX6_init_97 : decode cX6_init 97 = .ok (.invokespecial 18, 3) := by decide +kernel
theorem dX6_init_100 : decode cX6_init 100 = .ok (.aastore, 1) := by decide +kernel
theorem dX6_init_101 : decode cX6_init 101 = .ok (.iinc 1 1, 3) := by decide +kernel
theorem dX6_init_104 : decode cX6_init 104 = .ok (.goto (-21), 3) := by decide +kernel
theorem dX6_init_107 : decode cX6_init 107 = .ok (.aload_n 0, 1) := by decide +kernel
theorem dX6_init_108 : decode cX6_init 108 = .ok (.iconst 2, 1) := by decide +kernel
theorem dX6_init_109 : decode cX6_init 109 = .ok (.newarray .boolean, 2) := by decide +kernel
theorem dX6_init_111 : decode cX6_init 111 = .ok (.putfield 33, 3) := by decide +kernel
theorem dX6_init_114 : decode cX6_init 114 = .ok (.aload_n 0, 1) := by decide +kernel
theorem dX6_init_115 : decode cX6_init 115 = .ok (.bipush 6, 2) := by decide +kernel
theorem dX6_init_117 : decode cX6_init 117 = .ok (.anewarray 37, 3) := by decide +kernel
theorem dX6_init_120 : decode cX6_init 120 = .ok (.putfield 39, 3) := by decide +kernel
theorem dX6_init_123 : decode cX6_init 123 = .ok (.iconst 0, 1) := by decide +kernel
theorem dX6_init_124 : decode cX6_init 124 = .ok (.istore_n 1, 1) := by decide +kernel
theorem dX6_init_125 : decode cX6_init 125 = .ok (.iload_n 1, 1) := by decide +kernel
theorem dX6_init_126 : decode cX6_init 126 = .ok (.bipush 6, 2) := by decide +kernel
theorem dX6_init_128 : decode cX6_init 128 = .ok (.if_icmp .ge 22, 3) := by decide +kernel
theorem dX6_init_131 : decode cX6_init 131 = .ok (.aload_n 0, 1) := by decide +kernel
theorem dX6_init_132 : decode cX6_init 132 = .ok (.getfield 39, 3) := by decide +kernel
theorem dX6_init_135 : decode cX6_init 135 = .ok (.iload_n 1, 1) := by decide +kernel
theorem dX6_init_136 : decode cX6_init 136 = .ok (.new 37, 3) := by decide +kernel
theorem dX6_init_139 : decode cX6_init 139 = .ok (.dup, 1) := by decide +kernel
theorem dX6_init_140 : decode cX6_init 140 = .ok (.invokespecial 43, 3) := by decide +kernel
theorem dX6_init_143 : decode cX6_init 143 = .ok (.aastore, 1) := by decide +kernel
theorem dX6_init_144 : decode cX6_init 144 = .ok (.iinc 1 1, 3) := by decide +kernel
theorem dX6_init_147 : decode cX6_init 147 = .ok (.goto (-22), 3) := by decide +kernel
theorem dX6_init_150 : decode cX6_init 150 = .ok (.aload_n 0, 1) := by decide +kernel
theorem dX6_init_151 : decode cX6_init 151 = .ok (.new 44, 3) := by decide +kernel
theorem dX6_init_154 : decode cX6_init 154 = .ok (.dup, 1) := by decide +kernel
theorem dX6_init_155 : decode cX6_init 155 = .ok (.invokespecial 46, 3) := by decide +kernel
theorem dX6_init_158 : decode cX6_init 158 = .ok (.putfield 47, 3) := by decide +kernel
theorem dX6_init_161 : decode cX6_init 161 = .ok (.aload_n 0, 1) := by decide +kernel
theorem dX6_init_162 : decode cX6_init 162 = .ok (.new 51, 3) := by decide +kernel
theorem dX6_init_165 : decode cX6_init 165 = .ok (.dup, 1) := by decide +kernel
theorem dX6_init_166 : decode cX6_init 166 = .ok (.invokespecial 53, 3) := by decide +kernel
theorem dX6_init_169 : decode cX6_init 169 = .ok (.putfield 54, 3) := by decide +kernel
theorem dX6_init_172 : decode cX6_init 172 = .ok (.aload_n 0, 1) := by decide +kernel
theorem dX6_init_173 : decode cX6_init 173 = .ok (.bipush 32, 2) := by decide +kernel
theorem dX6_init_175 : decode cX6_init 175 = .ok (.newarray .int, 2) := by decide +kernel
theorem dX6_init_177 : decode cX6_init 177 = .ok (.putfield 58, 3) := by decide +kernel
theorem dX6_init_180 : decode cX6_init 180 = .ok (.aload_n 0, 1) := by decide +kernel
theorem dX6_init_181 : decode cX6_init 181 = .ok (.bipush 32, 2) := by decide +kernel
theorem dX6_init_183 : decode cX6_init 183 = .ok (.newarray .int, 2) := by decide +kernel
theorem dX6_init_185 : decode cX6_init 185 = .ok (.putfield 62, 3) := by decide +kernel
theorem dX6_init_188 : decode cX6_init 188 = .ok (.aload_n 0, 1) := by decide +kernel
theorem dX6_init_189 : decode cX6_init 189 = .ok (.bipush 32, 2) := by decide +kernel
theorem dX6_init_191 : decode cX6_init 191 = .ok (.newarray .int, 2) := by decide +kernel
theorem dX6_init_193 : decode cX6_init 193 = .ok (.putfield 65, 3) := by decide +kernel
theorem dX6_init_196 : decode cX6_init 196 = .ok (.return_, 1) := by decide +kernel
theorem dX6_append_0 : decode cX6_append 0 = .ok (.aload_n 0, 1) := by decide +kernel
theorem dX6_append_1 : decode cX6_append 1 = .ok (.getfield 10, 3) := by decide +kernel
theorem dX6_append_4 : decode cX6_append 4 = .ok (.lload_n 1, 1) := by decide +kernel
theorem dX6_append_5 : decode cX6_append 5 = .ok (.invokevirtual 68, 3) := by decide +kernel
theorem dX6_append_8 : decode cX6_append 8 = .ok (.ireturn, 1) := by decide +kernel
theorem dX6_load_0 : decode cX6_load 0 = .ok (.aload_n 0, 1) := by decide +kernel
theorem dX6_load_1 : decode cX6_load 1 = .ok (.getfield 10, 3) := by decide +kernel
theorem dX6_load_4 : decode cX6_load 4 = .ok (.aload_n 0, 1) := by decide +kernel
theorem dX6_load_5 : decode cX6_load 5 = .ok (.getfield 23, 3) := by decide +kernel
theorem dX6_load_8 : decode cX6_load 8 = .ok (.invokevirtual 72, 3) := by decide +kernel
theorem dX6_load_11 : decode cX6_load 11 = .ok (.aload_n 0, 1) := by decide +kernel
theorem dX6_load_12 : decode cX6_load 12 = .ok (.getfield 10, 3) := by decide +kernel
theorem dX6_load_15 : decode cX6_load 15 = .ok (.getfield 76, 3) := by decide +kernel
theorem dX6_load_18 : decode cX6_load 18 = .ok (.ifCond .eq 14, 3) := by decide +kernel
theorem dX6_load_21 : decode cX6_load 21 = .ok (.bipush (-100), 2) := by decide +kernel
theorem dX6_load_23 : decode cX6_load 23 = .ok (.aload_n 0, 1) := by decide +kernel
theorem dX6_load_24 : decode cX6_load 24 = .ok (.getfield 10, 3) := by decide +kernel
theorem dX6_load_27 : decode cX6_load 27 = .ok (.getfield 80, 3) := by decide +kernel
theorem dX6_load_30 : decode cX6_load 30 = .ok (.isub, 1) := by decide +kernel
theorem dX6_load_31 : decode cX6_load 31 = .ok (.ireturn, 1) := by decide +kernel
theorem dX6_load_32 : decode cX6_load 32 = .ok (.aload_n 0, 1) := by decide +kernel
theorem dX6_load_33 : decode cX6_load 33 = .ok (.aload_n 0, 1) := by decide +kernel
theorem dX6_load_34 : decode cX6_load 34 = .ok (.getfield 23, 3) := by decide +kernel
theorem dX6_load_37 : decode cX6_load 37 = .ok (.invokevirtual 83, 3) := by decide +kernel
theorem dX6_load_40 : decode cX6_load 40 = .ok (.aload_n 0, 1) := by decide +kernel
theorem dX6_load_41 : decode cX6_load 41 = .ok (.iconst 0, 1) := by decide +kernel
theorem dX6_load_42 : decode cX6_load 42 = .ok (.putfield 86, 3) := by decide +kernel
theorem dX6_load_45 : decode cX6_load 45 = .ok (.aload_n 0, 1) := by decide +kernel
theorem dX6_load_46 : decode cX6_load 46 = .ok (.getfield 19, 3) := by decide +kernel
theorem dX6_load_49 : decode cX6_load 49 = .ok (.getfield 89, 3) := by decide +kernel
theorem dX6_load_52 : decode cX6_load 52 = .ok (.ireturn, 1) := by decide +kernel
theorem dX6_loadError_0 : decode cX6_loadError 0 = .ok (.aload_n 0, 1) := by decide +kernel
theorem dX6_loadError_1 : decode cX6_loadError 1 = .ok (.getfield 10, 3) := by decide +kernel
theorem dX6_loadError_4 : decode cX6_loadError 4 = .ok (.getfield 76, 3) := by decide +kernel
theorem dX6_loadError_7 : decode cX6_loadError 7 = .ok (.ireturn, 1) := by decide +kernel
theorem dX6_loadStatement_0 : decode cX6_loadStatement 0 = .ok (.aload_n 0, 1) := by decide +kernel
theorem dX6_loadStatement_1 : decode cX6_loadStatement 1 = .ok (.getfield 10, 3) := by decide +kernel
theorem dX6_loadStatement_4 : decode cX6_loadStatement 4 = .ok (.getfield 76, 3) := by decide +kernel
theorem dX6_loadStatement_7 : decode cX6_loadStatement 7 = .ok (.ifCond .ne 7, 3) := by decide +kernel
theorem dX6_loadStatement_10 : decode cX6_loadStatement 10 = .ok (.iconst (-1), 1) := by decide +kernel
theorem dX6_loadStatement_11 : decode cX6_loadStatement 11 = .ok (.goto 10, 3) := by decide +kernel
theorem dX6_loadStatement_14 : decode cX6_loadStatement 14 = .ok (.aload_n 0, 1) := by decide +kernel
theorem dX6_loadStatement_15 : decode cX6_loadStatement 15 = .ok (.getfield 10, 3) := by decide +kernel
theorem dX6_loadStatement_18 : decode cX6_loadStatement 18 = .ok (.getfield 92, 3) := by decide +kernel
theorem dX6_loadStatement_21 : decode cX6_loadStatement 21 = .ok (.ireturn, 1) := by decide +kernel
theorem dX6_count_0 : decode cX6_count 0 = .ok (.aload_n 0, 1) := by decide +kernel
theorem dX6_count_1 : decode cX6_count 1 = .ok (.iload_n 1, 1) := by decide +kernel
theorem dX6_count_2 : decode cX6_count 2 = .ok (.iconst 0, 1) := by decide +kernel
theorem dX6_count_3 : decode cX6_count 3 = .ok (.iconst 3, 1) := by decide +kernel
theorem dX6_count_4 : decode cX6_count 4 = .ok (.invokevirtual 95, 3) := by decide +kernel
theorem dX6_count_7 : decode cX6_count 7 = .ok (.iload_n 1, 1) := by decide +kernel
theorem dX6_count_8 : decode cX6_count 8 = .ok (.tableswitch 49 0 2 #[28, 36, 44], 28) := by decide +kernel
theorem dX6_count_36 : decode cX6_count 36 = .ok (.aload_n 0, 1) := by decide +kernel
theorem dX6_count_37 : decode cX6_count 37 = .ok (.getfield 19, 3) := by decide +kernel
theorem dX6_count_40 : decode cX6_count 40 = .ok (.getfield 89, 3) := by decide +kernel
theorem dX6_count_43 : decode cX6_count 43 = .ok (.ireturn, 1) := by decide +kernel
theorem dX6_count_44 : decode cX6_count 44 = .ok (.aload_n 0, 1) := by decide +kernel
theorem dX6_count_45 : decode cX6_count 45 = .ok (.getfield 19, 3) := by decide +kernel
theorem dX6_count_48 : decode cX6_count 48 = .ok (.getfield 99, 3) := by decide +kernel
theorem dX6_count_51 : decode cX6_count 51 = .ok (.ireturn, 1) := by decide +kernel
theorem dX6_count_52 : decode cX6_count 52 = .ok (.aload_n 0, 1) := by decide +kernel
theorem dX6_count_53 : decode cX6_count 53 = .ok (.invokevirtual 102, 3) := by decide +kernel
theorem dX6_count_56 : decode cX6_count 56 = .ok (.ireturn, 1) := by decide +kernel
theorem dX6_count_57 : decode cX6_count 57 = .ok (.aload_n 0, 1) := by decide +kernel
theorem dX6_count_58 : decode cX6_count 58 = .ok (.getfield 106, 3) := by decide +kernel
theorem dX6_count_61 : decode cX6_count 61 = .ok (.ireturn, 1) := by decide +kernel
theorem dX6_bit_0 : decode cX6_bit 0 = .ok (.aload_n 0, 1) := by decide +kernel
theorem dX6_bit_1 : decode cX6_bit 1 = .ok (.iload_n 1, 1) := by decide +kernel
theorem dX6_bit_2 : decode cX6_bit 2 = .ok (.iload_n 2, 1) := by decide +kernel
theorem dX6_bit_3 : decode cX6_bit 3 = .ok (.iload_n 3, 1) := by decide +kernel
theorem dX6_bit_4 : decode cX6_bit 4 = .ok (.invokevirtual 109, 3) := by decide +kernel
theorem dX6_bit_7 : decode cX6_bit 7 = .ok (.aload_n 0, 1) := by decide +kernel
theorem dX6_bit_8 : decode cX6_bit 8 = .ok (.iload_n 1, 1) := by decide +kernel
theorem dX6_bit_9 : decode cX6_bit 9 = .ok (.invokevirtual 112, 3) := by decide +kernel
theorem dX6_bit_12 : decode cX6_bit 12 = .ok (.iload_n 2, 1) := by decide +kernel
theorem dX6_bit_13 : decode cX6_bit 13 = .ok (.iaload, 1) := by decide +kernel
theorem dX6_bit_14 : decode cX6_bit 14 = .ok (.iload_n 3, 1) := by decide +kernel
theorem dX6_bit_15 : decode cX6_bit 15 = .ok (.invokestatic 116, 3) := by decide +kernel
theorem dX6_bit_18 : decode cX6_bit 18 = .ok (.ifCond .eq 7, 3) := by decide +kernel
theorem dX6_bit_21 : decode cX6_bit 21 = .ok (.iconst 1, 1) := by decide +kernel
theorem dX6_bit_22 : decode cX6_bit 22 = .ok (.goto 4, 3) := by decide +kernel
theorem dX6_bit_25 : decode cX6_bit 25 = .ok (.iconst 0, 1) := by decide +kernel
theorem dX6_bit_26 : decode cX6_bit 26 = .ok (.ireturn, 1) := by decide +kernel
theorem dX6_row_0 : decode cX6_row 0 = .ok (.aload_n 0, 1) := by decide +kernel
theorem dX6_row_1 : decode cX6_row 1 = .ok (.iload_n 1, 1) := by decide +kernel
theorem dX6_row_2 : decode cX6_row 2 = .ok (.iload_n 2, 1) := by decide +kernel
theorem dX6_row_3 : decode cX6_row 3 = .ok (.invokevirtual 120, 3) := by decide +kernel
theorem dX6_row_6 : decode cX6_row 6 = .ok (.aload_n 0, 1) := by decide +kernel
theorem dX6_row_7 : decode cX6_row 7 = .ok (.iload_n 1, 1) := by decide +kernel
theorem dX6_row_8 : decode cX6_row 8 = .ok (.invokevirtual 112, 3) := by decide +kernel
theorem dX6_row_11 : decode cX6_row 11 = .ok (.iload_n 2, 1) := by decide +kernel
theorem dX6_row_12 : decode cX6_row 12 = .ok (.iaload, 1) := by decide +kernel
theorem dX6_row_13 : decode cX6_row 13 = .ok (.invokestatic 124, 3) := by decide +kernel
theorem dX6_row_16 : decode cX6_row 16 = .ok (.lreturn, 1) := by decide +kernel
theorem dX6_rank_0 : decode cX6_rank 0 = .ok (.aload_n 0, 1) := by decide +kernel
theorem dX6_rank_1 : decode cX6_rank 1 = .ok (.iload_n 1, 1) := by decide +kernel
theorem dX6_rank_2 : decode cX6_rank 2 = .ok (.iload_n 2, 1) := by decide +kernel
theorem dX6_rank_3 : decode cX6_rank 3 = .ok (.invokevirtual 120, 3) := by decide +kernel
theorem dX6_rank_6 : decode cX6_rank 6 = .ok (.aload_n 0, 1) := by decide +kernel
theorem dX6_rank_7 : decode cX6_rank 7 = .ok (.iload_n 3, 1) := by decide +kernel
theorem dX6_rank_8 : decode cX6_rank 8 = .ok (.iconst 0, 1) := by decide +kernel
theorem dX6_rank_9 : decode cX6_rank 9 = .ok (.aload_n 0, 1) := by decide +kernel
theorem dX6_rank_10 : decode cX6_rank 10 = .ok (.getfield 19, 3) := by decide +kernel
theorem dX6_rank_13 : decode cX6_rank 13 = .ok (.getfield 89, 3) := by decide +kernel
theorem dX6_rank_16 : decode cX6_rank 16 = .ok (.invokevirtual 95, 3) := by decide +kernel
theorem dX6_rank_19 : decode cX6_rank 19 = .ok (.aload_n 0, 1) := by decide +kernel
theorem dX6_rank_20 : decode cX6_rank 20 = .ok (.iload_n 1, 1) := by decide +kernel
theorem dX6_rank_21 : decode cX6_rank 21 = .ok (.invokevirtual 112, 3) := by decide +kernel
theorem dX6_rank_24 : decode cX6_rank 24 = .ok (.iload_n 2, 1) := by decide +kernel
theorem dX6_rank_25 : decode cX6_rank 25 = .ok (.iaload, 1) := by decide +kernel
theorem dX6_rank_26 : decode cX6_rank 26 = .ok (.iload_n 3, 1) := by decide +kernel
theorem dX6_rank_27 : decode cX6_rank 27 = .ok (.invokestatic 128, 3) := by decide +kernel
theorem dX6_rank_30 : decode cX6_rank 30 = .ok (.iand, 1) := by decide +kernel
theorem dX6_rank_31 : decode cX6_rank 31 = .ok (.invokestatic 132, 3) := by decide +kernel
theorem dX6_rank_34 : decode cX6_rank 34 = .ok (.ireturn, 1) := by decide +kernel
theorem dX6_select_0 : decode cX6_select 0 = .ok (.aload_n 0, 1) := by decide +kernel
theorem dX6_select_1 : decode cX6_select 1 = .ok (.iload_n 1, 1) := by decide +kernel
theorem dX6_select_2 : decode cX6_select 2 = .ok (.iload_n 2, 1) := by decide +kernel
theorem dX6_select_3 : decode cX6_select 3 = .ok (.invokevirtual 120, 3) := by decide +kernel
theorem dX6_select_6 : decode cX6_select 6 = .ok (.aload_n 0, 1) := by decide +kernel
theorem dX6_select_7 : decode cX6_select 7 = .ok (.iload_n 1, 1) := by decide +kernel
theorem dX6_select_8 : decode cX6_select 8 = .ok (.invokevirtual 112, 3) := by decide +kernel
theorem dX6_select_11 : decode cX6_select 11 = .ok (.iload_n 2, 1) := by decide +kernel
theorem dX6_select_12 : decode cX6_select 12 = .ok (.iaload, 1) := by decide +kernel
theorem dX6_select_13 : decode cX6_select 13 = .ok (.iload_n 3, 1) := by decide +kernel
theorem dX6_select_14 : decode cX6_select 14 = .ok (.invokestatic 137, 3) := by decide +kernel
theorem dX6_select_17 : decode cX6_select 17 = .ok (.ireturn, 1) := by decide +kernel
theorem dX6_ones_0 : decode cX6_ones 0 = .ok (.aload_n 0, 1) := by decide +kernel
theorem dX6_ones_1 : decode cX6_ones 1 = .ok (.iload_n 1, 1) := by decide +kernel
theorem dX6_ones_2 : decode cX6_ones 2 = .ok (.invokevirtual 141, 3) := by decide +kernel
theorem dX6_ones_5 : decode cX6_ones 5 = .ok (.aload_n 0, 1) := by decide +kernel
theorem dX6_ones_6 : decode cX6_ones 6 = .ok (.iload_n 1, 1) := by decide +kernel
theorem dX6_ones_7 : decode cX6_ones 7 = .ok (.invokevirtual 112, 3) := by decide +kernel
theorem dX6_ones_10 : decode cX6_ones 10 = .ok (.aload_n 0, 1) := by decide +kernel
theorem dX6_ones_11 : decode cX6_ones 11 = .ok (.getfield 19, 3) := by decide +kernel
theorem dX6_ones_14 : decode cX6_ones 14 = .ok (.getfield 89, 3) := by decide +kernel
theorem dX6_ones_17 : decode cX6_ones 17 = .ok (.invokestatic 145, 3) := by decide +kernel
theorem dX6_ones_20 : decode cX6_ones 20 = .ok (.ireturn, 1) := by decide +kernel
theorem dX6_columnOnes_0 : decode cX6_columnOnes 0 = .ok (.aload_n 0, 1) := by decide +kernel
theorem dX6_columnOnes_1 : decode cX6_columnOnes 1 = .ok (.iload_n 1, 1) := by decide +kernel
theorem dX6_columnOnes_2 : decode cX6_columnOnes 2 = .ok (.iload_n 2, 1) := by decide +kernel
theorem dX6_columnOnes_3 : decode cX6_columnOnes 3 = .ok (.invokevirtual 120, 3) := by decide +kernel
theorem dX6_columnOnes_6 : decode cX6_columnOnes 6 = .ok (.aload_n 0, 1) := by decide +kernel
theorem dX6_columnOnes_7 : decode cX6_columnOnes 7 = .ok (.iload_n 1, 1) := by decide +kernel
theorem dX6_columnOnes_8 : decode cX6_columnOnes 8 = .ok (.invokevirtual 112, 3) := by decide +kernel
theorem dX6_columnOnes_11 : decode cX6_columnOnes 11 = .ok (.iload_n 2, 1) := by decide +kernel
theorem dX6_columnOnes_12 : decode cX6_columnOnes 12 = .ok (.aload_n 0, 1) := by decide +kernel
theorem dX6_columnOnes_13 : decode cX6_columnOnes 13 = .ok (.getfield 19, 3) := by decide +kernel
theorem dX6_columnOnes_16 : decode cX6_columnOnes 16 = .ok (.getfield 89, 3) := by decide +kernel
theorem dX6_columnOnes_19 : decode cX6_columnOnes 19 = .ok (.invokestatic 149, 3) := by decide +kernel
theorem dX6_columnOnes_22 : decode cX6_columnOnes 22 = .ok (.invokestatic 132, 3) := by decide +kernel
theorem dX6_columnOnes_25 : decode cX6_columnOnes 25 = .ok (.ireturn, 1) := by decide +kernel
theorem dX6_sameAs_0 : decode cX6_sameAs 0 = .ok (.aload_n 0, 1) := by decide +kernel
theorem dX6_sameAs_1 : decode cX6_sameAs 1 = .ok (.iload_n 1, 1) := by decide +kernel
theorem dX6_sameAs_2 : decode cX6_sameAs 2 = .ok (.iload_n 2, 1) := by decide +kernel
theorem dX6_sameAs_3 : decode cX6_sameAs 3 = .ok (.invokevirtual 120, 3) := by decide +kernel
theorem dX6_sameAs_6 : decode cX6_sameAs 6 = .ok (.aload_n 0, 1) := by decide +kernel
theorem dX6_sameAs_7 : decode cX6_sameAs 7 = .ok (.aload_n 0, 1) := by decide +kernel
theorem dX6_sameAs_8 : decode cX6_sameAs 8 = .ok (.iload_n 1, 1) := by decide +kernel
theorem dX6_sameAs_9 : decode cX6_sameAs 9 = .ok (.invokevirtual 112, 3) := by decide +kernel
theorem dX6_sameAs_12 : decode cX6_sameAs 12 = .ok (.aload_n 0, 1) := by decide +kernel
theorem dX6_sameAs_13 : decode cX6_sameAs 13 = .ok (.iload_n 1, 1) := by decide +kernel
theorem dX6_sameAs_14 : decode cX6_sameAs 14 = .ok (.invokevirtual 112, 3) := by decide +kernel
theorem dX6_sameAs_17 : decode cX6_sameAs 17 = .ok (.iload_n 2, 1) := by decide +kernel
theorem dX6_sameAs_18 : decode cX6_sameAs 18 = .ok (.iaload, 1) := by decide +kernel
theorem dX6_sameAs_19 : decode cX6_sameAs 19 = .ok (.invokevirtual 153, 3) := by decide +kernel
theorem dX6_sameAs_22 : decode cX6_sameAs 22 = .ok (.ireturn, 1) := by decide +kernel
theorem dX6_classes_0 : decode cX6_classes 0 = .ok (.aload_n 0, 1) := by decide +kernel
theorem dX6_classes_1 : decode cX6_classes 1 = .ok (.iload_n 1, 1) := by decide +kernel
theorem dX6_classes_2 : decode cX6_classes 2 = .ok (.invokevirtual 141, 3) := by decide +kernel
theorem dX6_classes_5 : decode cX6_classes 5 = .ok (.aload_n 0, 1) := by decide +kernel
theorem dX6_classes_6 : decode cX6_classes 6 = .ok (.aload_n 0, 1) := by decide +kernel
theorem dX6_classes_7 : decode cX6_classes 7 = .ok (.iload_n 1, 1) := by decide +kernel
theorem dX6_classes_8 : decode cX6_classes 8 = .ok (.invokevirtual 112, 3) := by decide +kernel
theorem dX6_classes_11 : decode cX6_classes 11 = .ok (.aload_n 0, 1) := by decide +kernel
theorem dX6_classes_12 : decode cX6_classes 12 = .ok (.getfield 19, 3) := by decide +kernel
theorem dX6_classes_15 : decode cX6_classes 15 = .ok (.getfield 89, 3) := by decide +kernel
theorem dX6_classes_18 : decode cX6_classes 18 = .ok (.invokevirtual 156, 3) := by decide +kernel
theorem dX6_classes_21 : decode cX6_classes 21 = .ok (.ireturn, 1) := by decide +kernel
theorem dX6_classOf_0 : decode cX6_classOf 0 = .ok (.aload_n 0, 1) := by decide +kernel
theorem dX6_classOf_1 : decode cX6_classOf 1 = .ok (.iload_n 1, 1) := by decide +kernel
theorem dX6_classOf_2 : decode cX6_classOf 2 = .ok (.iload_n 2, 1) := by decide +kernel
theorem dX6_classOf_3 : decode cX6_classOf 3 = .ok (.invokevirtual 120, 3) := by decide +kernel
theorem dX6_classOf_6 : decode cX6_classOf 6 = .ok (.aload_n 0, 1) := by decide +kernel
theorem dX6_classOf_7 : decode cX6_classOf 7 = .ok (.iload_n 1, 1) := by decide +kernel
theorem dX6_classOf_8 : decode cX6_classOf 8 = .ok (.invokevirtual 112, 3) := by decide +kernel
theorem dX6_classOf_11 : decode cX6_classOf 11 = .ok (.astore_n 3, 1) := by decide +kernel
theorem dX6_classOf_12 : decode cX6_classOf 12 = .ok (.aload_n 0, 1) := by decide +kernel
theorem dX6_classOf_13 : decode cX6_classOf 13 = .ok (.aload_n 3, 1) := by decide +kernel
theorem dX6_classOf_14 : decode cX6_classOf 14 = .ok (.aload_n 0, 1) := by decide +kernel
theorem dX6_classOf_15 : decode cX6_classOf 15 = .ok (.aload_n 3, 1) := by decide +kernel
theorem dX6_classOf_16 : decode cX6_classOf 16 = .ok (.aload_n 3, 1) := by decide +kernel
theorem dX6_classOf_17 : decode cX6_classOf 17 = .ok (.iload_n 2, 1) := by decide +kernel
theorem dX6_classOf_18 : decode cX6_classOf 18 = .ok (.iaload, 1) := by decide +kernel
theorem dX6_classOf_19 : decode cX6_classOf 19 = .ok (.invokevirtual 153, 3) := by decide +kernel
theorem dX6_classOf_22 : decode cX6_classOf 22 = .ok (.invokevirtual 156, 3) := by decide +kernel
theorem dX6_classOf_25 : decode cX6_classOf 25 = .ok (.ireturn, 1) := by decide +kernel
theorem dX6_find_0 : decode cX6_find 0 = .ok (.aload_n 0, 1) := by decide +kernel
theorem dX6_find_1 : decode cX6_find 1 = .ok (.iload_n 1, 1) := by decide +kernel
theorem dX6_find_2 : decode cX6_find 2 = .ok (.invokevirtual 141, 3) := by decide +kernel
theorem dX6_find_5 : decode cX6_find 5 = .ok (.aload_n 0, 1) := by decide +kernel
theorem dX6_find_6 : decode cX6_find 6 = .ok (.aload_n 0, 1) := by decide +kernel
theorem dX6_find_7 : decode cX6_find 7 = .ok (.iload_n 1, 1) := by decide +kernel
theorem dX6_find_8 : decode cX6_find 8 = .ok (.invokevirtual 112, 3) := by decide +kernel
theorem dX6_find_11 : decode cX6_find 11 = .ok (.lload_n 2, 1) := by decide +kernel
theorem dX6_find_12 : decode cX6_find 12 = .ok (.l2i, 1) := by decide +kernel
theorem dX6_find_13 : decode cX6_find 13 = .ok (.aload_n 0, 1) := by decide +kernel
theorem dX6_find_14 : decode cX6_find 14 = .ok (.getfield 19, 3) := by decide +kernel
theorem dX6_find_17 : decode cX6_find 17 = .ok (.getfield 89, 3) := by decide +kernel
theorem dX6_find_20 : decode cX6_find 20 = .ok (.invokestatic 128, 3) := by decide +kernel
theorem dX6_find_23 : decode cX6_find 23 = .ok (.iand, 1) := by decide +kernel
theorem dX6_find_24 : decode cX6_find 24 = .ok (.invokevirtual 153, 3) := by decide +kernel
theorem dX6_find_27 : decode cX6_find 27 = .ok (.ireturn, 1) := by decide +kernel
theorem dX6_nearest_0 : decode cX6_nearest 0 = .ok (.aload_n 0, 1) := by decide +kernel
theorem dX6_nearest_1 : decode cX6_nearest 1 = .ok (.iload_n 1, 1) := by decide +kernel
theorem dX6_nearest_2 : decode cX6_nearest 2 = .ok (.iload_n 2, 1) := by decide +kernel
theorem dX6_nearest_3 : decode cX6_nearest 3 = .ok (.invokevirtual 120, 3) := by decide +kernel
theorem dX6_nearest_6 : decode cX6_nearest 6 = .ok (.aload_n 0, 1) := by decide +kernel
theorem dX6_nearest_7 : decode cX6_nearest 7 = .ok (.iload_n 1, 1) := by decide +kernel
theorem dX6_nearest_8 : decode cX6_nearest 8 = .ok (.invokevirtual 112, 3) := by decide +kernel
theorem dX6_nearest_11 : decode cX6_nearest 11 = .ok (.astore_n 3, 1) := by decide +kernel
theorem dX6_nearest_12 : decode cX6_nearest 12 = .ok (.iconst (-1), 1) := by decide +kernel
theorem dX6_nearest_13 : decode cX6_nearest 13 = .ok (.istore 4, 2) := by decide +kernel
theorem dX6_nearest_15 : decode cX6_nearest 15 = .ok (.bipush 33, 2) := by decide +kernel
theorem dX6_nearest_17 : decode cX6_nearest 17 = .ok (.istore 5, 2) := by decide +kernel
theorem dX6_nearest_19 : decode cX6_nearest 19 = .ok (.iconst 0, 1) := by decide +kernel
theorem dX6_nearest_20 : decode cX6_nearest 20 = .ok (.istore 6, 2) := by decide +kernel
theorem dX6_nearest_22 : decode cX6_nearest 22 = .ok (.iload 6, 2) := by decide +kernel
theorem dX6_nearest_24 : decode cX6_nearest 24 = .ok (.aload_n 0, 1) := by decide +kernel
theorem dX6_nearest_25 : decode cX6_nearest 25 = .ok (.getfield 19, 3) := by decide +kernel
theorem dX6_nearest_28 : decode cX6_nearest 28 = .ok (.getfield 89, 3) := by decide +kernel
theorem dX6_nearest_31 : decode cX6_nearest 31 = .ok (.if_icmp .ge 43, 3) := by decide +kernel
theorem dX6_nearest_34 : decode cX6_nearest 34 = .ok (.aload_n 3, 1) := by decide +kernel
theorem dX6_nearest_35 : decode cX6_nearest 35 = .ok (.iload 6, 2) := by decide +kernel
theorem dX6_nearest_37 : decode cX6_nearest 37 = .ok (.iaload, 1) := by decide +kernel
theorem dX6_nearest_38 : decode cX6_nearest 38 = .ok (.aload_n 3, 1) := by decide +kernel
theorem dX6_nearest_39 : decode cX6_nearest 39 = .ok (.iload_n 2, 1) := by decide +kernel
theorem dX6_nearest_40 : decode cX6_nearest 40 = .ok (.iaload, 1) := by decide +kernel
theorem dX6_nearest_41 : decode cX6_nearest 41 = .ok (.ixor, 1) := by decide +kernel
theorem dX6_nearest_42 : decode cX6_nearest 42 = .ok (.invokestatic 132, 3) := by decide +kernel
theorem dX6_nearest_45 : decode cX6_nearest 45 = .ok (.istore 7, 2) := by decide +kernel
theorem dX6_nearest_47 : decode cX6_nearest 47 = .ok (.iload 6, 2) := by decide +kernel
theorem dX6_nearest_49 : decode cX6_nearest 49 = .ok (.iload_n 2, 1) := by decide +kernel
theorem dX6_nearest_50 : decode cX6_nearest 50 = .ok (.if_icmp .eq 18, 3) := by decide +kernel
theorem dX6_nearest_53 : decode cX6_nearest 53 = .ok (.iload 7, 2) := by decide +kernel
theorem dX6_nearest_55 : decode cX6_nearest 55 = .ok (.iload 5, 2) := by decide +kernel
theorem dX6_nearest_57 : decode cX6_nearest 57 = .ok (.if_icmp .ge 11, 3) := by decide +kernel
theorem dX6_nearest_60 : decode cX6_nearest 60 = .ok (.iload 6, 2) := by decide +kernel
theorem dX6_nearest_62 : decode cX6_nearest 62 = .ok (.istore 4, 2) := by decide +kernel
theorem dX6_nearest_64 : decode cX6_nearest 64 = .ok (.iload 7, 2) := by decide +kernel
theorem dX6_nearest_66 : decode cX6_nearest 66 = .ok (.istore 5, 2) := by decide +kernel
theorem dX6_nearest_68 : decode cX6_nearest 68 = .ok (.iinc 6 1, 3) := by decide +kernel
theorem dX6_nearest_71 : decode cX6_nearest 71 = .ok (.goto (-49), 3) := by decide +kernel
theorem dX6_nearest_74 : decode cX6_nearest 74 = .ok (.iload 4, 2) := by decide +kernel
theorem dX6_nearest_76 : decode cX6_nearest 76 = .ok (.ireturn, 1) := by decide +kernel
theorem dX6_density_0 : decode cX6_density 0 = .ok (.aload_n 0, 1) := by decide +kernel
theorem dX6_density_1 : decode cX6_density 1 = .ok (.iload_n 1, 1) := by decide +kernel
theorem dX6_density_2 : decode cX6_density 2 = .ok (.invokevirtual 159, 3) := by decide +kernel
theorem dX6_density_5 : decode cX6_density 5 = .ok (.i2d, 1) := by decide +kernel
theorem dX6_density_6 : decode cX6_density 6 = .ok (.aload_n 0, 1) := by decide +kernel
theorem dX6_density_7 : decode cX6_density 7 = .ok (.getfield 19, 3) := by decide +kernel
theorem dX6_density_10 : decode cX6_density 10 = .ok (.getfield 89, 3) := by decide +kernel
theorem dX6_density_13 : decode cX6_density 13 = .ok (.aload_n 0, 1) := by decide +kernel
theorem dX6_density_14 : decode cX6_density 14 = .ok (.getfield 19, 3) := by decide +kernel
theorem dX6_density_17 : decode cX6_density 17 = .ok (.getfield 89, 3) := by decide +kernel
theorem dX6_density_20 : decode cX6_density 20 = .ok (.imul, 1) := by decide +kernel
theorem dX6_density_21 : decode cX6_density 21 = .ok (.i2d, 1) := by decide +kernel
theorem dX6_density_22 : decode cX6_density 22 = .ok (.ddiv, 1) := by decide +kernel
theorem dX6_density_23 : decode cX6_density 23 = .ok (.dreturn, 1) := by decide +kernel
theorem dX6_isSymmetric_0 : decode cX6_isSymmetric 0 = .ok (.aload_n 0, 1) := by decide +kernel
theorem dX6_isSymmetric_1 : decode cX6_isSymmetric 1 = .ok (.iload_n 1, 1) := by decide +kernel
theorem dX6_isSymmetric_2 : decode cX6_isSymmetric 2 = .ok (.invokevirtual 141, 3) := by decide +kernel
theorem dX6_isSymmetric_5 : decode cX6_isSymmetric 5 = .ok (.aload_n 0, 1) := by decide +kernel
theorem dX6_isSymmetric_6 : decode cX6_isSymmetric 6 = .ok (.iload_n 1, 1) := by decide +kernel
theorem dX6_isSymmetric_7 : decode cX6_isSymmetric 7 = .ok (.invokevirtual 112, 3) := by decide +kernel
theorem dX6_isSymmetric_10 : decode cX6_isSymmetric 10 = .ok (.astore_n 2, 1) := by decide +kernel
theorem dX6_isSymmetric_11 : decode cX6_isSymmetric 11 = .ok (.iconst 0, 1) := by decide +kernel
theorem dX6_isSymmetric_12 : decode cX6_isSymmetric 12 = .ok (.istore_n 3, 1) := by decide +kernel
theorem dX6_isSymmetric_13 : decode cX6_isSymmetric 13 = .ok (.iload_n 3, 1) := by decide +kernel
theorem dX6_isSymmetric_14 : decode cX6_isSymmetric 14 = .ok (.aload_n 0, 1) := by decide +kernel
theorem dX6_isSymmetric_15 : decode cX6_isSymmetric 15 = .ok (.getfield 19, 3) := by decide +kernel
theorem dX6_isSymmetric_18 : decode cX6_isSymmetric 18 = .ok (.getfield 89, 3) := by decide +kernel
theorem dX6_isSymmetric_21 : decode cX6_isSymmetric 21 = .ok (.if_icmp .ge 29, 3) := by decide +kernel
theorem dX6_isSymmetric_24 : decode cX6_isSymmetric 24 = .ok (.aload_n 2, 1) := by decide +kernel
theorem dX6_isSymmetric_25 : decode cX6_isSymmetric 25 = .ok (.iload_n 3, 1) := by decide +kernel
theorem dX6_isSymmetric_26 : decode cX6_isSymmetric 26 = .ok (.iaload, 1) := by decide +kernel
theorem dX6_isSymmetric_27 : decode cX6_isSymmetric 27 = .ok (.aload_n 2, 1) := by decide +kernel
theorem dX6_isSymmetric_28 : decode cX6_isSymmetric 28 = .ok (.iload_n 3, 1) := by decide +kernel
theorem dX6_isSymmetric_29 : decode cX6_isSymmetric 29 = .ok (.aload_n 0, 1) := by decide +kernel
theorem dX6_isSymmetric_30 : decode cX6_isSymmetric 30 = .ok (.getfield 19, 3) := by decide +kernel
theorem dX6_isSymmetric_33 : decode cX6_isSymmetric 33 = .ok (.getfield 89, 3) := by decide +kernel
theorem dX6_isSymmetric_36 : decode cX6_isSymmetric 36 = .ok (.invokestatic 149, 3) := by decide +kernel
theorem dX6_isSymmetric_39 : decode cX6_isSymmetric 39 = .ok (.if_icmp .eq 5, 3) := by decide +kernel
theorem dX6_isSymmetric_42 : decode cX6_isSymmetric 42 = .ok (.iconst 0, 1) := by decide +kernel
theorem dX6_isSymmetric_43 : decode cX6_isSymmetric 43 = .ok (.ireturn, 1) := by decide +kernel
theorem dX6_isSymmetric_44 : decode cX6_isSymmetric 44 = .ok (.iinc 3 1, 3) := by decide +kernel
theorem dX6_isSymmetric_47 : decode cX6_isSymmetric 47 = .ok (.goto (-34), 3) := by decide +kernel
theorem dX6_isSymmetric_50 : decode cX6_isSymmetric 50 = .ok (.iconst 1, 1) := by decide +kernel
theorem dX6_isSymmetric_51 : decode cX6_isSymmetric 51 = .ok (.ireturn, 1) := by decide +kernel
theorem dX6_reaches_0 : decode cX6_reaches 0 = .ok (.aload_n 0, 1) := by decide +kernel
theorem dX6_reaches_1 : decode cX6_reaches 1 = .ok (.iload_n 1, 1) := by decide +kernel
theorem dX6_reaches_2 : decode cX6_reaches 2 = .ok (.iload_n 2, 1) := by decide +kernel
theorem dX6_reaches_3 : decode cX6_reaches 3 = .ok (.iload_n 3, 1) := by decide +kernel
theorem dX6_reaches_4 : decode cX6_reaches 4 = .ok (.invokevirtual 109, 3) := by decide +kernel
theorem dX6_reaches_7 : decode cX6_reaches 7 = .ok (.aload_n 0, 1) := by decide +kernel
theorem dX6_reaches_8 : decode cX6_reaches 8 = .ok (.iload_n 1, 1) := by decide +kernel
theorem dX6_reaches_9 : decode cX6_reaches 9 = .ok (.invokevirtual 162, 3) := by decide +kernel
theorem dX6_reaches_12 : decode cX6_reaches 12 = .ok (.getfield 166, 3) := by decide +kernel
theorem dX6_reaches_15 : decode cX6_reaches 15 = .ok (.iload_n 2, 1) := by decide +kernel
theorem dX6_reaches_16 : decode cX6_reaches 16 = .ok (.iaload, 1) := by decide +kernel
theorem dX6_reaches_17 : decode cX6_reaches 17 = .ok (.iload_n 3, 1) := by decide +kernel
theorem dX6_reaches_18 : decode cX6_reaches 18 = .ok (.invokestatic 116, 3) := by decide +kernel
theorem dX6_reaches_21 : decode cX6_reaches 21 = .ok (.ifCond .eq 7, 3) := by decide +kernel
theorem dX6_reaches_24 : decode cX6_reaches 24 = .ok (.iconst 1, 1) := by decide +kernel
theorem dX6_reaches_25 : decode cX6_reaches 25 = .ok (.goto 4, 3) := by decide +kernel
theorem dX6_reaches_28 : decode cX6_reaches 28 = .ok (.iconst 0, 1) := by decide +kernel
theorem dX6_reaches_29 : decode cX6_reaches 29 = .ok (.ireturn, 1) := by decide +kernel
theorem dX6_reached_0 : decode cX6_reached 0 = .ok (.aload_n 0, 1) := by decide +kernel
theorem dX6_reached_1 : decode cX6_reached 1 = .ok (.iload_n 1, 1) := by decide +kernel
theorem dX6_reached_2 : decode cX6_reached 2 = .ok (.iload_n 2, 1) := by decide +kernel
theorem dX6_reached_3 : decode cX6_reached 3 = .ok (.invokevirtual 120, 3) := by decide +kernel
theorem dX6_reached_6 : decode cX6_reached 6 = .ok (.aload_n 0, 1) := by decide +kernel
theorem dX6_reached_7 : decode cX6_reached 7 = .ok (.iload_n 1, 1) := by decide +kernel
theorem dX6_reached_8 : decode cX6_reached 8 = .ok (.invokevirtual 162, 3) := by decide +kernel
theorem dX6_reached_11 : decode cX6_reached 11 = .ok (.getfield 166, 3) := by decide +kernel
theorem dX6_reached_14 : decode cX6_reached 14 = .ok (.iload_n 2, 1) := by decide +kernel
theorem dX6_reached_15 : decode cX6_reached 15 = .ok (.iaload, 1) := by decide +kernel
theorem dX6_reached_16 : decode cX6_reached 16 = .ok (.invokestatic 132, 3) := by decide +kernel
theorem dX6_reached_19 : decode cX6_reached 19 = .ok (.ireturn, 1) := by decide +kernel
theorem dX6_pairs_0 : decode cX6_pairs 0 = .ok (.aload_n 0, 1) := by decide +kernel
theorem dX6_pairs_1 : decode cX6_pairs 1 = .ok (.iload_n 1, 1) := by decide +kernel
theorem dX6_pairs_2 : decode cX6_pairs 2 = .ok (.invokevirtual 141, 3) := by decide +kernel
theorem dX6_pairs_5 : decode cX6_pairs 5 = .ok (.aload_n 0, 1) := by decide +kernel
theorem dX6_pairs_6 : decode cX6_pairs 6 = .ok (.iload_n 1, 1) := by decide +kernel
theorem dX6_pairs_7 : decode cX6_pairs 7 = .ok (.invokevirtual 162, 3) := by decide +kernel
theorem dX6_pairs_10 : decode cX6_pairs 10 = .ok (.getfield 166, 3) := by decide +kernel
theorem dX6_pairs_13 : decode cX6_pairs 13 = .ok (.aload_n 0, 1) := by decide +kernel
theorem dX6_pairs_14 : decode cX6_pairs 14 = .ok (.getfield 19, 3) := by decide +kernel
theorem dX6_pairs_17 : decode cX6_pairs 17 = .ok (.getfield 89, 3) := by decide +kernel
theorem dX6_pairs_20 : decode cX6_pairs 20 = .ok (.invokestatic 145, 3) := by decide +kernel
theorem dX6_pairs_23 : decode cX6_pairs 23 = .ok (.ireturn, 1) := by decide +kernel
theorem dX6_meanReach_0 : decode cX6_meanReach 0 = .ok (.aload_n 0, 1) := by decide +kernel
theorem dX6_meanReach_1 : decode cX6_meanReach 1 = .ok (.iload_n 1, 1) := by decide +kernel
theorem dX6_meanReach_2 : decode cX6_meanReach 2 = .ok (.invokevirtual 169, 3) := by decide +kernel
theorem dX6_meanReach_5 : decode cX6_meanReach 5 = .ok (.i2f, 1) := by decide +kernel
theorem dX6_meanReach_6 : decode cX6_meanReach 6 = .ok (.aload_n 0, 1) := by decide +kernel
theorem dX6_meanReach_7 : decode cX6_meanReach 7 = .ok (.getfield 19, 3) := by decide +kernel
theorem dX6_meanReach_10 : decode cX6_meanReach 10 = .ok (.getfield 89, 3) := by decide +kernel
theorem dX6_meanReach_13 : decode cX6_meanReach 13 = .ok (.i2f, 1) := by decide +kernel
theorem dX6_meanReach_14 : decode cX6_meanReach 14 = .ok (.fdiv, 1) := by decide +kernel
theorem dX6_meanReach_15 : decode cX6_meanReach 15 = .ok (.freturn, 1) := by decide +kernel
theorem dX6_component_0 : decode cX6_component 0 = .ok (.aload_n 0, 1) := by decide +kernel
theorem dX6_component_1 : decode cX6_component 1 = .ok (.iload_n 1, 1) := by decide +kernel
theorem dX6_component_2 : decode cX6_component 2 = .ok (.iload_n 2, 1) := by decide +kernel
theorem dX6_component_3 : decode cX6_component 3 = .ok (.invokevirtual 120, 3) := by decide +kernel
theorem dX6_component_6 : decode cX6_component 6 = .ok (.aload_n 0, 1) := by decide +kernel
theorem dX6_component_7 : decode cX6_component 7 = .ok (.iload_n 1, 1) := by decide +kernel
theorem dX6_component_8 : decode cX6_component 8 = .ok (.invokevirtual 162, 3) := by decide +kernel
theorem dX6_component_11 : decode cX6_component 11 = .ok (.iload_n 2, 1) := by decide +kernel
theorem dX6_component_12 : decode cX6_component 12 = .ok (.aload_n 0, 1) := by decide +kernel
theorem dX6_component_13 : decode cX6_component 13 = .ok (.getfield 19, 3) := by decide +kernel
theorem dX6_component_16 : decode cX6_component 16 = .ok (.getfield 89, 3) := by decide +kernel
theorem dX6_component_19 : decode cX6_component 19 = .ok (.invokevirtual 172, 3) := by decide +kernel
theorem dX6_component_22 : decode cX6_component 22 = .ok (.ireturn, 1) := by decide +kernel
theorem dX6_components_0 : decode cX6_components 0 = .ok (.aload_n 0, 1) := by decide +kernel
theorem dX6_components_1 : decode cX6_components 1 = .ok (.iload_n 1, 1) := by decide +kernel
theorem dX6_components_2 : decode cX6_components 2 = .ok (.invokevirtual 141, 3) := by decide +kernel
theorem dX6_components_5 : decode cX6_components 5 = .ok (.aload_n 0, 1) := by decide +kernel
theorem dX6_components_6 : decode cX6_components 6 = .ok (.iload_n 1, 1) := by decide +kernel
theorem dX6_components_7 : decode cX6_components 7 = .ok (.invokevirtual 162, 3) := by decide +kernel
theorem dX6_components_10 : decode cX6_components 10 = .ok (.astore_n 2, 1) := by decide +kernel
theorem dX6_components_11 : decode cX6_components 11 = .ok (.iconst 0, 1) := by decide +kernel
theorem dX6_components_12 : decode cX6_components 12 = .ok (.istore_n 3, 1) := by decide +kernel
theorem dX6_components_13 : decode cX6_components 13 = .ok (.iconst 0, 1) := by decide +kernel
theorem dX6_components_14 : decode cX6_components 14 = .ok (.istore 4, 2) := by decide +kernel
theorem dX6_components_16 : decode cX6_components 16 = .ok (.iload 4, 2) := by decide +kernel
theorem dX6_components_18 : decode cX6_components 18 = .ok (.aload_n 0, 1) := by decide +kernel
theorem dX6_components_19 : decode cX6_components 19 = .ok (.getfield 19, 3) := by decide +kernel
theorem dX6_components_22 : decode cX6_components 22 = .ok (.getfield 89, 3) := by decide +kernel
theorem dX6_components_25 : decode cX6_components 25 = .ok (.if_icmp .ge 30, 3) := by decide +kernel
theorem dX6_components_28 : decode cX6_components 28 = .ok (.aload_n 2, 1) := by decide +kernel
theorem dX6_components_29 : decode cX6_components 29 = .ok (.iload 4, 2) := by decide +kernel
theorem dX6_components_31 : decode cX6_components 31 = .ok (.aload_n 0, 1) := by decide +kernel
theorem dX6_components_32 : decode cX6_components 32 = .ok (.getfield 19, 3) := by decide +kernel
theorem dX6_components_35 : decode cX6_components 35 = .ok (.getfield 89, 3) := by decide +kernel
theorem dX6_components_38 : decode cX6_components 38 = .ok (.invokevirtual 172, 3) := by decide +kernel
theorem dX6_components_41 : decode cX6_components 41 = .ok (.iload 4, 2) := by decide +kernel
theorem dX6_components_43 : decode cX6_components 43 = .ok (.if_icmp .ne 6, 3) := by decide +kernel
theorem dX6_components_46 : decode cX6_components 46 = .ok (.iinc 3 1, 3) := by decide +kernel
theorem dX6_components_49 : decode cX6_components 49 = .ok (.iinc 4 1, 3) := by decide +kernel
theorem dX6_components_52 : decode cX6_components 52 = .ok (.goto (-36), 3) := by decide +kernel
theorem dX6_components_55 : decode cX6_components 55 = .ok (.iload_n 3, 1) := by decide +kernel
theorem dX6_components_56 : decode cX6_components 56 = .ok (.ireturn, 1) := by decide +kernel
theorem dX6_distance_0 : decode cX6_distance 0 = .ok (.aload_n 0, 1) := by decide +kernel
theorem dX6_distance_1 : decode cX6_distance 1 = .ok (.iload_n 1, 1) := by decide +kernel
theorem dX6_distance_2 : decode cX6_distance 2 = .ok (.iload_n 2, 1) := by decide +kernel
theorem dX6_distance_3 : decode cX6_distance 3 = .ok (.iload_n 3, 1) := by decide +kernel
theorem dX6_distance_4 : decode cX6_distance 4 = .ok (.invokevirtual 109, 3) := by decide +kernel
theorem dX6_distance_7 : decode cX6_distance 7 = .ok (.iload_n 2, 1) := by decide +kernel
theorem dX6_distance_8 : decode cX6_distance 8 = .ok (.iload_n 3, 1) := by decide +kernel
theorem dX6_distance_9 : decode cX6_distance 9 = .ok (.if_icmp .ne 7, 3) := by decide +kernel
theorem dX6_distance_12 : decode cX6_distance 12 = .ok (.iconst 0, 1) := by decide +kernel
theorem dX6_distance_13 : decode cX6_distance 13 = .ok (.goto 14, 3) := by decide +kernel
theorem dX6_distance_16 : decode cX6_distance 16 = .ok (.aload_n 0, 1) := by decide +kernel
theorem dX6_distance_17 : decode cX6_distance 17 = .ok (.aload_n 0, 1) := by decide +kernel
theorem dX6_distance_18 : decode cX6_distance 18 = .ok (.iload_n 1, 1) := by decide +kernel
theorem dX6_distance_19 : decode cX6_distance 19 = .ok (.invokevirtual 112, 3) := by decide +kernel
theorem dX6_distance_22 : decode cX6_distance 22 = .ok (.iload_n 2, 1) := by decide +kernel
theorem dX6_distance_23 : decode cX6_distance 23 = .ok (.iload_n 3, 1) := by decide +kernel
theorem dX6_distance_24 : decode cX6_distance 24 = .ok (.invokevirtual 175, 3) := by decide +kernel
theorem dX6_distance_27 : decode cX6_distance 27 = .ok (.ireturn, 1) := by decide +kernel
theorem dX6_stepAt_0 : decode cX6_stepAt 0 = .ok (.aload_n 0, 1) := by decide +kernel
theorem dX6_stepAt_1 : decode cX6_stepAt 1 = .ok (.iload_n 1, 1) := by decide +kernel
theorem dX6_stepAt_2 : decode cX6_stepAt 2 = .ok (.iload_n 2, 1) := by decide +kernel
theorem dX6_stepAt_3 : decode cX6_stepAt 3 = .ok (.iload_n 3, 1) := by decide +kernel
theorem dX6_stepAt_4 : decode cX6_stepAt 4 = .ok (.invokevirtual 178, 3) := by decide +kernel
theorem dX6_stepAt_7 : decode cX6_stepAt 7 = .ok (.istore 5, 2) := by decide +kernel
theorem dX6_stepAt_9 : decode cX6_stepAt 9 = .ok (.iload 4, 2) := by decide +kernel
theorem dX6_stepAt_11 : decode cX6_stepAt 11 = .ok (.ifCond .lt 10, 3) := by decide +kernel
theorem dX6_stepAt_14 : decode cX6_stepAt 14 = .ok (.iload 4, 2) := by decide +kernel
theorem dX6_stepAt_16 : decode cX6_stepAt 16 = .ok (.iload 5, 2) := by decide +kernel
theorem dX6_stepAt_18 : decode cX6_stepAt 18 = .ok (.if_icmp .le 5, 3) := by decide +kernel
theorem dX6_stepAt_21 : decode cX6_stepAt 21 = .ok (.iconst (-1), 1) := by decide +kernel
theorem dX6_stepAt_22 : decode cX6_stepAt 22 = .ok (.ireturn, 1) := by decide +kernel
theorem dX6_stepAt_23 : decode cX6_stepAt 23 = .ok (.aload_n 0, 1) := by decide +kernel
theorem dX6_stepAt_24 : decode cX6_stepAt 24 = .ok (.iload_n 1, 1) := by decide +kernel
theorem dX6_stepAt_25 : decode cX6_stepAt 25 = .ok (.invokevirtual 112, 3) := by decide +kernel
theorem dX6_stepAt_28 : decode cX6_stepAt 28 = .ok (.astore 6, 2) := by decide +kernel
theorem dX6_stepAt_30 : decode cX6_stepAt 30 = .ok (.aload_n 0, 1) := by decide +kernel
theorem dX6_stepAt_31 : decode cX6_stepAt 31 = .ok (.aload 6, 2) := by decide +kernel
theorem dX6_stepAt_33 : decode cX6_stepAt 33 = .ok (.iload_n 3, 1) := by decide +kernel
theorem dX6_stepAt_34 : decode cX6_stepAt 34 = .ok (.iload 5, 2) := by decide +kernel
theorem dX6_stepAt_36 : decode cX6_stepAt 36 = .ok (.invokevirtual 182, 3) := by decide +kernel
theorem dX6_stepAt_39 : decode cX6_stepAt 39 = .ok (.iload_n 2, 1) := by decide +kernel
theorem dX6_stepAt_40 : decode cX6_stepAt 40 = .ok (.istore 7, 2) := by decide +kernel
theorem dX6_stepAt_42 : decode cX6_stepAt 42 = .ok (.iload 5, 2) := by decide +kernel
theorem dX6_stepAt_44 : decode cX6_stepAt 44 = .ok (.iconst 1, 1) := by decide +kernel
theorem dX6_stepAt_45 : decode cX6_stepAt 45 = .ok (.isub, 1) := by decide +kernel
theorem dX6_stepAt_46 : decode cX6_stepAt 46 = .ok (.istore 8, 2) := by decide +kernel
theorem dX6_stepAt_48 : decode cX6_stepAt 48 = .ok (.iload 8, 2) := by decide +kernel
theorem dX6_stepAt_50 : decode cX6_stepAt 50 = .ok (.iload 5, 2) := by decide +kernel
theorem dX6_stepAt_52 : decode cX6_stepAt 52 = .ok (.iload 4, 2) := by decide +kernel
theorem dX6_stepAt_54 : decode cX6_stepAt 54 = .ok (.isub, 1) := by decide +kernel
theorem dX6_stepAt_55 : decode cX6_stepAt 55 = .ok (.if_icmp .lt 27, 3) := by decide +kernel
theorem dX6_stepAt_58 : decode cX6_stepAt 58 = .ok (.aload 6, 2) := by decide +kernel
theorem dX6_stepAt_60 : decode cX6_stepAt 60 = .ok (.iload 7, 2) := by decide +kernel
theorem dX6_stepAt_62 : decode cX6_stepAt 62 = .ok (.iaload, 1) := by decide +kernel
theorem dX6_stepAt_63 : decode cX6_stepAt 63 = .ok (.aload_n 0, 1) := by decide +kernel
theorem dX6_stepAt_64 : decode cX6_stepAt 64 = .ok (.getfield 62, 3) := by decide +kernel
theorem dX6_stepAt_67 : decode cX6_stepAt 67 = .ok (.iload 8, 2) := by decide +kernel
theorem dX6_stepAt_69 : decode cX6_stepAt 69 = .ok (.iaload, 1) := by decide +kernel
theorem dX6_stepAt_70 : decode cX6_stepAt 70 = .ok (.iand, 1) := by decide +kernel
theorem dX6_stepAt_71 : decode cX6_stepAt 71 = .ok (.invokestatic 186, 3) := by decide +kernel
theorem dX6_stepAt_74 : decode cX6_stepAt 74 = .ok (.istore 7, 2) := by decide +kernel
theorem dX6_stepAt_76 : decode cX6_stepAt 76 = .ok (.iinc 8 (-1), 3) := by decide +kernel
theorem dX6_stepAt_79 : decode cX6_stepAt 79 = .ok (.goto (-31), 3) := by decide +kernel
theorem dX6_stepAt_82 : decode cX6_stepAt 82 = .ok (.iload 7, 2) := by decide +kernel
theorem dX6_stepAt_84 : decode cX6_stepAt 84 = .ok (.ireturn, 1) := by decide +kernel
theorem dX6_around_0 : decode cX6_around 0 = .ok (.aload_n 0, 1) := by decide +kernel
theorem dX6_around_1 : decode cX6_around 1 = .ok (.iload_n 1, 1) := by decide +kernel
theorem dX6_around_2 : decode cX6_around 2 = .ok (.iload_n 2, 1) := by decide +kernel
theorem dX6_around_3 : decode cX6_around 3 = .ok (.invokevirtual 120, 3) := by decide +kernel
theorem dX6_around_6 : decode cX6_around 6 = .ok (.aload_n 0, 1) := by decide +kernel
theorem dX6_around_7 : decode cX6_around 7 = .ok (.aload_n 0, 1) := by decide +kernel
theorem dX6_around_8 : decode cX6_around 8 = .ok (.iload_n 1, 1) := by decide +kernel
theorem dX6_around_9 : decode cX6_around 9 = .ok (.invokevirtual 112, 3) := by decide +kernel
theorem dX6_around_12 : decode cX6_around 12 = .ok (.iload_n 2, 1) := by decide +kernel
theorem dX6_around_13 : decode cX6_around 13 = .ok (.iload_n 2, 1) := by decide +kernel
theorem dX6_around_14 : decode cX6_around 14 = .ok (.invokevirtual 175, 3) := by decide +kernel
theorem dX6_around_17 : decode cX6_around 17 = .ok (.ireturn, 1) := by decide +kernel
theorem dX6_girth_0 : decode cX6_girth 0 = .ok (.aload_n 0, 1) := by decide +kernel
theorem dX6_girth_1 : decode cX6_girth 1 = .ok (.iload_n 1, 1) := by decide +kernel
theorem dX6_girth_2 : decode cX6_girth 2 = .ok (.invokevirtual 141, 3) := by decide +kernel
theorem dX6_girth_5 : decode cX6_girth 5 = .ok (.iconst (-1), 1) := by decide +kernel
theorem dX6_girth_6 : decode cX6_girth 6 = .ok (.istore_n 2, 1) := by decide +kernel
theorem dX6_girth_7 : decode cX6_girth 7 = .ok (.iconst 0, 1) := by decide +kernel
theorem dX6_girth_8 : decode cX6_girth 8 = .ok (.istore_n 3, 1) := by decide +kernel
theorem dX6_girth_9 : decode cX6_girth 9 = .ok (.iload_n 3, 1) := by decide +kernel
theorem dX6_girth_10 : decode cX6_girth 10 = .ok (.aload_n 0, 1) := by decide +kernel
theorem dX6_girth_11 : decode cX6_girth 11 = .ok (.getfield 19, 3) := by decide +kernel
theorem dX6_girth_14 : decode cX6_girth 14 = .ok (.getfield 89, 3) := by decide +kernel
theorem dX6_girth_17 : decode cX6_girth 17 = .ok (.if_icmp .ge 42, 3) := by decide +kernel
theorem dX6_girth_20 : decode cX6_girth 20 = .ok (.aload_n 0, 1) := by decide +kernel
theorem dX6_girth_21 : decode cX6_girth 21 = .ok (.aload_n 0, 1) := by decide +kernel
theorem dX6_girth_22 : decode cX6_girth 22 = .ok (.iload_n 1, 1) := by decide +kernel
theorem dX6_girth_23 : decode cX6_girth 23 = .ok (.invokevirtual 112, 3) := by decide +kernel
theorem dX6_girth_26 : decode cX6_girth 26 = .ok (.iload_n 3, 1) := by decide +kernel
theorem dX6_girth_27 : decode cX6_girth 27 = .ok (.iload_n 3, 1) := by decide +kernel
theorem dX6_girth_28 : decode cX6_girth 28 = .ok (.invokevirtual 175, 3) := by decide +kernel
theorem dX6_girth_31 : decode cX6_girth 31 = .ok (.istore 4, 2) := by decide +kernel
theorem dX6_girth_33 : decode cX6_girth 33 = .ok (.iload 4, 2) := by decide +kernel
theorem dX6_girth_35 : decode cX6_girth 35 = .ok (.iconst (-1), 1) := by decide +kernel
theorem dX6_girth_36 : decode cX6_girth 36 = .ok (.if_icmp .eq 17, 3) := by decide +kernel
theorem dX6_girth_39 : decode cX6_girth 39 = .ok (.iload_n 2, 1) := by decide +kernel
theorem dX6_girth_40 : decode cX6_girth 40 = .ok (.iconst (-1), 1) := by decide +kernel
theorem dX6_girth_41 : decode cX6_girth 41 = .ok (.if_icmp .eq 9, 3) := by decide +kernel
theorem dX6_girth_44 : decode cX6_girth 44 = .ok (.iload 4, 2) := by decide +kernel
theorem dX6_girth_46 : decode cX6_girth 46 = .ok (.iload_n 2, 1) := by decide +kernel
theorem dX6_girth_47 : decode cX6_girth 47 = .ok (.if_icmp .ge 6, 3) := by decide +kernel
theorem dX6_girth_50 : decode cX6_girth 50 = .ok (.iload 4, 2) := by decide +kernel
theorem dX6_girth_52 : decode cX6_girth 52 = .ok (.istore_n 2, 1) := by decide +kernel
theorem dX6_girth_53 : decode cX6_girth 53 = .ok (.iinc 3 1, 3) := by decide +kernel
theorem dX6_girth_56 : decode cX6_girth 56 = .ok (.goto (-47), 3) := by decide +kernel
theorem dX6_girth_59 : decode cX6_girth 59 = .ok (.iload_n 2, 1) := by decide +kernel
theorem dX6_girth_60 : decode cX6_girth 60 = .ok (.ireturn, 1) := by decide +kernel
theorem dX6_order_0 : decode cX6_order 0 = .ok (.aload_n 0, 1) := by decide +kernel
theorem dX6_order_1 : decode cX6_order 1 = .ok (.iload_n 1, 1) := by decide +kernel
theorem dX6_order_2 : decode cX6_order 2 = .ok (.invokevirtual 141, 3) := by decide +kernel
theorem dX6_order_5 : decode cX6_order 5 = .ok (.aload_n 0, 1) := by decide +kernel
theorem dX6_order_6 : decode cX6_order 6 = .ok (.getfield 19, 3) := by decide +kernel
theorem dX6_order_9 : decode cX6_order 9 = .ok (.getfield 89, 3) := by decide +kernel
theorem dX6_order_12 : decode cX6_order 12 = .ok (.invokestatic 128, 3) := by decide +kernel
theorem dX6_order_15 : decode cX6_order 15 = .ok (.istore_n 3, 1) := by decide +kernel
theorem dX6_order_16 : decode cX6_order 16 = .ok (.iconst 0, 1) := by decide +kernel
theorem dX6_order_17 : decode cX6_order 17 = .ok (.istore 4, 2) := by decide +kernel
theorem dX6_order_19 : decode cX6_order 19 = .ok (.iload 4, 2) := by decide +kernel
theorem dX6_order_21 : decode cX6_order 21 = .ok (.aload_n 0, 1) := by decide +kernel
theorem dX6_order_22 : decode cX6_order 22 = .ok (.getfield 19, 3) := by decide +kernel
theorem dX6_order_25 : decode cX6_order 25 = .ok (.getfield 89, 3) := by decide +kernel
theorem dX6_order_28 : decode cX6_order 28 = .ok (.if_icmp .ge 57, 3) := by decide +kernel
theorem dX6_order_31 : decode cX6_order 31 = .ok (.iload_n 3, 1) := by decide +kernel
theorem dX6_order_32 : decode cX6_order 32 = .ok (.aload_n 0, 1) := by decide +kernel
theorem dX6_order_33 : decode cX6_order 33 = .ok (.aload_n 0, 1) := by decide +kernel
theorem dX6_order_34 : decode cX6_order 34 = .ok (.iload_n 1, 1) := by decide +kernel
theorem dX6_order_35 : decode cX6_order 35 = .ok (.invokevirtual 112, 3) := by decide +kernel
theorem dX6_order_38 : decode cX6_order 38 = .ok (.iload_n 3, 1) := by decide +kernel
theorem dX6_order_39 : decode cX6_order 39 = .ok (.invokevirtual 189, 3) := by decide +kernel
theorem dX6_order_42 : decode cX6_order 42 = .ok (.iconst (-1), 1) := by decide +kernel
theorem dX6_order_43 : decode cX6_order 43 = .ok (.ixor, 1) := by decide +kernel
theorem dX6_order_44 : decode cX6_order 44 = .ok (.iand, 1) := by decide +kernel
theorem dX6_order_45 : decode cX6_order 45 = .ok (.istore 5, 2) := by decide +kernel
theorem dX6_order_47 : decode cX6_order 47 = .ok (.iload 5, 2) := by decide +kernel
theorem dX6_order_49 : decode cX6_order 49 = .ok (.ifCond .ne 5, 3) := by decide +kernel
theorem dX6_order_52 : decode cX6_order 52 = .ok (.iconst (-1), 1) := by decide +kernel
theorem dX6_order_53 : decode cX6_order 53 = .ok (.ireturn, 1) := by decide +kernel
theorem dX6_order_54 : decode cX6_order 54 = .ok (.iload 5, 2) := by decide +kernel
theorem dX6_order_56 : decode cX6_order 56 = .ok (.invokestatic 186, 3) := by decide +kernel
theorem dX6_order_59 : decode cX6_order 59 = .ok (.istore 6, 2) := by decide +kernel
theorem dX6_order_61 : decode cX6_order 61 = .ok (.iload 4, 2) := by decide +kernel
theorem dX6_order_63 : decode cX6_order 63 = .ok (.iload_n 2, 1) := by decide +kernel
theorem dX6_order_64 : decode cX6_order 64 = .ok (.if_icmp .ne 6, 3) := by decide +kernel
theorem dX6_order_67 : decode cX6_order 67 = .ok (.iload 6, 2) := by decide +kernel
theorem dX6_order_69 : decode cX6_order 69 = .ok (.ireturn, 1) := by decide +kernel
theorem dX6_order_70 : decode cX6_order 70 = .ok (.iload_n 3, 1) := by decide +kernel
theorem dX6_order_71 : decode cX6_order 71 = .ok (.iconst 1, 1) := by decide +kernel
theorem dX6_order_72 : decode cX6_order 72 = .ok (.iload 6, 2) := by decide +kernel
theorem dX6_order_74 : decode cX6_order 74 = .ok (.ishl, 1) := by decide +kernel
theorem dX6_order_75 : decode cX6_order 75 = .ok (.iconst (-1), 1) := by decide +kernel
theorem dX6_order_76 : decode cX6_order 76 = .ok (.ixor, 1) := by decide +kernel
theorem dX6_order_77 : decode cX6_order 77 = .ok (.iand, 1) := by decide +kernel
theorem dX6_order_78 : decode cX6_order 78 = .ok (.istore_n 3, 1) := by decide +kernel
theorem dX6_order_79 : decode cX6_order 79 = .ok (.iinc 4 1, 3) := by decide +kernel
theorem dX6_order_82 : decode cX6_order 82 = .ok (.goto (-63), 3) := by decide +kernel
theorem dX6_order_85 : decode cX6_order 85 = .ok (.iconst (-1), 1) := by decide +kernel
theorem dX6_order_86 : decode cX6_order 86 = .ok (.ireturn, 1) := by decide +kernel
theorem dX6_gained_0 : decode cX6_gained 0 = .ok (.aload_n 0, 1) := by decide +kernel
theorem dX6_gained_1 : decode cX6_gained 1 = .ok (.iload_n 1, 1) := by decide +kernel
theorem dX6_gained_2 : decode cX6_gained 2 = .ok (.iload_n 2, 1) := by decide +kernel
theorem dX6_gained_3 : decode cX6_gained 3 = .ok (.iload_n 3, 1) := by decide +kernel
theorem dX6_gained_4 : decode cX6_gained 4 = .ok (.invokevirtual 109, 3) := by decide +kernel
theorem dX6_gained_7 : decode cX6_gained 7 = .ok (.aload_n 0, 1) := by decide +kernel
theorem dX6_gained_8 : decode cX6_gained 8 = .ok (.iload_n 1, 1) := by decide +kernel
theorem dX6_gained_9 : decode cX6_gained 9 = .ok (.invokevirtual 162, 3) := by decide +kernel
theorem dX6_gained_12 : decode cX6_gained 12 = .ok (.astore 4, 2) := by decide +kernel
theorem dX6_gained_14 : decode cX6_gained 14 = .ok (.aload 4, 2) := by decide +kernel
theorem dX6_gained_16 : decode cX6_gained 16 = .ok (.aload 4, 2) := by decide +kernel
theorem dX6_gained_18 : decode cX6_gained 18 = .ok (.iload_n 2, 1) := by decide +kernel
theorem dX6_gained_19 : decode cX6_gained 19 = .ok (.aload_n 0, 1) := by decide +kernel
theorem dX6_gained_20 : decode cX6_gained 20 = .ok (.getfield 19, 3) := by decide +kernel
theorem dX6_gained_23 : decode cX6_gained 23 = .ok (.getfield 89, 3) := by decide +kernel
theorem dX6_gained_26 : decode cX6_gained 26 = .ok (.invokevirtual 192, 3) := by decide +kernel
theorem dX6_gained_29 : decode cX6_gained 29 = .ok (.iload_n 3, 1) := by decide +kernel
theorem dX6_gained_30 : decode cX6_gained 30 = .ok (.aload_n 0, 1) := by decide +kernel
theorem dX6_gained_31 : decode cX6_gained 31 = .ok (.getfield 19, 3) := by decide +kernel
theorem dX6_gained_34 : decode cX6_gained 34 = .ok (.getfield 89, 3) := by decide +kernel
theorem dX6_gained_37 : decode cX6_gained 37 = .ok (.invokevirtual 195, 3) := by decide +kernel
theorem dX6_gained_40 : decode cX6_gained 40 = .ok (.ireturn, 1) := by decide +kernel
theorem dX6_lost_0 : decode cX6_lost 0 = .ok (.aload_n 0, 1) := by decide +kernel
theorem dX6_lost_1 : decode cX6_lost 1 = .ok (.iload_n 1, 1) := by decide +kernel
theorem dX6_lost_2 : decode cX6_lost 2 = .ok (.iload_n 2, 1) := by decide +kernel
theorem dX6_lost_3 : decode cX6_lost 3 = .ok (.iload_n 3, 1) := by decide +kernel
theorem dX6_lost_4 : decode cX6_lost 4 = .ok (.invokevirtual 109, 3) := by decide +kernel
theorem dX6_lost_7 : decode cX6_lost 7 = .ok (.aload_n 0, 1) := by decide +kernel
theorem dX6_lost_8 : decode cX6_lost 8 = .ok (.iload_n 1, 1) := by decide +kernel
theorem dX6_lost_9 : decode cX6_lost 9 = .ok (.invokevirtual 112, 3) := by decide +kernel
theorem dX6_lost_12 : decode cX6_lost 12 = .ok (.iload_n 2, 1) := by decide +kernel
theorem dX6_lost_13 : decode cX6_lost 13 = .ok (.iaload, 1) := by decide +kernel
theorem dX6_lost_14 : decode cX6_lost 14 = .ok (.iload_n 3, 1) := by decide +kernel
theorem dX6_lost_15 : decode cX6_lost 15 = .ok (.invokestatic 116, 3) := by decide +kernel
theorem dX6_lost_18 : decode cX6_lost 18 = .ok (.ifCond .eq 13, 3) := by decide +kernel
theorem dX6_lost_21 : decode cX6_lost 21 = .ok (.aload_n 0, 1) := by decide +kernel
theorem dX6_lost_22 : decode cX6_lost 22 = .ok (.iload_n 1, 1) := by decide +kernel
theorem dX6_lost_23 : decode cX6_lost 23 = .ok (.iload_n 2, 1) := by decide +kernel
theorem dX6_lost_24 : decode cX6_lost 24 = .ok (.iload_n 3, 1) := by decide +kernel
theorem dX6_lost_25 : decode cX6_lost 25 = .ok (.invokevirtual 198, 3) := by decide +kernel
theorem dX6_lost_28 : decode cX6_lost 28 = .ok (.goto 4, 3) := by decide +kernel
theorem dX6_lost_31 : decode cX6_lost 31 = .ok (.iconst (-1), 1) := by decide +kernel
theorem dX6_lost_32 : decode cX6_lost 32 = .ok (.ireturn, 1) := by decide +kernel
theorem dX6_bestEdge_0 : decode cX6_bestEdge 0 = .ok (.aload_n 0, 1) := by decide +kernel
theorem dX6_bestEdge_1 : decode cX6_bestEdge 1 = .ok (.iload_n 1, 1) := by decide +kernel
theorem dX6_bestEdge_2 : decode cX6_bestEdge 2 = .ok (.invokevirtual 141, 3) := by decide +kernel
theorem dX6_bestEdge_5 : decode cX6_bestEdge 5 = .ok (.aload_n 0, 1) := by decide +kernel
theorem dX6_bestEdge_6 : decode cX6_bestEdge 6 = .ok (.iload_n 1, 1) := by decide +kernel
theorem dX6_bestEdge_7 : decode cX6_bestEdge 7 = .ok (.invokevirtual 112, 3) := by decide +kernel
theorem dX6_bestEdge_10 : decode cX6_bestEdge 10 = .ok (.astore_n 2, 1) := by decide +kernel
theorem dX6_bestEdge_11 : decode cX6_bestEdge 11 = .ok (.aload_n 0, 1) := by decide +kernel
theorem dX6_bestEdge_12 : decode cX6_bestEdge 12 = .ok (.iload_n 1, 1) := by decide +kernel
theorem dX6_bestEdge_13 : decode cX6_bestEdge 13 = .ok (.invokevirtual 162, 3) := by decide +kernel
theorem dX6_bestEdge_16 : decode cX6_bestEdge 16 = .ok (.astore_n 3, 1) := by decide +kernel
theorem dX6_bestEdge_17 : decode cX6_bestEdge 17 = .ok (.iconst (-1), 1) := by decide +kernel
theorem dX6_bestEdge_18 : decode cX6_bestEdge 18 = .ok (.istore 4, 2) := by decide +kernel
theorem dX6_bestEdge_20 : decode cX6_bestEdge 20 = .ok (.iconst (-1), 1) := by decide +kernel
theorem dX6_bestEdge_21 : decode cX6_bestEdge 21 = .ok (.istore 5, 2) := by decide +kernel
theorem dX6_bestEdge_23 : decode cX6_bestEdge 23 = .ok (.iconst 0, 1) := by decide +kernel
theorem dX6_bestEdge_24 : decode cX6_bestEdge 24 = .ok (.istore 6, 2) := by decide +kernel
theorem dX6_bestEdge_26 : decode cX6_bestEdge 26 = .ok (.iload 6, 2) := by decide +kernel
theorem dX6_bestEdge_28 : decode cX6_bestEdge 28 = .ok (.aload_n 0, 1) := by decide +kernel
theorem dX6_bestEdge_29 : decode cX6_bestEdge 29 = .ok (.getfield 19, 3) := by decide +kernel
theorem dX6_bestEdge_32 : decode cX6_bestEdge 32 = .ok (.getfield 89, 3) := by decide +kernel
theorem dX6_bestEdge_35 : decode cX6_bestEdge 35 = .ok (.if_icmp .ge 98, 3) := by decide +kernel
theorem dX6_bestEdge_38 : decode cX6_bestEdge 38 = .ok (.aload_n 3, 1) := by decide +kernel
theorem dX6_bestEdge_39 : decode cX6_bestEdge 39 = .ok (.iload 6, 2) := by decide +kernel
theorem dX6_bestEdge_41 : decode cX6_bestEdge 41 = .ok (.aload_n 0, 1) := by decide +kernel
theorem dX6_bestEdge_42 : decode cX6_bestEdge 42 = .ok (.getfield 19, 3) := by decide +kernel
theorem dX6_bestEdge_45 : decode cX6_bestEdge 45 = .ok (.getfield 89, 3) := by decide +kernel
theorem dX6_bestEdge_48 : decode cX6_bestEdge 48 = .ok (.invokevirtual 192, 3) := by decide +kernel
theorem dX6_bestEdge_51 : decode cX6_bestEdge 51 = .ok (.istore 7, 2) := by decide +kernel
theorem dX6_bestEdge_53 : decode cX6_bestEdge 53 = .ok (.iconst 0, 1) := by decide +kernel
theorem dX6_bestEdge_54 : decode cX6_bestEdge 54 = .ok (.istore 8, 2) := by decide +kernel
theorem dX6_bestEdge_56 : decode cX6_bestEdge 56 = .ok (.iload 8, 2) := by decide +kernel
theorem dX6_bestEdge_58 : decode cX6_bestEdge 58 = .ok (.aload_n 0, 1) := by decide +kernel
theorem dX6_bestEdge_59 : decode cX6_bestEdge 59 = .ok (.getfield 19, 3) := by decide +kernel
theorem dX6_bestEdge_62 : decode cX6_bestEdge 62 = .ok (.getfield 89, 3) := by decide +kernel
theorem dX6_bestEdge_65 : decode cX6_bestEdge 65 = .ok (.if_icmp .ge 62, 3) := by decide +kernel
theorem dX6_bestEdge_68 : decode cX6_bestEdge 68 = .ok (.aload_n 2, 1) := by decide +kernel
theorem dX6_bestEdge_69 : decode cX6_bestEdge 69 = .ok (.iload 6, 2) := by decide +kernel
theorem dX6_bestEdge_71 : decode cX6_bestEdge 71 = .ok (.iaload, 1) := by decide +kernel
theorem dX6_bestEdge_72 : decode cX6_bestEdge 72 = .ok (.iload 8, 2) := by decide +kernel
theorem dX6_bestEdge_74 : decode cX6_bestEdge 74 = .ok (.invokestatic 116, 3) := by decide +kernel
theorem dX6_bestEdge_77 : decode cX6_bestEdge 77 = .ok (.ifCond .eq 7, 3) := by decide +kernel
theorem dX6_bestEdge_80 : decode cX6_bestEdge 80 = .ok (.iconst (-1), 1) := by decide +kernel
theorem dX6_bestEdge_81 : decode cX6_bestEdge 81 = .ok (.goto 18, 3) := by decide +kernel
theorem dX6_bestEdge_84 : decode cX6_bestEdge 84 = .ok (.aload_n 3, 1) := by decide +kernel
theorem dX6_bestEdge_85 : decode cX6_bestEdge 85 = .ok (.iload 7, 2) := by decide +kernel
theorem dX6_bestEdge_87 : decode cX6_bestEdge 87 = .ok (.iload 8, 2) := by decide +kernel
theorem dX6_bestEdge_89 : decode cX6_bestEdge 89 = .ok (.aload_n 0, 1) := by decide +kernel
theorem dX6_bestEdge_90 : decode cX6_bestEdge 90 = .ok (.getfield 19, 3) := by decide +kernel
theorem dX6_bestEdge_93 : decode cX6_bestEdge 93 = .ok (.getfield 89, 3) := by decide +kernel
theorem dX6_bestEdge_96 : decode cX6_bestEdge 96 = .ok (.invokevirtual 195, 3) := by decide +kernel
theorem dX6_bestEdge_99 : decode cX6_bestEdge 99 = .ok (.istore 9, 2) := by decide +kernel
theorem dX6_bestEdge_101 : decode cX6_bestEdge 101 = .ok (.iload 9, 2) := by decide +kernel
theorem dX6_bestEdge_103 : decode cX6_bestEdge 103 = .ok (.iload 5, 2) := by decide +kernel
theorem dX6_bestEdge_105 : decode cX6_bestEdge 105 = .ok (.if_icmp .le 16, 3) := by decide +kernel
theorem dX6_bestEdge_108 : decode cX6_bestEdge 108 = .ok (.iload 9, 2) := by decide +kernel
theorem dX6_bestEdge_110 : decode cX6_bestEdge 110 = .ok (.istore 5, 2) := by decide +kernel
theorem dX6_bestEdge_112 : decode cX6_bestEdge 112 = .ok (.iload 6, 2) := by decide +kernel
theorem dX6_bestEdge_114 : decode cX6_bestEdge 114 = .ok (.iload 8, 2) := by decide +kernel
theorem dX6_bestEdge_116 : decode cX6_bestEdge 116 = .ok (.invokestatic 201, 3) := by decide +kernel
theorem dX6_bestEdge_119 : decode cX6_bestEdge 119 = .ok (.istore 4, 2) := by decide +kernel
theorem dX6_bestEdge_121 : decode cX6_bestEdge 121 = .ok (.iinc 8 1, 3) := by decide +kernel
theorem dX6_bestEdge_124 : decode cX6_bestEdge 124 = .ok (.goto (-68), 3) := by decide +kernel
theorem dX6_bestEdge_127 : decode cX6_bestEdge 127 = .ok (.iinc 6 1, 3) := by decide +kernel
theorem dX6_bestEdge_130 : decode cX6_bestEdge 130 = .ok (.goto (-104), 3) := by decide +kernel
theorem dX6_bestEdge_133 : decode cX6_bestEdge 133 = .ok (.iload 4, 2) := by decide +kernel
theorem dX6_bestEdge_135 : decode cX6_bestEdge 135 = .ok (.ireturn, 1) := by decide +kernel
theorem dX6_weakest_0 : decode cX6_weakest 0 = .ok (.aload_n 0, 1) := by decide +kernel
theorem dX6_weakest_1 : decode cX6_weakest 1 = .ok (.iload_n 1, 1) := by decide +kernel
theorem dX6_weakest_2 : decode cX6_weakest 2 = .ok (.invokevirtual 141, 3) := by decide +kernel
theorem dX6_weakest_5 : decode cX6_weakest 5 = .ok (.aload_n 0, 1) := by decide +kernel
theorem dX6_weakest_6 : decode cX6_weakest 6 = .ok (.iload_n 1, 1) := by decide +kernel
theorem dX6_weakest_7 : decode cX6_weakest 7 = .ok (.invokevirtual 112, 3) := by decide +kernel
theorem dX6_weakest_10 : decode cX6_weakest 10 = .ok (.astore_n 2, 1) := by decide +kernel
theorem dX6_weakest_11 : decode cX6_weakest 11 = .ok (.iconst (-1), 1) := by decide +kernel
theorem dX6_weakest_12 : decode cX6_weakest 12 = .ok (.istore_n 3, 1) := by decide +kernel
theorem dX6_weakest_13 : decode cX6_weakest 13 = .ok (.iconst (-1), 1) := by decide +kernel
theorem dX6_weakest_14 : decode cX6_weakest 14 = .ok (.istore 4, 2) := by decide +kernel
theorem dX6_weakest_16 : decode cX6_weakest 16 = .ok (.iconst 0, 1) := by decide +kernel
theorem dX6_weakest_17 : decode cX6_weakest 17 = .ok (.istore 5, 2) := by decide +kernel
theorem dX6_weakest_19 : decode cX6_weakest 19 = .ok (.iload 5, 2) := by decide +kernel
theorem dX6_weakest_21 : decode cX6_weakest 21 = .ok (.aload_n 0, 1) := by decide +kernel
theorem dX6_weakest_22 : decode cX6_weakest 22 = .ok (.getfield 19, 3) := by decide +kernel
theorem dX6_weakest_25 : decode cX6_weakest 25 = .ok (.getfield 89, 3) := by decide +kernel
theorem dX6_weakest_28 : decode cX6_weakest 28 = .ok (.if_icmp .ge 76, 3) := by decide +kernel
theorem dX6_weakest_31 : decode cX6_weakest 31 = .ok (.iconst 0, 1) := by decide +kernel
theorem dX6_weakest_32 : decode cX6_weakest 32 = .ok (.istore 6, 2) := by decide +kernel
theorem dX6_weakest_34 : decode cX6_weakest 34 = .ok (.iload 6, 2) := by decide +kernel
theorem dX6_weakest_36 : decode cX6_weakest 36 = .ok (.aload_n 0, 1) := by decide +kernel
theorem dX6_weakest_37 : decode cX6_weakest 37 = .ok (.getfield 19, 3) := by decide +kernel
theorem dX6_weakest_40 : decode cX6_weakest 40 = .ok (.getfield 89, 3) := by decide +kernel
theorem dX6_weakest_43 : decode cX6_weakest 43 = .ok (.if_icmp .ge 55, 3) := by decide +kernel
theorem dX6_weakest_46 : decode cX6_weakest 46 = .ok (.aload_n 2, 1) := by decide +kernel
theorem dX6_weakest_47 : decode cX6_weakest 47 = .ok (.iload 5, 2) := by decide +kernel
theorem dX6_weakest_49 : decode cX6_weakest 49 = .ok (.iaload, 1) := by decide +kernel
theorem dX6_weakest_50 : decode cX6_weakest 50 = .ok (.iload 6, 2) := by decide +kernel
theorem dX6_weakest_52 : decode cX6_weakest 52 = .ok (.invokestatic 116, 3) := by decide +kernel
theorem dX6_weakest_55 : decode cX6_weakest 55 = .ok (.ifCond .eq 15, 3) := by decide +kernel
theorem dX6_weakest_58 : decode cX6_weakest 58 = .ok (.aload_n 0, 1) := by decide +kernel
theorem dX6_weakest_59 : decode cX6_weakest 59 = .ok (.iload_n 1, 1) := by decide +kernel
theorem dX6_weakest_60 : decode cX6_weakest 60 = .ok (.iload 5, 2) := by decide +kernel
theorem dX6_weakest_62 : decode cX6_weakest 62 = .ok (.iload 6, 2) := by decide +kernel
theorem dX6_weakest_64 : decode cX6_weakest 64 = .ok (.invokevirtual 198, 3) := by decide +kernel
theorem dX6_weakest_67 : decode cX6_weakest 67 = .ok (.goto 4, 3) := by decide +kernel
theorem dX6_weakest_70 : decode cX6_weakest 70 = .ok (.iconst (-1), 1) := by decide +kernel
theorem dX6_weakest_71 : decode cX6_weakest 71 = .ok (.istore 7, 2) := by decide +kernel
theorem dX6_weakest_73 : decode cX6_weakest 73 = .ok (.iload 7, 2) := by decide +kernel
theorem dX6_weakest_75 : decode cX6_weakest 75 = .ok (.iload 4, 2) := by decide +kernel
theorem dX6_weakest_77 : decode cX6_weakest 77 = .ok (.if_icmp .le 15, 3) := by decide +kernel
theorem dX6_weakest_80 : decode cX6_weakest 80 = .ok (.iload 7, 2) := by decide +kernel
theorem dX6_weakest_82 : decode cX6_weakest 82 = .ok (.istore 4, 2) := by decide +kernel
theorem dX6_weakest_84 : decode cX6_weakest 84 = .ok (.iload 5, 2) := by decide +kernel
theorem dX6_weakest_86 : decode cX6_weakest 86 = .ok (.iload 6, 2) := by decide +kernel
theorem dX6_weakest_88 : decode cX6_weakest 88 = .ok (.invokestatic 201, 3) := by decide +kernel
theorem dX6_weakest_91 : decode cX6_weakest 91 = .ok (.istore_n 3, 1) := by decide +kernel
theorem dX6_weakest_92 : decode cX6_weakest 92 = .ok (.iinc 6 1, 3) := by decide +kernel
theorem dX6_weakest_95 : decode cX6_weakest 95 = .ok (.goto (-61), 3) := by decide +kernel
theorem dX6_weakest_98 : decode cX6_weakest 98 = .ok (.iinc 5 1, 3) := by decide +kernel
theorem dX6_weakest_101 : decode cX6_weakest 101 = .ok (.goto (-82), 3) := by decide +kernel
theorem dX6_weakest_104 : decode cX6_weakest 104 = .ok (.iload_n 3, 1) := by decide +kernel
theorem dX6_weakest_105 : decode cX6_weakest 105 = .ok (.ireturn, 1) := by decide +kernel
theorem dX6_triangles_0 : decode cX6_triangles 0 = .ok (.aload_n 0, 1) := by decide +kernel
theorem dX6_triangles_1 : decode cX6_triangles 1 = .ok (.iload_n 1, 1) := by decide +kernel
theorem dX6_triangles_2 : decode cX6_triangles 2 = .ok (.invokevirtual 141, 3) := by decide +kernel
theorem dX6_triangles_5 : decode cX6_triangles 5 = .ok (.aload_n 0, 1) := by decide +kernel
theorem dX6_triangles_6 : decode cX6_triangles 6 = .ok (.iload_n 1, 1) := by decide +kernel
theorem dX6_triangles_7 : decode cX6_triangles 7 = .ok (.invokevirtual 112, 3) := by decide +kernel
theorem dX6_triangles_10 : decode cX6_triangles 10 = .ok (.astore_n 2, 1) := by decide +kernel
theorem dX6_triangles_11 : decode cX6_triangles 11 = .ok (.iconst 0, 1) := by decide +kernel
theorem dX6_triangles_12 : decode cX6_triangles 12 = .ok (.istore_n 3, 1) := by decide +kernel
theorem dX6_triangles_13 : decode cX6_triangles 13 = .ok (.iconst 0, 1) := by decide +kernel
theorem dX6_triangles_14 : decode cX6_triangles 14 = .ok (.istore 4, 2) := by decide +kernel
theorem dX6_triangles_16 : decode cX6_triangles 16 = .ok (.iload 4, 2) := by decide +kernel
theorem dX6_triangles_18 : decode cX6_triangles 18 = .ok (.aload_n 0, 1) := by decide +kernel
theorem dX6_triangles_19 : decode cX6_triangles 19 = .ok (.getfield 19, 3) := by decide +kernel
theorem dX6_triangles_22 : decode cX6_triangles 22 = .ok (.getfield 89, 3) := by decide +kernel
theorem dX6_triangles_25 : decode cX6_triangles 25 = .ok (.if_icmp .ge 91, 3) := by decide +kernel
theorem dX6_triangles_28 : decode cX6_triangles 28 = .ok (.aload_n 2, 1) := by decide +kernel
theorem dX6_triangles_29 : decode cX6_triangles 29 = .ok (.iload 4, 2) := by decide +kernel
theorem dX6_triangles_31 : decode cX6_triangles 31 = .ok (.aload_n 0, 1) := by decide +kernel
theorem dX6_triangles_32 : decode cX6_triangles 32 = .ok (.getfield 19, 3) := by decide +kernel
theorem dX6_triangles_35 : decode cX6_triangles 35 = .ok (.getfield 89, 3) := by decide +kernel
theorem dX6_triangles_38 : decode cX6_triangles 38 = .ok (.invokestatic 149, 3) := by decide +kernel
theorem dX6_triangles_41 : decode cX6_triangles 41 = .ok (.iconst 1, 1) := by decide +kernel
theorem dX6_triangles_42 : decode cX6_triangles 42 = .ok (.iload 4, 2) := by decide +kernel
theorem dX6_triangles_44 : decode cX6_triangles 44 = .ok (.ishl, 1) := by decide +kernel
theorem dX6_triangles_45 : decode cX6_triangles 45 = .ok (.iconst (-1), 1) := by decide +kernel
theorem dX6_triangles_46 : decode cX6_triangles 46 = .ok (.ixor, 1) := by decide +kernel
theorem dX6_triangles_47 : decode cX6_triangles 47 = .ok (.iand, 1) := by decide +kernel
theorem dX6_triangles_48 : decode cX6_triangles 48 = .ok (.istore 5, 2) := by decide +kernel
theorem dX6_triangles_50 : decode cX6_triangles 50 = .ok (.iconst 0, 1) := by decide +kernel
theorem dX6_triangles_51 : decode cX6_triangles 51 = .ok (.istore 6, 2) := by decide +kernel
theorem dX6_triangles_53 : decode cX6_triangles 53 = .ok (.iload 6, 2) := by decide +kernel
theorem dX6_triangles_55 : decode cX6_triangles 55 = .ok (.aload_n 0, 1) := by decide +kernel
theorem dX6_triangles_56 : decode cX6_triangles 56 = .ok (.getfield 19, 3) := by decide +kernel
theorem dX6_triangles_59 : decode cX6_triangles 59 = .ok (.getfield 89, 3) := by decide +kernel
theorem dX6_triangles_62 : decode cX6_triangles 62 = .ok (.if_icmp .ge 48, 3) := by decide +kernel
theorem dX6_triangles_65 : decode cX6_triangles 65 = .ok (.iload 4, 2) := by decide +kernel
theorem dX6_triangles_67 : decode cX6_triangles 67 = .ok (.iload 6, 2) := by decide +kernel
theorem dX6_triangles_69 : decode cX6_triangles 69 = .ok (.if_icmp .eq 35, 3) := by decide +kernel
theorem dX6_triangles_72 : decode cX6_triangles 72 = .ok (.aload_n 2, 1) := by decide +kernel
theorem dX6_triangles_73 : decode cX6_triangles 73 = .ok (.iload 4, 2) := by decide +kernel
theorem dX6_triangles_75 : decode cX6_triangles 75 = .ok (.iaload, 1) := by decide +kernel
theorem dX6_triangles_76 : decode cX6_triangles 76 = .ok (.iload 6, 2) := by decide +kernel
theorem dX6_triangles_78 : decode cX6_triangles 78 = .ok (.invokestatic 116, 3) := by decide +kernel
theorem dX6_triangles_81 : decode cX6_triangles 81 = .ok (.ifCond .eq 23, 3) := by decide +kernel
theorem dX6_triangles_84 : decode cX6_triangles 84 = .ok (.iload_n 3, 1) := by decide +kernel
theorem dX6_triangles_85 : decode cX6_triangles 85 = .ok (.aload_n 2, 1) := by decide +kernel
theorem dX6_triangles_86 : decode cX6_triangles 86 = .ok (.iload 6, 2) := by decide +kernel
theorem dX6_triangles_88 : decode cX6_triangles 88 = .ok (.iaload, 1) := by decide +kernel
theorem dX6_triangles_89 : decode cX6_triangles 89 = .ok (.iload 5, 2) := by decide +kernel
theorem dX6_triangles_91 : decode cX6_triangles 91 = .ok (.iand, 1) := by decide +kernel
theorem dX6_triangles_92 : decode cX6_triangles 92 = .ok (.iconst 1, 1) := by decide +kernel
theorem dX6_triangles_93 : decode cX6_triangles 93 = .ok (.iload 6, 2) := by decide +kernel
theorem dX6_triangles_95 : decode cX6_triangles 95 = .ok (.ishl, 1) := by decide +kernel
theorem dX6_triangles_96 : decode cX6_triangles 96 = .ok (.iconst (-1), 1) := by decide +kernel
theorem dX6_triangles_97 : decode cX6_triangles 97 = .ok (.ixor, 1) := by decide +kernel
theorem dX6_triangles_98 : decode cX6_triangles 98 = .ok (.iand, 1) := by decide +kernel
theorem dX6_triangles_99 : decode cX6_triangles 99 = .ok (.invokestatic 132, 3) := by decide +kernel
theorem dX6_triangles_102 : decode cX6_triangles 102 = .ok (.iadd, 1) := by decide +kernel
theorem dX6_triangles_103 : decode cX6_triangles 103 = .ok (.istore_n 3, 1) := by decide +kernel
theorem dX6_triangles_104 : decode cX6_triangles 104 = .ok (.iinc 6 1, 3) := by decide +kernel
theorem dX6_triangles_107 : decode cX6_triangles 107 = .ok (.goto (-54), 3) := by decide +kernel
theorem dX6_triangles_110 : decode cX6_triangles 110 = .ok (.iinc 4 1, 3) := by decide +kernel
theorem dX6_triangles_113 : decode cX6_triangles 113 = .ok (.goto (-97), 3) := by decide +kernel
theorem dX6_triangles_116 : decode cX6_triangles 116 = .ok (.iload_n 3, 1) := by decide +kernel
theorem dX6_triangles_117 : decode cX6_triangles 117 = .ok (.ireturn, 1) := by decide +kernel
theorem dX6_fieldRank_0 : decode cX6_fieldRank 0 = .ok (.aload_n 0, 1) := by decide +kernel
theorem dX6_fieldRank_1 : decode cX6_fieldRank 1 = .ok (.iload_n 1, 1) := by decide +kernel
theorem dX6_fieldRank_2 : decode cX6_fieldRank 2 = .ok (.invokevirtual 141, 3) := by decide +kernel
theorem dX6_fieldRank_5 : decode cX6_fieldRank 5 = .ok (.aload_n 0, 1) := by decide +kernel
theorem dX6_fieldRank_6 : decode cX6_fieldRank 6 = .ok (.getfield 54, 3) := by decide +kernel
theorem dX6_fieldRank_9 : decode cX6_fieldRank 9 = .ok (.aload_n 0, 1) := by decide +kernel
theorem dX6_fieldRank_10 : decode cX6_fieldRank 10 = .ok (.iload_n 1, 1) := by decide +kernel
theorem dX6_fieldRank_11 : decode cX6_fieldRank 11 = .ok (.invokevirtual 112, 3) := by decide +kernel
theorem dX6_fieldRank_14 : decode cX6_fieldRank 14 = .ok (.aload_n 0, 1) := by decide +kernel
theorem dX6_fieldRank_15 : decode cX6_fieldRank 15 = .ok (.getfield 19, 3) := by decide +kernel
theorem dX6_fieldRank_18 : decode cX6_fieldRank 18 = .ok (.getfield 89, 3) := by decide +kernel
theorem dX6_fieldRank_21 : decode cX6_fieldRank 21 = .ok (.iconst 0, 1) := by decide +kernel
theorem dX6_fieldRank_22 : decode cX6_fieldRank 22 = .ok (.invokevirtual 204, 3) := by decide +kernel
theorem dX6_fieldRank_25 : decode cX6_fieldRank 25 = .ok (.aload_n 0, 1) := by decide +kernel
theorem dX6_fieldRank_26 : decode cX6_fieldRank 26 = .ok (.getfield 54, 3) := by decide +kernel
theorem dX6_fieldRank_29 : decode cX6_fieldRank 29 = .ok (.getfield 207, 3) := by decide +kernel
theorem dX6_fieldRank_32 : decode cX6_fieldRank 32 = .ok (.ireturn, 1) := by decide +kernel
theorem dX6_solve_0 : decode cX6_solve 0 = .ok (.aload_n 0, 1) := by decide +kernel
theorem dX6_solve_1 : decode cX6_solve 1 = .ok (.iload_n 1, 1) := by decide +kernel
theorem dX6_solve_2 : decode cX6_solve 2 = .ok (.invokevirtual 141, 3) := by decide +kernel
theorem dX6_solve_5 : decode cX6_solve 5 = .ok (.aload_n 0, 1) := by decide +kernel
theorem dX6_solve_6 : decode cX6_solve 6 = .ok (.getfield 54, 3) := by decide +kernel
theorem dX6_solve_9 : decode cX6_solve 9 = .ok (.aload_n 0, 1) := by decide +kernel
theorem dX6_solve_10 : decode cX6_solve 10 = .ok (.iload_n 1, 1) := by decide +kernel
theorem dX6_solve_11 : decode cX6_solve 11 = .ok (.invokevirtual 112, 3) := by decide +kernel
theorem dX6_solve_14 : decode cX6_solve 14 = .ok (.aload_n 0, 1) := by decide +kernel
theorem dX6_solve_15 : decode cX6_solve 15 = .ok (.getfield 19, 3) := by decide +kernel
theorem dX6_solve_18 : decode cX6_solve 18 = .ok (.getfield 89, 3) := by decide +kernel
theorem dX6_solve_21 : decode cX6_solve 21 = .ok (.lload_n 2, 1) := by decide +kernel
theorem dX6_solve_22 : decode cX6_solve 22 = .ok (.l2i, 1) := by decide +kernel
theorem dX6_solve_23 : decode cX6_solve 23 = .ok (.invokevirtual 204, 3) := by decide +kernel
theorem dX6_solve_26 : decode cX6_solve 26 = .ok (.aload_n 0, 1) := by decide +kernel
theorem dX6_solve_27 : decode cX6_solve 27 = .ok (.getfield 54, 3) := by decide +kernel
theorem dX6_solve_30 : decode cX6_solve 30 = .ok (.aload_n 0, 1) := by decide +kernel
theorem dX6_solve_31 : decode cX6_solve 31 = .ok (.getfield 19, 3) := by decide +kernel
theorem dX6_solve_34 : decode cX6_solve 34 = .ok (.getfield 89, 3) := by decide +kernel
theorem dX6_solve_37 : decode cX6_solve 37 = .ok (.invokevirtual 210, 3) := by decide +kernel
theorem dX6_solve_40 : decode cX6_solve 40 = .ok (.ifCond .eq 16, 3) := by decide +kernel
theorem dX6_solve_43 : decode cX6_solve 43 = .ok (.aload_n 0, 1) := by decide +kernel
theorem dX6_solve_44 : decode cX6_solve 44 = .ok (.getfield 54, 3) := by decide +kernel
theorem dX6_solve_47 : decode cX6_solve 47 = .ok (.invokevirtual 214, 3) := by decide +kernel
theorem dX6_solve_50 : decode cX6_solve 50 = .ok (.invokestatic 124, 3) := by decide +kernel
theorem dX6_solve_53 : decode cX6_solve 53 = .ok (.goto 6, 3) := by decide +kernel
theorem dX6_solve_56 : decode cX6_solve 56 = .ok (.ldc2_w 217, 3) := by decide +kernel
theorem dX6_solve_59 : decode cX6_solve 59 = .ok (.lreturn, 1) := by decide +kernel
theorem dX6_freedom_0 : decode cX6_freedom 0 = .ok (.aload_n 0, 1) := by decide +kernel
theorem dX6_freedom_1 : decode cX6_freedom 1 = .ok (.iload_n 1, 1) := by decide +kernel
theorem dX6_freedom_2 : decode cX6_freedom 2 = .ok (.invokevirtual 141, 3) := by decide +kernel
theorem dX6_freedom_5 : decode cX6_freedom 5 = .ok (.aload_n 0, 1) := by decide +kernel
theorem dX6_freedom_6 : decode cX6_freedom 6 = .ok (.getfield 54, 3) := by decide +kernel
theorem dX6_freedom_9 : decode cX6_freedom 9 = .ok (.aload_n 0, 1) := by decide +kernel
theorem dX6_freedom_10 : decode cX6_freedom 10 = .ok (.iload_n 1, 1) := by decide +kernel
theorem dX6_freedom_11 : decode cX6_freedom 11 = .ok (.invokevirtual 112, 3) := by decide +kernel
theorem dX6_freedom_14 : decode cX6_freedom 14 = .ok (.aload_n 0, 1) := by decide +kernel
theorem dX6_freedom_15 : decode cX6_freedom 15 = .ok (.getfield 19, 3) := by decide +kernel
theorem dX6_freedom_18 : decode cX6_freedom 18 = .ok (.getfield 89, 3) := by decide +kernel
theorem dX6_freedom_21 : decode cX6_freedom 21 = .ok (.lload_n 2, 1) := by decide +kernel
theorem dX6_freedom_22 : decode cX6_freedom 22 = .ok (.l2i, 1) := by decide +kernel
theorem dX6_freedom_23 : decode cX6_freedom 23 = .ok (.invokevirtual 204, 3) := by decide +kernel
theorem dX6_freedom_26 : decode cX6_freedom 26 = .ok (.aload_n 0, 1) := by decide +kernel
theorem dX6_freedom_27 : decode cX6_freedom 27 = .ok (.getfield 54, 3) := by decide +kernel
theorem dX6_freedom_30 : decode cX6_freedom 30 = .ok (.aload_n 0, 1) := by decide +kernel
theorem dX6_freedom_31 : decode cX6_freedom 31 = .ok (.getfield 19, 3) := by decide +kernel
theorem dX6_freedom_34 : decode cX6_freedom 34 = .ok (.getfield 89, 3) := by decide +kernel
theorem dX6_freedom_37 : decode cX6_freedom 37 = .ok (.invokevirtual 210, 3) := by decide +kernel
theorem dX6_freedom_40 : decode cX6_freedom 40 = .ok (.ifCond .eq 21, 3) := by decide +kernel
theorem dX6_freedom_43 : decode cX6_freedom 43 = .ok (.aload_n 0, 1) := by decide +kernel
theorem dX6_freedom_44 : decode cX6_freedom 44 = .ok (.getfield 19, 3) := by decide +kernel
theorem dX6_freedom_47 : decode cX6_freedom 47 = .ok (.getfield 89, 3) := by decide +kernel
theorem dX6_freedom_50 : decode cX6_freedom 50 = .ok (.aload_n 0, 1) := by decide +kernel
theorem dX6_freedom_51 : decode cX6_freedom 51 = .ok (.getfield 54, 3) := by decide +kernel
theorem dX6_freedom_54 : decode cX6_freedom 54 = .ok (.getfield 207, 3) := by decide +kernel
theorem dX6_freedom_57 : decode cX6_freedom 57 = .ok (.isub, 1) := by decide +kernel
theorem dX6_freedom_58 : decode cX6_freedom 58 = .ok (.goto 4, 3) := by decide +kernel
theorem dX6_freedom_61 : decode cX6_freedom 61 = .ok (.iconst (-1), 1) := by decide +kernel
theorem dX6_freedom_62 : decode cX6_freedom 62 = .ok (.ireturn, 1) := by decide +kernel
theorem dX6_pivot_0 : decode cX6_pivot 0 = .ok (.aload_n 0, 1) := by decide +kernel
theorem dX6_pivot_1 : decode cX6_pivot 1 = .ok (.iload_n 1, 1) := by decide +kernel
theorem dX6_pivot_2 : decode cX6_pivot 2 = .ok (.invokevirtual 141, 3) := by decide +kernel
theorem dX6_pivot_5 : decode cX6_pivot 5 = .ok (.aload_n 0, 1) := by decide +kernel
theorem dX6_pivot_6 : decode cX6_pivot 6 = .ok (.getfield 54, 3) := by decide +kernel
theorem dX6_pivot_9 : decode cX6_pivot 9 = .ok (.aload_n 0, 1) := by decide +kernel
theorem dX6_pivot_10 : decode cX6_pivot 10 = .ok (.iload_n 1, 1) := by decide +kernel
theorem dX6_pivot_11 : decode cX6_pivot 11 = .ok (.invokevirtual 112, 3) := by decide +kernel
theorem dX6_pivot_14 : decode cX6_pivot 14 = .ok (.aload_n 0, 1) := by decide +kernel
theorem dX6_pivot_15 : decode cX6_pivot 15 = .ok (.getfield 19, 3) := by decide +kernel
theorem dX6_pivot_18 : decode cX6_pivot 18 = .ok (.getfield 89, 3) := by decide +kernel
theorem dX6_pivot_21 : decode cX6_pivot 21 = .ok (.iconst 0, 1) := by decide +kernel
theorem dX6_pivot_22 : decode cX6_pivot 22 = .ok (.invokevirtual 204, 3) := by decide +kernel
theorem dX6_pivot_25 : decode cX6_pivot 25 = .ok (.aload_n 0, 1) := by decide +kernel
theorem dX6_pivot_26 : decode cX6_pivot 26 = .ok (.getfield 54, 3) := by decide +kernel
theorem dX6_pivot_29 : decode cX6_pivot 29 = .ok (.iload_n 2, 1) := by decide +kernel
theorem dX6_pivot_30 : decode cX6_pivot 30 = .ok (.invokevirtual 219, 3) := by decide +kernel
theorem dX6_pivot_33 : decode cX6_pivot 33 = .ok (.ireturn, 1) := by decide +kernel
theorem dX6_put_0 : decode cX6_put 0 = .ok (.aload_n 0, 1) := by decide +kernel
theorem dX6_put_1 : decode cX6_put 1 = .ok (.iload_n 1, 1) := by decide +kernel
theorem dX6_put_2 : decode cX6_put 2 = .ok (.iload_n 2, 1) := by decide +kernel
theorem dX6_put_3 : decode cX6_put 3 = .ok (.iload_n 3, 1) := by decide +kernel
theorem dX6_put_4 : decode cX6_put 4 = .ok (.invokevirtual 109, 3) := by decide +kernel
theorem dX6_put_7 : decode cX6_put 7 = .ok (.aload_n 0, 1) := by decide +kernel
theorem dX6_put_8 : decode cX6_put 8 = .ok (.invokevirtual 222, 3) := by decide +kernel
theorem dX6_put_11 : decode cX6_put 11 = .ok (.aload_n 0, 1) := by decide +kernel
theorem dX6_put_12 : decode cX6_put 12 = .ok (.getfield 19, 3) := by decide +kernel
theorem dX6_put_15 : decode cX6_put 15 = .ok (.getfield 225, 3) := by decide +kernel
theorem dX6_put_18 : decode cX6_put 18 = .ok (.iload_n 1, 1) := by decide +kernel
theorem dX6_put_19 : decode cX6_put 19 = .ok (.aaload, 1) := by decide +kernel
theorem dX6_put_20 : decode cX6_put 20 = .ok (.astore 5, 2) := by decide +kernel
theorem dX6_put_22 : decode cX6_put 22 = .ok (.aload 5, 2) := by decide +kernel
theorem dX6_put_24 : decode cX6_put 24 = .ok (.getfield 229, 3) := by decide +kernel
theorem dX6_put_27 : decode cX6_put 27 = .ok (.iload_n 2, 1) := by decide +kernel
theorem dX6_put_28 : decode cX6_put 28 = .ok (.iaload, 1) := by decide +kernel
theorem dX6_put_29 : decode cX6_put 29 = .ok (.iload_n 3, 1) := by decide +kernel
theorem dX6_put_30 : decode cX6_put 30 = .ok (.invokestatic 116, 3) := by decide +kernel
theorem dX6_put_33 : decode cX6_put 33 = .ok (.iload 4, 2) := by decide +kernel
theorem dX6_put_35 : decode cX6_put 35 = .ok (.if_icmp .ne 11, 3) := by decide +kernel
theorem dX6_put_38 : decode cX6_put 38 = .ok (.aload 5, 2) := by decide +kernel
theorem dX6_put_40 : decode cX6_put 40 = .ok (.iconst 0, 1) := by decide +kernel
theorem dX6_put_41 : decode cX6_put 41 = .ok (.invokevirtual 234, 3) := by decide +kernel
theorem dX6_put_44 : decode cX6_put 44 = .ok (.iconst 0, 1) := by decide +kernel
theorem dX6_put_45 : decode cX6_put 45 = .ok (.ireturn, 1) := by decide +kernel
theorem dX6_put_46 : decode cX6_put 46 = .ok (.aload_n 0, 1) := by decide +kernel
theorem dX6_put_47 : decode cX6_put 47 = .ok (.iload_n 1, 1) := by decide +kernel
theorem dX6_put_48 : decode cX6_put 48 = .ok (.invokevirtual 162, 3) := by decide +kernel
theorem dX6_put_51 : decode cX6_put 51 = .ok (.astore 6, 2) := by decide +kernel
theorem dX6_put_53 : decode cX6_put 53 = .ok (.aload 6, 2) := by decide +kernel
theorem dX6_put_55 : decode cX6_put 55 = .ok (.iload_n 2, 1) := by decide +kernel
theorem dX6_put_56 : decode cX6_put 56 = .ok (.aload_n 0, 1) := by decide +kernel
theorem dX6_put_57 : decode cX6_put 57 = .ok (.getfield 19, 3) := by decide +kernel
theorem dX6_put_60 : decode cX6_put 60 = .ok (.getfield 89, 3) := by decide +kernel
theorem dX6_put_63 : decode cX6_put 63 = .ok (.invokevirtual 192, 3) := by decide +kernel
theorem dX6_put_66 : decode cX6_put 66 = .ok (.istore 7, 2) := by decide +kernel
theorem dX6_put_68 : decode cX6_put 68 = .ok (.aload 5, 2) := by decide +kernel
theorem dX6_put_70 : decode cX6_put 70 = .ok (.iload 7, 2) := by decide +kernel
theorem dX6_put_72 : decode cX6_put 72 = .ok (.invokestatic 132, 3) := by decide +kernel
theorem dX6_put_75 : decode cX6_put 75 = .ok (.invokevirtual 234, 3) := by decide +kernel
theorem dX6_put_78 : decode cX6_put 78 = .ok (.aload 5, 2) := by decide +kernel
theorem dX6_put_80 : decode cX6_put 80 = .ok (.getfield 229, 3) := by decide +kernel
theorem dX6_put_83 : decode cX6_put 83 = .ok (.iload_n 2, 1) := by decide +kernel
theorem dX6_put_84 : decode cX6_put 84 = .ok (.dup2, 1) := by decide +kernel
theorem dX6_put_85 : decode cX6_put 85 = .ok (.iaload, 1) := by decide +kernel
theorem dX6_put_86 : decode cX6_put 86 = .ok (.iconst 1, 1) := by decide +kernel
theorem dX6_put_87 : decode cX6_put 87 = .ok (.iload_n 3, 1) := by decide +kernel
theorem dX6_put_88 : decode cX6_put 88 = .ok (.ishl, 1) := by decide +kernel
theorem dX6_put_89 : decode cX6_put 89 = .ok (.ixor, 1) := by decide +kernel
theorem dX6_put_90 : decode cX6_put 90 = .ok (.iastore, 1) := by decide +kernel
theorem dX6_put_91 : decode cX6_put 91 = .ok (.iload 4, 2) := by decide +kernel
theorem dX6_put_93 : decode cX6_put 93 = .ok (.ifCond .eq 21, 3) := by decide +kernel
theorem dX6_put_96 : decode cX6_put 96 = .ok (.aload 6, 2) := by decide +kernel
theorem dX6_put_98 : decode cX6_put 98 = .ok (.iload 7, 2) := by decide +kernel
theorem dX6_put_100 : decode cX6_put 100 = .ok (.iload_n 3, 1) := by decide +kernel
theorem dX6_put_101 : decode cX6_put 101 = .ok (.aload_n 0, 1) := by decide +kernel
theorem dX6_put_102 : decode cX6_put 102 = .ok (.getfield 19, 3) := by decide +kernel
theorem dX6_put_105 : decode cX6_put 105 = .ok (.getfield 89, 3) := by decide +kernel
theorem dX6_put_108 : decode cX6_put 108 = .ok (.invokevirtual 237, 3) := by decide +kernel
theorem dX6_put_111 : decode cX6_put 111 = .ok (.goto 22, 3) := by decide +kernel
theorem dX6_put_114 : decode cX6_put 114 = .ok (.aload 6, 2) := by decide +kernel
theorem dX6_put_116 : decode cX6_put 116 = .ok (.iload 7, 2) := by decide +kernel
theorem dX6_put_118 : decode cX6_put 118 = .ok (.aload 5, 2) := by decide +kernel
theorem dX6_put_120 : decode cX6_put 120 = .ok (.getfield 229, 3) := by decide +kernel
theorem dX6_put_123 : decode cX6_put 123 = .ok (.aload_n 0, 1) := by decide +kernel
theorem dX6_put_124 : decode cX6_put 124 = .ok (.getfield 19, 3) := by decide +kernel
theorem dX6_put_127 : decode cX6_put 127 = .ok (.getfield 89, 3) := by decide +kernel
theorem dX6_put_130 : decode cX6_put 130 = .ok (.invokevirtual 240, 3) := by decide +kernel
theorem dX6_put_133 : decode cX6_put 133 = .ok (.ireturn, 1) := by decide +kernel
theorem dX6_setRow_0 : decode cX6_setRow 0 = .ok (.aload_n 0, 1) := by decide +kernel
theorem dX6_setRow_1 : decode cX6_setRow 1 = .ok (.iload_n 1, 1) := by decide +kernel
theorem dX6_setRow_2 : decode cX6_setRow 2 = .ok (.iload_n 2, 1) := by decide +kernel
theorem dX6_setRow_3 : decode cX6_setRow 3 = .ok (.invokevirtual 120, 3) := by decide +kernel
theorem dX6_setRow_6 : decode cX6_setRow 6 = .ok (.aload_n 0, 1) := by decide +kernel
theorem dX6_setRow_7 : decode cX6_setRow 7 = .ok (.invokevirtual 222, 3) := by decide +kernel
theorem dX6_setRow_10 : decode cX6_setRow 10 = .ok (.aload_n 0, 1) := by decide +kernel
theorem dX6_setRow_11 : decode cX6_setRow 11 = .ok (.iload_n 1, 1) := by decide +kernel
theorem dX6_setRow_12 : decode cX6_setRow 12 = .ok (.invokevirtual 112, 3) := by decide +kernel
theorem dX6_setRow_15 : decode cX6_setRow 15 = .ok (.astore 5, 2) := by decide +kernel
theorem dX6_setRow_17 : decode cX6_setRow 17 = .ok (.aload 5, 2) := by decide +kernel
theorem dX6_setRow_19 : decode cX6_setRow 19 = .ok (.iload_n 2, 1) := by decide +kernel
theorem dX6_setRow_20 : decode cX6_setRow 20 = .ok (.iaload, 1) := by decide +kernel
theorem dX6_setRow_21 : decode cX6_setRow 21 = .ok (.istore 6, 2) := by decide +kernel
theorem dX6_setRow_23 : decode cX6_setRow 23 = .ok (.aload 5, 2) := by decide +kernel
theorem dX6_setRow_25 : decode cX6_setRow 25 = .ok (.iload_n 2, 1) := by decide +kernel
theorem dX6_setRow_26 : decode cX6_setRow 26 = .ok (.lload_n 3, 1) := by decide +kernel
theorem dX6_setRow_27 : decode cX6_setRow 27 = .ok (.l2i, 1) := by decide +kernel
theorem dX6_setRow_28 : decode cX6_setRow 28 = .ok (.aload_n 0, 1) := by decide +kernel
theorem dX6_setRow_29 : decode cX6_setRow 29 = .ok (.getfield 19, 3) := by decide +kernel
theorem dX6_setRow_32 : decode cX6_setRow 32 = .ok (.getfield 89, 3) := by decide +kernel
theorem dX6_setRow_35 : decode cX6_setRow 35 = .ok (.invokestatic 128, 3) := by decide +kernel
theorem dX6_setRow_38 : decode cX6_setRow 38 = .ok (.iand, 1) := by decide +kernel
theorem dX6_setRow_39 : decode cX6_setRow 39 = .ok (.iastore, 1) := by decide +kernel
theorem dX6_setRow_40 : decode cX6_setRow 40 = .ok (.aload_n 0, 1) := by decide +kernel
theorem dX6_setRow_41 : decode cX6_setRow 41 = .ok (.iload_n 1, 1) := by decide +kernel
theorem dX6_setRow_42 : decode cX6_setRow 42 = .ok (.invokevirtual 244, 3) := by decide +kernel
theorem dX6_setRow_45 : decode cX6_setRow 45 = .ok (.aload 5, 2) := by decide +kernel
theorem dX6_setRow_47 : decode cX6_setRow 47 = .ok (.iload_n 2, 1) := by decide +kernel
theorem dX6_setRow_48 : decode cX6_setRow 48 = .ok (.iaload, 1) := by decide +kernel
theorem dX6_setRow_49 : decode cX6_setRow 49 = .ok (.iload 6, 2) := by decide +kernel
theorem dX6_setRow_51 : decode cX6_setRow 51 = .ok (.ixor, 1) := by decide +kernel
theorem dX6_setRow_52 : decode cX6_setRow 52 = .ok (.invokestatic 132, 3) := by decide +kernel
theorem dX6_setRow_55 : decode cX6_setRow 55 = .ok (.ireturn, 1) := by decide +kernel
theorem dX6_copy_0 : decode cX6_copy 0 = .ok (.aload_n 0, 1) := by decide +kernel
theorem dX6_copy_1 : decode cX6_copy 1 = .ok (.iload_n 1, 1) := by decide +kernel
theorem dX6_copy_2 : decode cX6_copy 2 = .ok (.invokevirtual 141, 3) := by decide +kernel
theorem dX6_copy_5 : decode cX6_copy 5 = .ok (.aload_n 0, 1) := by decide +kernel
theorem dX6_copy_6 : decode cX6_copy 6 = .ok (.iload_n 2, 1) := by decide +kernel
theorem dX6_copy_7 : decode cX6_copy 7 = .ok (.invokevirtual 141, 3) := by decide +kernel
theorem dX6_copy_10 : decode cX6_copy 10 = .ok (.aload_n 0, 1) := by decide +kernel
theorem dX6_copy_11 : decode cX6_copy 11 = .ok (.invokevirtual 222, 3) := by decide +kernel
theorem dX6_copy_14 : decode cX6_copy 14 = .ok (.aload_n 0, 1) := by decide +kernel
theorem dX6_copy_15 : decode cX6_copy 15 = .ok (.aload_n 0, 1) := by decide +kernel
theorem dX6_copy_16 : decode cX6_copy 16 = .ok (.iload_n 1, 1) := by decide +kernel
theorem dX6_copy_17 : decode cX6_copy 17 = .ok (.invokevirtual 112, 3) := by decide +kernel
theorem dX6_copy_20 : decode cX6_copy 20 = .ok (.iload_n 2, 1) := by decide +kernel
theorem dX6_copy_21 : decode cX6_copy 21 = .ok (.invokevirtual 247, 3) := by decide +kernel
theorem dX6_copy_24 : decode cX6_copy 24 = .ok (.ireturn, 1) := by decide +kernel
theorem dX6_transpose_0 : decode cX6_transpose 0 = .ok (.aload_n 0, 1) := by decide +kernel
theorem dX6_transpose_1 : decode cX6_transpose 1 = .ok (.iload_n 1, 1) := by decide +kernel
theorem dX6_transpose_2 : decode cX6_transpose 2 = .ok (.invokevirtual 141, 3) := by decide +kernel
theorem dX6_transpose_5 : decode cX6_transpose 5 = .ok (.aload_n 0, 1) := by decide +kernel
theorem dX6_transpose_6 : decode cX6_transpose 6 = .ok (.iload_n 2, 1) := by decide +kernel
theorem dX6_transpose_7 : decode cX6_transpose 7 = .ok (.invokevirtual 141, 3) := by decide +kernel
theorem dX6_transpose_10 : decode cX6_transpose 10 = .ok (.aload_n 0, 1) := by decide +kernel
theorem dX6_transpose_11 : decode cX6_transpose 11 = .ok (.invokevirtual 222, 3) := by decide +kernel
theorem dX6_transpose_14 : decode cX6_transpose 14 = .ok (.iconst 0, 1) := by decide +kernel
theorem dX6_transpose_15 : decode cX6_transpose 15 = .ok (.istore_n 3, 1) := by decide +kernel
theorem dX6_transpose_16 : decode cX6_transpose 16 = .ok (.iload_n 3, 1) := by decide +kernel
theorem dX6_transpose_17 : decode cX6_transpose 17 = .ok (.aload_n 0, 1) := by decide +kernel
theorem dX6_transpose_18 : decode cX6_transpose 18 = .ok (.getfield 19, 3) := by decide +kernel
theorem dX6_transpose_21 : decode cX6_transpose 21 = .ok (.getfield 89, 3) := by decide +kernel
theorem dX6_transpose_24 : decode cX6_transpose 24 = .ok (.if_icmp .ge 31, 3) := by decide +kernel
theorem dX6_transpose_27 : decode cX6_transpose 27 = .ok (.aload_n 0, 1) := by decide +kernel
theorem dX6_transpose_28 : decode cX6_transpose 28 = .ok (.getfield 58, 3) := by decide +kernel
theorem dX6_transpose_31 : decode cX6_transpose 31 = .ok (.iload_n 3, 1) := by decide +kernel
theorem dX6_transpose_32 : decode cX6_transpose 32 = .ok (.aload_n 0, 1) := by decide +kernel
theorem dX6_transpose_33 : decode cX6_transpose 33 = .ok (.iload_n 1, 1) := by decide +kernel
theorem dX6_transpose_34 : decode cX6_transpose 34 = .ok (.invokevirtual 112, 3) := by decide +kernel
theorem dX6_transpose_37 : decode cX6_transpose 37 = .ok (.iload_n 3, 1) := by decide +kernel
theorem dX6_transpose_38 : decode cX6_transpose 38 = .ok (.aload_n 0, 1) := by decide +kernel
theorem dX6_transpose_39 : decode cX6_transpose 39 = .ok (.getfield 19, 3) := by decide +kernel
theorem dX6_transpose_42 : decode cX6_transpose 42 = .ok (.getfield 89, 3) := by decide +kernel
theorem dX6_transpose_45 : decode cX6_transpose 45 = .ok (.invokestatic 149, 3) := by decide +kernel
theorem dX6_transpose_48 : decode cX6_transpose 48 = .ok (.iastore, 1) := by decide +kernel
theorem dX6_transpose_49 : decode cX6_transpose 49 = .ok (.iinc 3 1, 3) := by decide +kernel
theorem dX6_transpose_52 : decode cX6_transpose 52 = .ok (.goto (-36), 3) := by decide +kernel
theorem dX6_transpose_55 : decode cX6_transpose 55 = .ok (.aload_n 0, 1) := by decide +kernel
theorem dX6_transpose_56 : decode cX6_transpose 56 = .ok (.aload_n 0, 1) := by decide +kernel
theorem dX6_transpose_57 : decode cX6_transpose 57 = .ok (.getfield 58, 3) := by decide +kernel
theorem dX6_transpose_60 : decode cX6_transpose 60 = .ok (.iload_n 2, 1) := by decide +kernel
theorem dX6_transpose_61 : decode cX6_transpose 61 = .ok (.invokevirtual 247, 3) := by decide +kernel
theorem dX6_transpose_64 : decode cX6_transpose 64 = .ok (.ireturn, 1) := by decide +kernel
theorem dX6_combine_0 : decode cX6_combine 0 = .ok (.aload_n 0, 1) := by decide +kernel
theorem dX6_combine_1 : decode cX6_combine 1 = .ok (.iload_n 1, 1) := by decide +kernel
theorem dX6_combine_2 : decode cX6_combine 2 = .ok (.invokevirtual 141, 3) := by decide +kernel
theorem dX6_combine_5 : decode cX6_combine 5 = .ok (.aload_n 0, 1) := by decide +kernel
theorem dX6_combine_6 : decode cX6_combine 6 = .ok (.iload_n 2, 1) := by decide +kernel
theorem dX6_combine_7 : decode cX6_combine 7 = .ok (.invokevirtual 141, 3) := by decide +kernel
theorem dX6_combine_10 : decode cX6_combine 10 = .ok (.aload_n 0, 1) := by decide +kernel
theorem dX6_combine_11 : decode cX6_combine 11 = .ok (.iload_n 3, 1) := by decide +kernel
theorem dX6_combine_12 : decode cX6_combine 12 = .ok (.invokevirtual 141, 3) := by decide +kernel
theorem dX6_combine_15 : decode cX6_combine 15 = .ok (.aload_n 0, 1) := by decide +kernel
theorem dX6_combine_16 : decode cX6_combine 16 = .ok (.iload 4, 2) := by decide +kernel
theorem dX6_combine_18 : decode cX6_combine 18 = .ok (.iconst 0, 1) := by decide +kernel
theorem dX6_combine_19 : decode cX6_combine 19 = .ok (.iconst 3, 1) := by decide +kernel
theorem dX6_combine_20 : decode cX6_combine 20 = .ok (.invokevirtual 95, 3) := by decide +kernel
theorem dX6_combine_23 : decode cX6_combine 23 = .ok (.aload_n 0, 1) := by decide +kernel
theorem dX6_combine_24 : decode cX6_combine 24 = .ok (.invokevirtual 222, 3) := by decide +kernel
theorem dX6_combine_27 : decode cX6_combine 27 = .ok (.iconst 0, 1) := by decide +kernel
theorem dX6_combine_28 : decode cX6_combine 28 = .ok (.istore 5, 2) := by decide +kernel
theorem dX6_combine_30 : decode cX6_combine 30 = .ok (.iload 5, 2) := by decide +kernel
theorem dX6_combine_32 : decode cX6_combine 32 = .ok (.aload_n 0, 1) := by decide +kernel
theorem dX6_combine_33 : decode cX6_combine 33 = .ok (.getfield 19, 3) := by decide +kernel
theorem dX6_combine_36 : decode cX6_combine 36 = .ok (.getfield 89, 3) := by decide +kernel
theorem dX6_combine_39 : decode cX6_combine 39 = .ok (.if_icmp .ge 37, 3) := by decide +kernel
theorem dX6_combine_42 : decode cX6_combine 42 = .ok (.aload_n 0, 1) := by decide +kernel
theorem dX6_combine_43 : decode cX6_combine 43 = .ok (.getfield 58, 3) := by decide +kernel
theorem dX6_combine_46 : decode cX6_combine 46 = .ok (.iload 5, 2) := by decide +kernel
theorem dX6_combine_48 : decode cX6_combine 48 = .ok (.aload_n 0, 1) := by decide +kernel
theorem dX6_combine_49 : decode cX6_combine 49 = .ok (.iload_n 1, 1) := by decide +kernel
theorem dX6_combine_50 : decode cX6_combine 50 = .ok (.invokevirtual 112, 3) := by decide +kernel
theorem dX6_combine_53 : decode cX6_combine 53 = .ok (.iload 5, 2) := by decide +kernel
theorem dX6_combine_55 : decode cX6_combine 55 = .ok (.iaload, 1) := by decide +kernel
theorem dX6_combine_56 : decode cX6_combine 56 = .ok (.aload_n 0, 1) := by decide +kernel
theorem dX6_combine_57 : decode cX6_combine 57 = .ok (.iload_n 2, 1) := by decide +kernel
theorem dX6_combine_58 : decode cX6_combine 58 = .ok (.invokevirtual 112, 3) := by decide +kernel
theorem dX6_combine_61 : decode cX6_combine 61 = .ok (.iload 5, 2) := by decide +kernel
theorem dX6_combine_63 : decode cX6_combine 63 = .ok (.iaload, 1) := by decide +kernel
theorem dX6_combine_64 : decode cX6_combine 64 = .ok (.iload 4, 2) := by decide +kernel
theorem dX6_combine_66 : decode cX6_combine 66 = .ok (.invokestatic 250, 3) := by decide +kernel
theorem dX6_combine_69 : decode cX6_combine 69 = .ok (.iastore, 1) := by decide +kernel
theorem dX6_combine_70 : decode cX6_combine 70 = .ok (.iinc 5 1, 3) := by decide +kernel
theorem dX6_combine_73 : decode cX6_combine 73 = .ok (.goto (-43), 3) := by decide +kernel
theorem dX6_combine_76 : decode cX6_combine 76 = .ok (.aload_n 0, 1) := by decide +kernel
theorem dX6_combine_77 : decode cX6_combine 77 = .ok (.aload_n 0, 1) := by decide +kernel
theorem dX6_combine_78 : decode cX6_combine 78 = .ok (.getfield 58, 3) := by decide +kernel
theorem dX6_combine_81 : decode cX6_combine 81 = .ok (.iload_n 3, 1) := by decide +kernel
theorem dX6_combine_82 : decode cX6_combine 82 = .ok (.invokevirtual 247, 3) := by decide +kernel
theorem dX6_combine_85 : decode cX6_combine 85 = .ok (.ireturn, 1) := by decide +kernel
theorem dX6_product_0 : decode cX6_product 0 = .ok (.aload_n 0, 1) := by decide +kernel
theorem dX6_product_1 : decode cX6_product 1 = .ok (.iload_n 1, 1) := by decide +kernel
theorem dX6_product_2 : decode cX6_product 2 = .ok (.invokevirtual 141, 3) := by decide +kernel
theorem dX6_product_5 : decode cX6_product 5 = .ok (.aload_n 0, 1) := by decide +kernel
theorem dX6_product_6 : decode cX6_product 6 = .ok (.iload_n 2, 1) := by decide +kernel
theorem dX6_product_7 : decode cX6_product 7 = .ok (.invokevirtual 141, 3) := by decide +kernel
theorem dX6_product_10 : decode cX6_product 10 = .ok (.aload_n 0, 1) := by decide +kernel
theorem dX6_product_11 : decode cX6_product 11 = .ok (.iload_n 3, 1) := by decide +kernel
theorem dX6_product_12 : decode cX6_product 12 = .ok (.invokevirtual 141, 3) := by decide +kernel
theorem dX6_product_15 : decode cX6_product 15 = .ok (.aload_n 0, 1) := by decide +kernel
theorem dX6_product_16 : decode cX6_product 16 = .ok (.invokevirtual 222, 3) := by decide +kernel
theorem dX6_product_19 : decode cX6_product 19 = .ok (.aload_n 0, 1) := by decide +kernel
theorem dX6_product_20 : decode cX6_product 20 = .ok (.getfield 47, 3) := by decide +kernel
theorem dX6_product_23 : decode cX6_product 23 = .ok (.aload_n 0, 1) := by decide +kernel
theorem dX6_product_24 : decode cX6_product 24 = .ok (.getfield 19, 3) := by decide +kernel
theorem dX6_product_27 : decode cX6_product 27 = .ok (.iload 4, 2) := by decide +kernel
theorem dX6_product_29 : decode cX6_product 29 = .ok (.invokevirtual 253, 3) := by decide +kernel
theorem dX6_product_32 : decode cX6_product 32 = .ok (.aload_n 0, 1) := by decide +kernel
theorem dX6_product_33 : decode cX6_product 33 = .ok (.getfield 47, 3) := by decide +kernel
theorem dX6_product_36 : decode cX6_product 36 = .ok (.aload_n 0, 1) := by decide +kernel
theorem dX6_product_37 : decode cX6_product 37 = .ok (.iload_n 1, 1) := by decide +kernel
theorem dX6_product_38 : decode cX6_product 38 = .ok (.invokevirtual 112, 3) := by decide +kernel
theorem dX6_product_41 : decode cX6_product 41 = .ok (.aload_n 0, 1) := by decide +kernel
theorem dX6_product_42 : decode cX6_product 42 = .ok (.iload_n 2, 1) := by decide +kernel
theorem dX6_product_43 : decode cX6_product 43 = .ok (.invokevirtual 112, 3) := by decide +kernel
theorem dX6_product_46 : decode cX6_product 46 = .ok (.aload_n 0, 1) := by decide +kernel
theorem dX6_product_47 : decode cX6_product 47 = .ok (.getfield 58, 3) := by decide +kernel
theorem dX6_product_50 : decode cX6_product 50 = .ok (.invokevirtual 257, 3) := by decide +kernel
theorem dX6_product_53 : decode cX6_product 53 = .ok (.aload_n 0, 1) := by decide +kernel
theorem dX6_product_54 : decode cX6_product 54 = .ok (.invokevirtual 261, 3) := by decide +kernel
theorem dX6_product_57 : decode cX6_product 57 = .ok (.aload_n 0, 1) := by decide +kernel
theorem dX6_product_58 : decode cX6_product 58 = .ok (.aload_n 0, 1) := by decide +kernel
theorem dX6_product_59 : decode cX6_product 59 = .ok (.getfield 58, 3) := by decide +kernel
theorem dX6_product_62 : decode cX6_product 62 = .ok (.iload_n 3, 1) := by decide +kernel
theorem dX6_product_63 : decode cX6_product 63 = .ok (.invokevirtual 247, 3) := by decide +kernel
theorem dX6_product_66 : decode cX6_product 66 = .ok (.ireturn, 1) := by decide +kernel
theorem dX6_power_0 : decode cX6_power 0 = .ok (.aload_n 0, 1) := by decide +kernel
theorem dX6_power_1 : decode cX6_power 1 = .ok (.iload_n 1, 1) := by decide +kernel
theorem dX6_power_2 : decode cX6_power 2 = .ok (.invokevirtual 141, 3) := by decide +kernel
theorem dX6_power_5 : decode cX6_power 5 = .ok (.aload_n 0, 1) := by decide +kernel
theorem dX6_power_6 : decode cX6_power 6 = .ok (.iload_n 3, 1) := by decide +kernel
theorem dX6_power_7 : decode cX6_power 7 = .ok (.invokevirtual 141, 3) := by decide +kernel
theorem dX6_power_10 : decode cX6_power 10 = .ok (.aload_n 0, 1) := by decide +kernel
theorem dX6_power_11 : decode cX6_power 11 = .ok (.iload_n 2, 1) := by decide +kernel
theorem dX6_power_12 : decode cX6_power 12 = .ok (.iconst 0, 1) := by decide +kernel
theorem dX6_power_13 : decode cX6_power 13 = .ok (.ldc_w 264, 3) := by decide +kernel
theorem dX6_power_16 : decode cX6_power 16 = .ok (.invokevirtual 95, 3) := by decide +kernel
theorem dX6_power_19 : decode cX6_power 19 = .ok (.aload_n 0, 1) := by decide +kernel
theorem dX6_power_20 : decode cX6_power 20 = .ok (.invokevirtual 222, 3) := by decide +kernel
theorem dX6_power_23 : decode cX6_power 23 = .ok (.aload_n 0, 1) := by decide +kernel
theorem dX6_power_24 : decode cX6_power 24 = .ok (.getfield 47, 3) := by decide +kernel
theorem dX6_power_27 : decode cX6_power 27 = .ok (.aload_n 0, 1) := by decide +kernel
theorem dX6_power_28 : decode cX6_power 28 = .ok (.getfield 19, 3) := by decide +kernel
theorem dX6_power_31 : decode cX6_power 31 = .ok (.iload 4, 2) := by decide +kernel
theorem dX6_power_33 : decode cX6_power 33 = .ok (.invokevirtual 253, 3) := by decide +kernel
theorem dX6_power_36 : decode cX6_power 36 = .ok (.aload_n 0, 1) := by decide +kernel
theorem dX6_power_37 : decode cX6_power 37 = .ok (.getfield 47, 3) := by decide +kernel
theorem dX6_power_40 : decode cX6_power 40 = .ok (.aload_n 0, 1) := by decide +kernel
theorem dX6_power_41 : decode cX6_power 41 = .ok (.iload_n 1, 1) := by decide +kernel
theorem dX6_power_42 : decode cX6_power 42 = .ok (.invokevirtual 112, 3) := by decide +kernel
theorem dX6_power_45 : decode cX6_power 45 = .ok (.iload_n 2, 1) := by decide +kernel
theorem dX6_power_46 : decode cX6_power 46 = .ok (.invokevirtual 265, 3) := by decide +kernel
theorem dX6_power_49 : decode cX6_power 49 = .ok (.astore 5, 2) := by decide +kernel
theorem dX6_power_51 : decode cX6_power 51 = .ok (.iload_n 2, 1) := by decide +kernel
theorem dX6_power_52 : decode cX6_power 52 = .ok (.ifCond .le 7, 3) := by decide +kernel
theorem dX6_power_55 : decode cX6_power 55 = .ok (.aload_n 0, 1) := by decide +kernel
theorem dX6_power_56 : decode cX6_power 56 = .ok (.invokevirtual 261, 3) := by decide +kernel
theorem dX6_power_59 : decode cX6_power 59 = .ok (.aload_n 0, 1) := by decide +kernel
theorem dX6_power_60 : decode cX6_power 60 = .ok (.aload 5, 2) := by decide +kernel
theorem dX6_power_62 : decode cX6_power 62 = .ok (.iload_n 3, 1) := by decide +kernel
theorem dX6_power_63 : decode cX6_power 63 = .ok (.invokevirtual 247, 3) := by decide +kernel
theorem dX6_power_66 : decode cX6_power 66 = .ok (.ireturn, 1) := by decide +kernel
theorem dX6_invert_0 : decode cX6_invert 0 = .ok (.aload_n 0, 1) := by decide +kernel
theorem dX6_invert_1 : decode cX6_invert 1 = .ok (.iload_n 1, 1) := by decide +kernel
theorem dX6_invert_2 : decode cX6_invert 2 = .ok (.invokevirtual 141, 3) := by decide +kernel
theorem dX6_invert_5 : decode cX6_invert 5 = .ok (.aload_n 0, 1) := by decide +kernel
theorem dX6_invert_6 : decode cX6_invert 6 = .ok (.iload_n 2, 1) := by decide +kernel
theorem dX6_invert_7 : decode cX6_invert 7 = .ok (.invokevirtual 141, 3) := by decide +kernel
theorem dX6_invert_10 : decode cX6_invert 10 = .ok (.aload_n 0, 1) := by decide +kernel
theorem dX6_invert_11 : decode cX6_invert 11 = .ok (.getfield 54, 3) := by decide +kernel
theorem dX6_invert_14 : decode cX6_invert 14 = .ok (.aload_n 0, 1) := by decide +kernel
theorem dX6_invert_15 : decode cX6_invert 15 = .ok (.iload_n 1, 1) := by decide +kernel
theorem dX6_invert_16 : decode cX6_invert 16 = .ok (.invokevirtual 112, 3) := by decide +kernel
theorem dX6_invert_19 : decode cX6_invert 19 = .ok (.aload_n 0, 1) := by decide +kernel
theorem dX6_invert_20 : decode cX6_invert 20 = .ok (.getfield 19, 3) := by decide +kernel
theorem dX6_invert_23 : decode cX6_invert 23 = .ok (.getfield 89, 3) := by decide +kernel
theorem dX6_invert_26 : decode cX6_invert 26 = .ok (.invokevirtual 269, 3) := by decide +kernel
theorem dX6_invert_29 : decode cX6_invert 29 = .ok (.aload_n 0, 1) := by decide +kernel
theorem dX6_invert_30 : decode cX6_invert 30 = .ok (.getfield 54, 3) := by decide +kernel
theorem dX6_invert_33 : decode cX6_invert 33 = .ok (.getfield 207, 3) := by decide +kernel
theorem dX6_invert_36 : decode cX6_invert 36 = .ok (.aload_n 0, 1) := by decide +kernel
theorem dX6_invert_37 : decode cX6_invert 37 = .ok (.getfield 19, 3) := by decide +kernel
theorem dX6_invert_40 : decode cX6_invert 40 = .ok (.getfield 89, 3) := by decide +kernel
theorem dX6_invert_43 : decode cX6_invert 43 = .ok (.if_icmp .ge 6, 3) := by decide +kernel
theorem dX6_invert_46 : decode cX6_invert 46 = .ok (.bipush (-3), 2) := by decide +kernel
theorem dX6_invert_48 : decode cX6_invert 48 = .ok (.ireturn, 1) := by decide +kernel
theorem dX6_invert_49 : decode cX6_invert 49 = .ok (.aload_n 0, 1) := by decide +kernel
theorem dX6_invert_50 : decode cX6_invert 50 = .ok (.invokevirtual 222, 3) := by decide +kernel
theorem dX6_invert_53 : decode cX6_invert 53 = .ok (.aload_n 0, 1) := by decide +kernel
theorem dX6_invert_54 : decode cX6_invert 54 = .ok (.aload_n 0, 1) := by decide +kernel
theorem dX6_invert_55 : decode cX6_invert 55 = .ok (.getfield 54, 3) := by decide +kernel
theorem dX6_invert_58 : decode cX6_invert 58 = .ok (.getfield 273, 3) := by decide +kernel
theorem dX6_invert_61 : decode cX6_invert 61 = .ok (.iload_n 2, 1) := by decide +kernel
theorem dX6_invert_62 : decode cX6_invert 62 = .ok (.invokevirtual 247, 3) := by decide +kernel
theorem dX6_invert_65 : decode cX6_invert 65 = .ok (.ireturn, 1) := by decide +kernel
theorem dX6_close_0 : decode cX6_close 0 = .ok (.aload_n 0, 1) := by decide +kernel
theorem dX6_close_1 : decode cX6_close 1 = .ok (.iload_n 1, 1) := by decide +kernel
theorem dX6_close_2 : decode cX6_close 2 = .ok (.invokevirtual 141, 3) := by decide +kernel
theorem dX6_close_5 : decode cX6_close 5 = .ok (.aload_n 0, 1) := by decide +kernel
theorem dX6_close_6 : decode cX6_close 6 = .ok (.iload_n 2, 1) := by decide +kernel
theorem dX6_close_7 : decode cX6_close 7 = .ok (.invokevirtual 141, 3) := by decide +kernel
theorem dX6_close_10 : decode cX6_close 10 = .ok (.aload_n 0, 1) := by decide +kernel
theorem dX6_close_11 : decode cX6_close 11 = .ok (.invokevirtual 222, 3) := by decide +kernel
theorem dX6_close_14 : decode cX6_close 14 = .ok (.aload_n 0, 1) := by decide +kernel
theorem dX6_close_15 : decode cX6_close 15 = .ok (.aload_n 0, 1) := by decide +kernel
theorem dX6_close_16 : decode cX6_close 16 = .ok (.iload_n 1, 1) := by decide +kernel
theorem dX6_close_17 : decode cX6_close 17 = .ok (.invokevirtual 162, 3) := by decide +kernel
theorem dX6_close_20 : decode cX6_close 20 = .ok (.getfield 166, 3) := by decide +kernel
theorem dX6_close_23 : decode cX6_close 23 = .ok (.iload_n 2, 1) := by decide +kernel
theorem dX6_close_24 : decode cX6_close 24 = .ok (.invokevirtual 247, 3) := by decide +kernel
theorem dX6_close_27 : decode cX6_close 27 = .ok (.ireturn, 1) := by decide +kernel
theorem dX6_reduce_0 : decode cX6_reduce 0 = .ok (.aload_n 0, 1) := by decide +kernel
theorem dX6_reduce_1 : decode cX6_reduce 1 = .ok (.iload_n 1, 1) := by decide +kernel
theorem dX6_reduce_2 : decode cX6_reduce 2 = .ok (.invokevirtual 141, 3) := by decide +kernel
theorem dX6_reduce_5 : decode cX6_reduce 5 = .ok (.aload_n 0, 1) := by decide +kernel
theorem dX6_reduce_6 : decode cX6_reduce 6 = .ok (.iload_n 2, 1) := by decide +kernel
theorem dX6_reduce_7 : decode cX6_reduce 7 = .ok (.invokevirtual 141, 3) := by decide +kernel
theorem dX6_reduce_10 : decode cX6_reduce 10 = .ok (.aload_n 0, 1) := by decide +kernel
theorem dX6_reduce_11 : decode cX6_reduce 11 = .ok (.invokevirtual 222, 3) := by decide +kernel
theorem dX6_reduce_14 : decode cX6_reduce 14 = .ok (.aload_n 0, 1) := by decide +kernel
theorem dX6_reduce_15 : decode cX6_reduce 15 = .ok (.iload_n 1, 1) := by decide +kernel
theorem dX6_reduce_16 : decode cX6_reduce 16 = .ok (.invokevirtual 112, 3) := by decide +kernel
theorem dX6_reduce_19 : decode cX6_reduce 19 = .ok (.iconst 0, 1) := by decide +kernel
theorem dX6_reduce_20 : decode cX6_reduce 20 = .ok (.aload_n 0, 1) := by decide +kernel
theorem dX6_reduce_21 : decode cX6_reduce 21 = .ok (.getfield 58, 3) := by decide +kernel
theorem dX6_reduce_24 : decode cX6_reduce 24 = .ok (.iconst 0, 1) := by decide +kernel
theorem dX6_reduce_25 : decode cX6_reduce 25 = .ok (.aload_n 0, 1) := by decide +kernel
theorem dX6_reduce_26 : decode cX6_reduce 26 = .ok (.getfield 19, 3) := by decide +kernel
theorem dX6_reduce_29 : decode cX6_reduce 29 = .ok (.getfield 89, 3) := by decide +kernel
theorem dX6_reduce_32 : decode cX6_reduce 32 = .ok (.invokestatic 276, 3) := by decide +kernel
theorem dX6_reduce_35 : decode cX6_reduce 35 = .ok (.iconst 0, 1) := by decide +kernel
theorem dX6_reduce_36 : decode cX6_reduce 36 = .ok (.istore_n 3, 1) := by decide +kernel
theorem dX6_reduce_37 : decode cX6_reduce 37 = .ok (.iload_n 3, 1) := by decide +kernel
theorem dX6_reduce_38 : decode cX6_reduce 38 = .ok (.aload_n 0, 1) := by decide +kernel
theorem dX6_reduce_39 : decode cX6_reduce 39 = .ok (.getfield 19, 3) := by decide +kernel
theorem dX6_reduce_42 : decode cX6_reduce 42 = .ok (.getfield 89, 3) := by decide +kernel
theorem dX6_reduce_45 : decode cX6_reduce 45 = .ok (.if_icmp .ge 18, 3) := by decide +kernel
theorem dX6_reduce_48 : decode cX6_reduce 48 = .ok (.aload_n 0, 1) := by decide +kernel
theorem dX6_reduce_49 : decode cX6_reduce 49 = .ok (.aload_n 0, 1) := by decide +kernel
theorem dX6_reduce_50 : decode cX6_reduce 50 = .ok (.getfield 58, 3) := by decide +kernel
theorem dX6_reduce_53 : decode cX6_reduce 53 = .ok (.iload_n 3, 1) := by decide +kernel
theorem dX6_reduce_54 : decode cX6_reduce 54 = .ok (.invokevirtual 282, 3) := by decide +kernel
theorem dX6_reduce_57 : decode cX6_reduce 57 = .ok (.iinc 3 1, 3) := by decide +kernel
theorem dX6_reduce_60 : decode cX6_reduce 60 = .ok (.goto (-23), 3) := by decide +kernel
theorem dX6_reduce_63 : decode cX6_reduce 63 = .ok (.aload_n 0, 1) := by decide +kernel
theorem dX6_reduce_64 : decode cX6_reduce 64 = .ok (.aload_n 0, 1) := by decide +kernel
theorem dX6_reduce_65 : decode cX6_reduce 65 = .ok (.getfield 58, 3) := by decide +kernel
theorem dX6_reduce_68 : decode cX6_reduce 68 = .ok (.iload_n 2, 1) := by decide +kernel
theorem dX6_reduce_69 : decode cX6_reduce 69 = .ok (.invokevirtual 247, 3) := by decide +kernel
theorem dX6_reduce_72 : decode cX6_reduce 72 = .ok (.ireturn, 1) := by decide +kernel
theorem dX6_exchange_0 : decode cX6_exchange 0 = .ok (.aload_n 0, 1) := by decide +kernel
theorem dX6_exchange_1 : decode cX6_exchange 1 = .ok (.iload_n 1, 1) := by decide +kernel
theorem dX6_exchange_2 : decode cX6_exchange 2 = .ok (.iload_n 2, 1) := by decide +kernel
theorem dX6_exchange_3 : decode cX6_exchange 3 = .ok (.iload_n 3, 1) := by decide +kernel
theorem dX6_exchange_4 : decode cX6_exchange 4 = .ok (.invokevirtual 109, 3) := by decide +kernel
theorem dX6_exchange_7 : decode cX6_exchange 7 = .ok (.aload_n 0, 1) := by decide +kernel
theorem dX6_exchange_8 : decode cX6_exchange 8 = .ok (.invokevirtual 222, 3) := by decide +kernel
theorem dX6_exchange_11 : decode cX6_exchange 11 = .ok (.aload_n 0, 1) := by decide +kernel
theorem dX6_exchange_12 : decode cX6_exchange 12 = .ok (.iload_n 1, 1) := by decide +kernel
theorem dX6_exchange_13 : decode cX6_exchange 13 = .ok (.invokevirtual 112, 3) := by decide +kernel
theorem dX6_exchange_16 : decode cX6_exchange 16 = .ok (.astore 4, 2) := by decide +kernel
theorem dX6_exchange_18 : decode cX6_exchange 18 = .ok (.iconst 0, 1) := by decide +kernel
theorem dX6_exchange_19 : decode cX6_exchange 19 = .ok (.istore 5, 2) := by decide +kernel
theorem dX6_exchange_21 : decode cX6_exchange 21 = .ok (.iconst 0, 1) := by decide +kernel
theorem dX6_exchange_22 : decode cX6_exchange 22 = .ok (.istore 6, 2) := by decide +kernel
theorem dX6_exchange_24 : decode cX6_exchange 24 = .ok (.iload 6, 2) := by decide +kernel
theorem dX6_exchange_26 : decode cX6_exchange 26 = .ok (.aload_n 0, 1) := by decide +kernel
theorem dX6_exchange_27 : decode cX6_exchange 27 = .ok (.getfield 19, 3) := by decide +kernel
theorem dX6_exchange_30 : decode cX6_exchange 30 = .ok (.getfield 89, 3) := by decide +kernel
theorem dX6_exchange_33 : decode cX6_exchange 33 = .ok (.if_icmp .ge 71, 3) := by decide +kernel
theorem dX6_exchange_36 : decode cX6_exchange 36 = .ok (.iload 6, 2) := by decide +kernel
theorem dX6_exchange_38 : decode cX6_exchange 38 = .ok (.iload_n 2, 1) := by decide +kernel
theorem dX6_exchange_39 : decode cX6_exchange 39 = .ok (.if_icmp .ne 7, 3) := by decide +kernel
theorem dX6_exchange_42 : decode cX6_exchange 42 = .ok (.iload_n 3, 1) := by decide +kernel
theorem dX6_exchange_43 : decode cX6_exchange 43 = .ok (.goto 15, 3) := by decide +kernel
theorem dX6_exchange_46 : decode cX6_exchange 46 = .ok (.iload 6, 2) := by decide +kernel
theorem dX6_exchange_48 : decode cX6_exchange 48 = .ok (.iload_n 3, 1) := by decide +kernel
theorem dX6_exchange_49 : decode cX6_exchange 49 = .ok (.if_icmp .ne 7, 3) := by decide +kernel
theorem dX6_exchange_52 : decode cX6_exchange 52 = .ok (.iload_n 2, 1) := by decide +kernel
theorem dX6_exchange_53 : decode cX6_exchange 53 = .ok (.goto 5, 3) := by decide +kernel
theorem dX6_exchange_56 : decode cX6_exchange 56 = .ok (.iload 6, 2) := by decide +kernel
theorem dX6_exchange_58 : decode cX6_exchange 58 = .ok (.istore 7, 2) := by decide +kernel
theorem dX6_exchange_60 : decode cX6_exchange 60 = .ok (.aload_n 0, 1) := by decide +kernel
theorem dX6_exchange_61 : decode cX6_exchange 61 = .ok (.getfield 58, 3) := by decide +kernel
theorem dX6_exchange_64 : decode cX6_exchange 64 = .ok (.iload 6, 2) := by decide +kernel
theorem dX6_exchange_66 : decode cX6_exchange 66 = .ok (.aload 4, 2) := by decide +kernel
theorem dX6_exchange_68 : decode cX6_exchange 68 = .ok (.iload 7, 2) := by decide +kernel
theorem dX6_exchange_70 : decode cX6_exchange 70 = .ok (.iaload, 1) := by decide +kernel
theorem dX6_exchange_71 : decode cX6_exchange 71 = .ok (.iload_n 2, 1) := by decide +kernel
theorem dX6_exchange_72 : decode cX6_exchange 72 = .ok (.iload_n 3, 1) := by decide +kernel
theorem dX6_exchange_73 : decode cX6_exchange 73 = .ok (.invokestatic 285, 3) := by decide +kernel
theorem dX6_exchange_76 : decode cX6_exchange 76 = .ok (.iastore, 1) := by decide +kernel
theorem dX6_exchange_77 : decode cX6_exchange 77 = .ok (.iload 5, 2) := by decide +kernel
theorem dX6_exchange_79 : decode cX6_exchange 79 = .ok (.aload_n 0, 1) := by decide +kernel
theorem dX6_exchange_80 : decode cX6_exchange 80 = .ok (.getfield 58, 3) := by decide +kernel
theorem dX6_exchange_83 : decode cX6_exchange 83 = .ok (.iload 6, 2) := by decide +kernel
theorem dX6_exchange_85 : decode cX6_exchange 85 = .ok (.iaload, 1) := by decide +kernel
theorem dX6_exchange_86 : decode cX6_exchange 86 = .ok (.aload 4, 2) := by decide +kernel
theorem dX6_exchange_88 : decode cX6_exchange 88 = .ok (.iload 6, 2) := by decide +kernel
theorem dX6_exchange_90 : decode cX6_exchange 90 = .ok (.iaload, 1) := by decide +kernel
theorem dX6_exchange_91 : decode cX6_exchange 91 = .ok (.ixor, 1) := by decide +kernel
theorem dX6_exchange_92 : decode cX6_exchange 92 = .ok (.invokestatic 132, 3) := by decide +kernel
theorem dX6_exchange_95 : decode cX6_exchange 95 = .ok (.iadd, 1) := by decide +kernel
theorem dX6_exchange_96 : decode cX6_exchange 96 = .ok (.istore 5, 2) := by decide +kernel
theorem dX6_exchange_98 : decode cX6_exchange 98 = .ok (.iinc 6 1, 3) := by decide +kernel
theorem dX6_exchange_101 : decode cX6_exchange 101 = .ok (.goto (-77), 3) := by decide +kernel
theorem dX6_exchange_104 : decode cX6_exchange 104 = .ok (.aload_n 0, 1) := by decide +kernel
theorem dX6_exchange_105 : decode cX6_exchange 105 = .ok (.aload_n 0, 1) := by decide +kernel
theorem dX6_exchange_106 : decode cX6_exchange 106 = .ok (.getfield 58, 3) := by decide +kernel
theorem dX6_exchange_109 : decode cX6_exchange 109 = .ok (.iload_n 1, 1) := by decide +kernel
theorem dX6_exchange_110 : decode cX6_exchange 110 = .ok (.invokevirtual 247, 3) := by decide +kernel
theorem dX6_exchange_113 : decode cX6_exchange 113 = .ok (.pop, 1) := by decide +kernel
theorem dX6_exchange_114 : decode cX6_exchange 114 = .ok (.iload 5, 2) := by decide +kernel
theorem dX6_exchange_116 : decode cX6_exchange 116 = .ok (.ireturn, 1) := by decide +kernel
theorem dX6_keep_0 : decode cX6_keep 0 = .ok (.aload_n 0, 1) := by decide +kernel
theorem dX6_keep_1 : decode cX6_keep 1 = .ok (.iload_n 1, 1) := by decide +kernel
theorem dX6_keep_2 : decode cX6_keep 2 = .ok (.invokevirtual 141, 3) := by decide +kernel
theorem dX6_keep_5 : decode cX6_keep 5 = .ok (.aload_n 0, 1) := by decide +kernel
theorem dX6_keep_6 : decode cX6_keep 6 = .ok (.invokevirtual 222, 3) := by decide +kernel
theorem dX6_keep_9 : decode cX6_keep 9 = .ok (.aload_n 0, 1) := by decide +kernel
theorem dX6_keep_10 : decode cX6_keep 10 = .ok (.getfield 19, 3) := by decide +kernel
theorem dX6_keep_13 : decode cX6_keep 13 = .ok (.getfield 225, 3) := by decide +kernel
theorem dX6_keep_16 : decode cX6_keep 16 = .ok (.iload_n 1, 1) := by decide +kernel
theorem dX6_keep_17 : decode cX6_keep 17 = .ok (.aaload, 1) := by decide +kernel
theorem dX6_keep_18 : decode cX6_keep 18 = .ok (.astore_n 3, 1) := by decide +kernel
theorem dX6_keep_19 : decode cX6_keep 19 = .ok (.aload_n 3, 1) := by decide +kernel
theorem dX6_keep_20 : decode cX6_keep 20 = .ok (.iload_n 2, 1) := by decide +kernel
theorem dX6_keep_21 : decode cX6_keep 21 = .ok (.putfield 288, 3) := by decide +kernel
theorem dX6_keep_24 : decode cX6_keep 24 = .ok (.aload_n 3, 1) := by decide +kernel
theorem dX6_keep_25 : decode cX6_keep 25 = .ok (.aload_n 0, 1) := by decide +kernel
theorem dX6_keep_26 : decode cX6_keep 26 = .ok (.getfield 19, 3) := by decide +kernel
theorem dX6_keep_29 : decode cX6_keep 29 = .ok (.getfield 89, 3) := by decide +kernel
theorem dX6_keep_32 : decode cX6_keep 32 = .ok (.invokevirtual 292, 3) := by decide +kernel
theorem dX6_keep_35 : decode cX6_keep 35 = .ok (.aload_n 0, 1) := by decide +kernel
theorem dX6_keep_36 : decode cX6_keep 36 = .ok (.invokevirtual 102, 3) := by decide +kernel
theorem dX6_keep_39 : decode cX6_keep 39 = .ok (.ireturn, 1) := by decide +kernel
theorem dX6_setBlock_0 : decode cX6_setBlock 0 = .ok (.aload_n 0, 1) := by decide +kernel
theorem dX6_setBlock_1 : decode cX6_setBlock 1 = .ok (.iload_n 1, 1) := by decide +kernel
theorem dX6_setBlock_2 : decode cX6_setBlock 2 = .ok (.iconst 1, 1) := by decide +kernel
theorem dX6_setBlock_3 : decode cX6_setBlock 3 = .ok (.bipush 8, 2) := by decide +kernel
theorem dX6_setBlock_5 : decode cX6_setBlock 5 = .ok (.invokevirtual 95, 3) := by decide +kernel
theorem dX6_setBlock_8 : decode cX6_setBlock 8 = .ok (.aload_n 0, 1) := by decide +kernel
theorem dX6_setBlock_9 : decode cX6_setBlock 9 = .ok (.invokevirtual 222, 3) := by decide +kernel
theorem dX6_setBlock_12 : decode cX6_setBlock 12 = .ok (.aload_n 0, 1) := by decide +kernel
theorem dX6_setBlock_13 : decode cX6_setBlock 13 = .ok (.getfield 19, 3) := by decide +kernel
theorem dX6_setBlock_16 : decode cX6_setBlock 16 = .ok (.getfield 99, 3) := by decide +kernel
theorem dX6_setBlock_19 : decode cX6_setBlock 19 = .ok (.istore_n 2, 1) := by decide +kernel
theorem dX6_setBlock_20 : decode cX6_setBlock 20 = .ok (.aload_n 0, 1) := by decide +kernel
theorem dX6_setBlock_21 : decode cX6_setBlock 21 = .ok (.getfield 19, 3) := by decide +kernel
theorem dX6_setBlock_24 : decode cX6_setBlock 24 = .ok (.iload_n 1, 1) := by decide +kernel
theorem dX6_setBlock_25 : decode cX6_setBlock 25 = .ok (.putfield 99, 3) := by decide +kernel
theorem dX6_setBlock_28 : decode cX6_setBlock 28 = .ok (.iload_n 2, 1) := by decide +kernel
theorem dX6_setBlock_29 : decode cX6_setBlock 29 = .ok (.ireturn, 1) := by decide +kernel
theorem dX6_kept_0 : decode cX6_kept 0 = .ok (.aload_n 0, 1) := by decide +kernel
theorem dX6_kept_1 : decode cX6_kept 1 = .ok (.iload_n 1, 1) := by decide +kernel
theorem dX6_kept_2 : decode cX6_kept 2 = .ok (.invokevirtual 141, 3) := by decide +kernel
theorem dX6_kept_5 : decode cX6_kept 5 = .ok (.aload_n 0, 1) := by decide +kernel
theorem dX6_kept_6 : decode cX6_kept 6 = .ok (.iload_n 2, 1) := by decide +kernel
theorem dX6_kept_7 : decode cX6_kept 7 = .ok (.iconst 0, 1) := by decide +kernel
theorem dX6_kept_8 : decode cX6_kept 8 = .ok (.iconst 2, 1) := by decide +kernel
theorem dX6_kept_9 : decode cX6_kept 9 = .ok (.invokevirtual 95, 3) := by decide +kernel
theorem dX6_kept_12 : decode cX6_kept 12 = .ok (.aload_n 0, 1) := by decide +kernel
theorem dX6_kept_13 : decode cX6_kept 13 = .ok (.getfield 19, 3) := by decide +kernel
theorem dX6_kept_16 : decode cX6_kept 16 = .ok (.getfield 225, 3) := by decide +kernel
theorem dX6_kept_19 : decode cX6_kept 19 = .ok (.iload_n 1, 1) := by decide +kernel
theorem dX6_kept_20 : decode cX6_kept 20 = .ok (.aaload, 1) := by decide +kernel
theorem dX6_kept_21 : decode cX6_kept 21 = .ok (.astore_n 3, 1) := by decide +kernel
theorem dX6_kept_22 : decode cX6_kept 22 = .ok (.aload_n 3, 1) := by decide +kernel
theorem dX6_kept_23 : decode cX6_kept 23 = .ok (.getfield 288, 3) := by decide +kernel
theorem dX6_kept_26 : decode cX6_kept 26 = .ok (.ifCond .ne 5, 3) := by decide +kernel
theorem dX6_kept_29 : decode cX6_kept 29 = .ok (.iconst (-1), 1) := by decide +kernel
theorem dX6_kept_30 : decode cX6_kept 30 = .ok (.ireturn, 1) := by decide +kernel
theorem dX6_kept_31 : decode cX6_kept 31 = .ok (.iload_n 2, 1) := by decide +kernel
theorem dX6_kept_32 : decode cX6_kept 32 = .ok (.lookupswitch 38 #[(0, 28), (1, 33)], 28) := by decide +kernel
theorem dX6_kept_60 : decode cX6_kept 60 = .ok (.aload_n 3, 1) := by decide +kernel
theorem dX6_kept_61 : decode cX6_kept 61 = .ok (.getfield 295, 3) := by decide +kernel
theorem dX6_kept_64 : decode cX6_kept 64 = .ok (.ireturn, 1) := by decide +kernel
theorem dX6_kept_65 : decode cX6_kept 65 = .ok (.aload_n 3, 1) := by decide +kernel
theorem dX6_kept_66 : decode cX6_kept 66 = .ok (.getfield 298, 3) := by decide +kernel
theorem dX6_kept_69 : decode cX6_kept 69 = .ok (.ireturn, 1) := by decide +kernel
theorem dX6_kept_70 : decode cX6_kept 70 = .ok (.aload_n 3, 1) := by decide +kernel
theorem dX6_kept_71 : decode cX6_kept 71 = .ok (.getfield 301, 3) := by decide +kernel
theorem dX6_kept_74 : decode cX6_kept 74 = .ok (.ireturn, 1) := by decide +kernel
theorem dX6_work_0 : decode cX6_work 0 = .ok (.aload_n 0, 1) := by decide +kernel
theorem dX6_work_1 : decode cX6_work 1 = .ok (.iload_n 1, 1) := by decide +kernel
theorem dX6_work_2 : decode cX6_work 2 = .ok (.iconst 0, 1) := by decide +kernel
theorem dX6_work_3 : decode cX6_work 3 = .ok (.iconst 1, 1) := by decide +kernel
theorem dX6_work_4 : decode cX6_work 4 = .ok (.invokevirtual 95, 3) := by decide +kernel
theorem dX6_work_7 : decode cX6_work 7 = .ok (.iload_n 1, 1) := by decide +kernel
theorem dX6_work_8 : decode cX6_work 8 = .ok (.ifCond .ne 13, 3) := by decide +kernel
theorem dX6_work_11 : decode cX6_work 11 = .ok (.aload_n 0, 1) := by decide +kernel
theorem dX6_work_12 : decode cX6_work 12 = .ok (.getfield 19, 3) := by decide +kernel
theorem dX6_work_15 : decode cX6_work 15 = .ok (.getfield 304, 3) := by decide +kernel
theorem dX6_work_18 : decode cX6_work 18 = .ok (.goto 10, 3) := by decide +kernel
theorem dX6_work_21 : decode cX6_work 21 = .ok (.aload_n 0, 1) := by decide +kernel
theorem dX6_work_22 : decode cX6_work 22 = .ok (.getfield 19, 3) := by decide +kernel
theorem dX6_work_25 : decode cX6_work 25 = .ok (.getfield 307, 3) := by decide +kernel
theorem dX6_work_28 : decode cX6_work 28 = .ok (.ireturn, 1) := by decide +kernel
theorem dX6_writeRow_0 : decode cX6_writeRow 0 = .ok (.aload_n 0, 1) := by decide +kernel
theorem dX6_writeRow_1 : decode cX6_writeRow 1 = .ok (.iload_n 1, 1) := by decide +kernel
theorem dX6_writeRow_2 : decode cX6_writeRow 2 = .ok (.iload_n 2, 1) := by decide +kernel
theorem dX6_writeRow_3 : decode cX6_writeRow 3 = .ok (.invokevirtual 120, 3) := by decide +kernel
theorem dX6_writeRow_6 : decode cX6_writeRow 6 = .ok (.aload_n 0, 1) := by decide +kernel
theorem dX6_writeRow_7 : decode cX6_writeRow 7 = .ok (.iload_n 1, 1) := by decide +kernel
theorem dX6_writeRow_8 : decode cX6_writeRow 8 = .ok (.invokevirtual 112, 3) := by decide +kernel
theorem dX6_writeRow_11 : decode cX6_writeRow 11 = .ok (.iload_n 2, 1) := by decide +kernel
theorem dX6_writeRow_12 : decode cX6_writeRow 12 = .ok (.iaload, 1) := by decide +kernel
theorem dX6_writeRow_13 : decode cX6_writeRow 13 = .ok (.istore_n 3, 1) := by decide +kernel
theorem dX6_writeRow_14 : decode cX6_writeRow 14 = .ok (.aload_n 0, 1) := by decide +kernel
theorem dX6_writeRow_15 : decode cX6_writeRow 15 = .ok (.aload_n 0, 1) := by decide +kernel
theorem dX6_writeRow_16 : decode cX6_writeRow 16 = .ok (.getfield 19, 3) := by decide +kernel
theorem dX6_writeRow_19 : decode cX6_writeRow 19 = .ok (.getfield 89, 3) := by decide +kernel
theorem dX6_writeRow_22 : decode cX6_writeRow 22 = .ok (.putfield 86, 3) := by decide +kernel
theorem dX6_writeRow_25 : decode cX6_writeRow 25 = .ok (.iconst 0, 1) := by decide +kernel
theorem dX6_writeRow_26 : decode cX6_writeRow 26 = .ok (.istore 4, 2) := by decide +kernel
theorem dX6_writeRow_28 : decode cX6_writeRow 28 = .ok (.iload 4, 2) := by decide +kernel
theorem dX6_writeRow_30 : decode cX6_writeRow 30 = .ok (.aload_n 0, 1) := by decide +kernel
theorem dX6_writeRow_31 : decode cX6_writeRow 31 = .ok (.getfield 86, 3) := by decide +kernel
theorem dX6_writeRow_34 : decode cX6_writeRow 34 = .ok (.if_icmp .ge 32, 3) := by decide +kernel
theorem dX6_writeRow_37 : decode cX6_writeRow 37 = .ok (.aload_n 0, 1) := by decide +kernel
theorem dX6_writeRow_38 : decode cX6_writeRow 38 = .ok (.getfield 65, 3) := by decide +kernel
theorem dX6_writeRow_41 : decode cX6_writeRow 41 = .ok (.iload 4, 2) := by decide +kernel
theorem dX6_writeRow_43 : decode cX6_writeRow 43 = .ok (.iload_n 3, 1) := by decide +kernel
theorem dX6_writeRow_44 : decode cX6_writeRow 44 = .ok (.iload 4, 2) := by decide +kernel
theorem dX6_writeRow_46 : decode cX6_writeRow 46 = .ok (.invokestatic 116, 3) := by decide +kernel
theorem dX6_writeRow_49 : decode cX6_writeRow 49 = .ok (.ifCond .eq 8, 3) := by decide +kernel
theorem dX6_writeRow_52 : decode cX6_writeRow 52 = .ok (.bipush 49, 2) := by decide +kernel
theorem dX6_writeRow_54 : decode cX6_writeRow 54 = .ok (.goto 5, 3) := by decide +kernel
theorem dX6_writeRow_57 : decode cX6_writeRow 57 = .ok (.bipush 48, 2) := by decide +kernel
theorem dX6_writeRow_59 : decode cX6_writeRow 59 = .ok (.iastore, 1) := by decide +kernel
theorem dX6_writeRow_60 : decode cX6_writeRow 60 = .ok (.iinc 4 1, 3) := by decide +kernel
theorem dX6_writeRow_63 : decode cX6_writeRow 63 = .ok (.goto (-35), 3) := by decide +kernel
theorem dX6_writeRow_66 : decode cX6_writeRow 66 = .ok (.aload_n 0, 1) := by decide +kernel
theorem dX6_writeRow_67 : decode cX6_writeRow 67 = .ok (.getfield 86, 3) := by decide +kernel
theorem dX6_writeRow_70 : decode cX6_writeRow 70 = .ok (.ireturn, 1) := by decide +kernel
theorem dX6_outputByte_0 : decode cX6_outputByte 0 = .ok (.iload_n 1, 1) := by decide +kernel
theorem dX6_outputByte_1 : decode cX6_outputByte 1 = .ok (.ifCond .lt 20, 3) := by decide +kernel
theorem dX6_outputByte_4 : decode cX6_outputByte 4 = .ok (.iload_n 1, 1) := by decide +kernel
theorem dX6_outputByte_5 : decode cX6_outputByte 5 = .ok (.aload_n 0, 1) := by decide +kernel
theorem dX6_outputByte_6 : decode cX6_outputByte 6 = .ok (.getfield 86, 3) := by decide +kernel
theorem dX6_outputByte_9 : decode cX6_outputByte 9 = .ok (.if_icmp .ge 12, 3) := by decide +kernel
theorem dX6_outputByte_12 : decode cX6_outputByte 12 = .ok (.aload_n 0, 1) := by decide +kernel
theorem dX6_outputByte_13 : decode cX6_outputByte 13 = .ok (.getfield 65, 3) := by decide +kernel
theorem dX6_outputByte_16 : decode cX6_outputByte 16 = .ok (.iload_n 1, 1) := by decide +kernel
theorem dX6_outputByte_17 : decode cX6_outputByte 17 = .ok (.iaload, 1) := by decide +kernel
theorem dX6_outputByte_18 : decode cX6_outputByte 18 = .ok (.goto 4, 3) := by decide +kernel
theorem dX6_outputByte_21 : decode cX6_outputByte 21 = .ok (.iconst (-1), 1) := by decide +kernel
theorem dX6_outputByte_22 : decode cX6_outputByte 22 = .ok (.ireturn, 1) := by decide +kernel
theorem dX6_undo_0 : decode cX6_undo 0 = .ok (.aload_n 0, 1) := by decide +kernel
theorem dX6_undo_1 : decode cX6_undo 1 = .ok (.getfield 106, 3) := by decide +kernel
theorem dX6_undo_4 : decode cX6_undo 4 = .ok (.ifCond .ne 5, 3) := by decide +kernel
theorem dX6_undo_7 : decode cX6_undo 7 = .ok (.iconst (-1), 1) := by decide +kernel
theorem dX6_undo_8 : decode cX6_undo 8 = .ok (.ireturn, 1) := by decide +kernel
theorem dX6_undo_9 : decode cX6_undo 9 = .ok (.aload_n 0, 1) := by decide +kernel
theorem dX6_undo_10 : decode cX6_undo 10 = .ok (.dup, 1) := by decide +kernel
theorem dX6_undo_11 : decode cX6_undo 11 = .ok (.getfield 106, 3) := by decide +kernel
theorem dX6_undo_14 : decode cX6_undo 14 = .ok (.iconst 1, 1) := by decide +kernel
theorem dX6_undo_15 : decode cX6_undo 15 = .ok (.isub, 1) := by decide +kernel
theorem dX6_undo_16 : decode cX6_undo 16 = .ok (.putfield 106, 3) := by decide +kernel
theorem dX6_undo_19 : decode cX6_undo 19 = .ok (.aload_n 0, 1) := by decide +kernel
theorem dX6_undo_20 : decode cX6_undo 20 = .ok (.aload_n 0, 1) := by decide +kernel
theorem dX6_undo_21 : decode cX6_undo 21 = .ok (.getfield 310, 3) := by decide +kernel
theorem dX6_undo_24 : decode cX6_undo 24 = .ok (.ifCond .ne 8, 3) := by decide +kernel
theorem dX6_undo_27 : decode cX6_undo 27 = .ok (.bipush 7, 2) := by decide +kernel
theorem dX6_undo_29 : decode cX6_undo 29 = .ok (.goto 9, 3) := by decide +kernel
theorem dX6_undo_32 : decode cX6_undo 32 = .ok (.aload_n 0, 1) := by decide +kernel
theorem dX6_undo_33 : decode cX6_undo 33 = .ok (.getfield 310, 3) := by decide +kernel
theorem dX6_undo_36 : decode cX6_undo 36 = .ok (.iconst 1, 1) := by decide +kernel
theorem dX6_undo_37 : decode cX6_undo 37 = .ok (.isub, 1) := by decide +kernel
theorem dX6_undo_38 : decode cX6_undo 38 = .ok (.putfield 310, 3) := by decide +kernel
theorem dX6_undo_41 : decode cX6_undo 41 = .ok (.aload_n 0, 1) := by decide +kernel
theorem dX6_undo_42 : decode cX6_undo 42 = .ok (.getfield 19, 3) := by decide +kernel
theorem dX6_undo_45 : decode cX6_undo 45 = .ok (.aload_n 0, 1) := by decide +kernel
theorem dX6_undo_46 : decode cX6_undo 46 = .ok (.getfield 26, 3) := by decide +kernel
theorem dX6_undo_49 : decode cX6_undo 49 = .ok (.aload_n 0, 1) := by decide +kernel
theorem dX6_undo_50 : decode cX6_undo 50 = .ok (.getfield 310, 3) := by decide +kernel
theorem dX6_undo_53 : decode cX6_undo 53 = .ok (.aaload, 1) := by decide +kernel
theorem dX6_undo_54 : decode cX6_undo 54 = .ok (.invokevirtual 313, 3) := by decide +kernel
theorem dX6_undo_57 : decode cX6_undo 57 = .ok (.aload_n 0, 1) := by decide +kernel
theorem dX6_undo_58 : decode cX6_undo 58 = .ok (.invokevirtual 316, 3) := by decide +kernel
theorem dX6_undo_61 : decode cX6_undo 61 = .ok (.aload_n 0, 1) := by decide +kernel
theorem dX6_undo_62 : decode cX6_undo 62 = .ok (.getfield 106, 3) := by decide +kernel
theorem dX6_undo_65 : decode cX6_undo 65 = .ok (.ireturn, 1) := by decide +kernel
theorem dX6_saveSnapshot_0 : decode cX6_saveSnapshot 0 = .ok (.aload_n 0, 1) := by decide +kernel
theorem dX6_saveSnapshot_1 : decode cX6_saveSnapshot 1 = .ok (.iload_n 1, 1) := by decide +kernel
theorem dX6_saveSnapshot_2 : decode cX6_saveSnapshot 2 = .ok (.iconst 0, 1) := by decide +kernel
theorem dX6_saveSnapshot_3 : decode cX6_saveSnapshot 3 = .ok (.iconst 1, 1) := by decide +kernel
theorem dX6_saveSnapshot_4 : decode cX6_saveSnapshot 4 = .ok (.invokevirtual 95, 3) := by decide +kernel
theorem dX6_saveSnapshot_7 : decode cX6_saveSnapshot 7 = .ok (.aload_n 0, 1) := by decide +kernel
theorem dX6_saveSnapshot_8 : decode cX6_saveSnapshot 8 = .ok (.getfield 30, 3) := by decide +kernel
theorem dX6_saveSnapshot_11 : decode cX6_saveSnapshot 11 = .ok (.iload_n 1, 1) := by decide +kernel
theorem dX6_saveSnapshot_12 : decode cX6_saveSnapshot 12 = .ok (.aaload, 1) := by decide +kernel
theorem dX6_saveSnapshot_13 : decode cX6_saveSnapshot 13 = .ok (.aload_n 0, 1) := by decide +kernel
theorem dX6_saveSnapshot_14 : decode cX6_saveSnapshot 14 = .ok (.getfield 19, 3) := by decide +kernel
theorem dX6_saveSnapshot_17 : decode cX6_saveSnapshot 17 = .ok (.invokevirtual 313, 3) := by decide +kernel
theorem dX6_saveSnapshot_20 : decode cX6_saveSnapshot 20 = .ok (.aload_n 0, 1) := by decide +kernel
theorem dX6_saveSnapshot_21 : decode cX6_saveSnapshot 21 = .ok (.getfield 33, 3) := by decide +kernel
theorem dX6_saveSnapshot_24 : decode cX6_saveSnapshot 24 = .ok (.iload_n 1, 1) := by decide +kernel
theorem dX6_saveSnapshot_25 : decode cX6_saveSnapshot 25 = .ok (.iconst 1, 1) := by decide +kernel
theorem dX6_saveSnapshot_26 : decode cX6_saveSnapshot 26 = .ok (.bastore, 1) := by decide +kernel
theorem dX6_saveSnapshot_27 : decode cX6_saveSnapshot 27 = .ok (.aload_n 0, 1) := by decide +kernel
theorem dX6_saveSnapshot_28 : decode cX6_saveSnapshot 28 = .ok (.getfield 19, 3) := by decide +kernel
theorem dX6_saveSnapshot_31 : decode cX6_saveSnapshot 31 = .ok (.getfield 89, 3) := by decide +kernel
theorem dX6_saveSnapshot_34 : decode cX6_saveSnapshot 34 = .ok (.ireturn, 1) := by decide +kernel
theorem dX6_restoreSnapshot_0 : decode cX6_restoreSnapshot 0 = .ok (.aload_n 0, 1) := by decide +kernel
theorem dX6_restoreSnapshot_1 : decode cX6_restoreSnapshot 1 = .ok (.iload_n 1, 1) := by decide +kernel
theorem dX6_restoreSnapshot_2 : decode cX6_restoreSnapshot 2 = .ok (.iconst 0, 1) := by decide +kernel
theorem dX6_restoreSnapshot_3 : decode cX6_restoreSnapshot 3 = .ok (.iconst 1, 1) := by decide +kernel
theorem dX6_restoreSnapshot_4 : decode cX6_restoreSnapshot 4 = .ok (.invokevirtual 95, 3) := by decide +kernel
theorem dX6_restoreSnapshot_7 : decode cX6_restoreSnapshot 7 = .ok (.aload_n 0, 1) := by decide +kernel
theorem dX6_restoreSnapshot_8 : decode cX6_restoreSnapshot 8 = .ok (.getfield 33, 3) := by decide +kernel
theorem dX6_restoreSnapshot_11 : decode cX6_restoreSnapshot 11 = .ok (.iload_n 1, 1) := by decide +kernel
theorem dX6_restoreSnapshot_12 : decode cX6_restoreSnapshot 12 = .ok (.baload, 1) := by decide +kernel
theorem dX6_restoreSnapshot_13 : decode cX6_restoreSnapshot 13 = .ok (.ifCond .ne 5, 3) := by decide +kernel
theorem dX6_restoreSnapshot_16 : decode cX6_restoreSnapshot 16 = .ok (.iconst (-1), 1) := by decide +kernel
theorem dX6_restoreSnapshot_17 : decode cX6_restoreSnapshot 17 = .ok (.ireturn, 1) := by decide +kernel
theorem dX6_restoreSnapshot_18 : decode cX6_restoreSnapshot 18 = .ok (.aload_n 0, 1) := by decide +kernel
theorem dX6_restoreSnapshot_19 : decode cX6_restoreSnapshot 19 = .ok (.aload_n 0, 1) := by decide +kernel
theorem dX6_restoreSnapshot_20 : decode cX6_restoreSnapshot 20 = .ok (.getfield 30, 3) := by decide +kernel
theorem dX6_restoreSnapshot_23 : decode cX6_restoreSnapshot 23 = .ok (.iload_n 1, 1) := by decide +kernel
theorem dX6_restoreSnapshot_24 : decode cX6_restoreSnapshot 24 = .ok (.aaload, 1) := by decide +kernel
theorem dX6_restoreSnapshot_25 : decode cX6_restoreSnapshot 25 = .ok (.invokevirtual 83, 3) := by decide +kernel
theorem dX6_restoreSnapshot_28 : decode cX6_restoreSnapshot 28 = .ok (.aload_n 0, 1) := by decide +kernel
theorem dX6_restoreSnapshot_29 : decode cX6_restoreSnapshot 29 = .ok (.getfield 19, 3) := by decide +kernel
theorem dX6_restoreSnapshot_32 : decode cX6_restoreSnapshot 32 = .ok (.getfield 89, 3) := by decide +kernel
theorem dX6_restoreSnapshot_35 : decode cX6_restoreSnapshot 35 = .ok (.ireturn, 1) := by decide +kernel
theorem dX6_needSlot_0 : decode cX6_needSlot 0 = .ok (.iload_n 1, 1) := by decide +kernel
theorem dX6_needSlot_1 : decode cX6_needSlot 1 = .ok (.ifCond .lt 9, 3) := by decide +kernel
theorem dX6_needSlot_4 : decode cX6_needSlot 4 = .ok (.iload_n 1, 1) := by decide +kernel
theorem dX6_needSlot_5 : decode cX6_needSlot 5 = .ok (.bipush 6, 2) := by decide +kernel
theorem dX6_needSlot_7 : decode cX6_needSlot 7 = .ok (.if_icmp .lt 14, 3) := by decide +kernel
theorem dX6_needSlot_10 : decode cX6_needSlot 10 = .ok (.new 319, 3) := by decide +kernel
theorem dX6_needSlot_13 : decode cX6_needSlot 13 = .ok (.dup, 1) := by decide +kernel
theorem dX6_needSlot_14 : decode cX6_needSlot 14 = .ok (.ldc_w 321, 3) := by decide +kernel
theorem dX6_needSlot_17 : decode cX6_needSlot 17 = .ok (.invokespecial 323, 3) := by decide +kernel
theorem dX6_needSlot_20 : decode cX6_needSlot 20 = .ok (.athrow, 1) := by decide +kernel
theorem dX6_needSlot_21 : decode cX6_needSlot 21 = .ok (.return_, 1) := by decide +kernel
theorem dX6_needNode_0 : decode cX6_needNode 0 = .ok (.iload_n 1, 1) := by decide +kernel
theorem dX6_needNode_1 : decode cX6_needNode 1 = .ok (.ifCond .lt 14, 3) := by decide +kernel
theorem dX6_needNode_4 : decode cX6_needNode 4 = .ok (.iload_n 1, 1) := by decide +kernel
theorem dX6_needNode_5 : decode cX6_needNode 5 = .ok (.aload_n 0, 1) := by decide +kernel
theorem dX6_needNode_6 : decode cX6_needNode 6 = .ok (.getfield 19, 3) := by decide +kernel
theorem dX6_needNode_9 : decode cX6_needNode 9 = .ok (.getfield 89, 3) := by decide +kernel
theorem dX6_needNode_12 : decode cX6_needNode 12 = .ok (.if_icmp .lt 14, 3) := by decide +kernel
theorem dX6_needNode_15 : decode cX6_needNode 15 = .ok (.new 319, 3) := by decide +kernel
theorem dX6_needNode_18 : decode cX6_needNode 18 = .ok (.dup, 1) := by decide +kernel
theorem dX6_needNode_19 : decode cX6_needNode 19 = .ok (.ldc_w 326, 3) := by decide +kernel
theorem dX6_needNode_22 : decode cX6_needNode 22 = .ok (.invokespecial 323, 3) := by decide +kernel
theorem dX6_needNode_25 : decode cX6_needNode 25 = .ok (.athrow, 1) := by decide +kernel
theorem dX6_needNode_26 : decode cX6_needNode 26 = .ok (.return_, 1) := by decide +kernel
theorem dX6_needRow_0 : decode cX6_needRow 0 = .ok (.aload_n 0, 1) := by decide +kernel
theorem dX6_needRow_1 : decode cX6_needRow 1 = .ok (.iload_n 1, 1) := by decide +kernel
theorem dX6_needRow_2 : decode cX6_needRow 2 = .ok (.invokevirtual 141, 3) := by decide +kernel
theorem dX6_needRow_5 : decode cX6_needRow 5 = .ok (.aload_n 0, 1) := by decide +kernel
theorem dX6_needRow_6 : decode cX6_needRow 6 = .ok (.iload_n 2, 1) := by decide +kernel
theorem dX6_needRow_7 : decode cX6_needRow 7 = .ok (.invokevirtual 328, 3) := by decide +kernel
theorem dX6_needRow_10 : decode cX6_needRow 10 = .ok (.return_, 1) := by decide +kernel
theorem dX6_needCell_0 : decode cX6_needCell 0 = .ok (.aload_n 0, 1) := by decide +kernel
theorem dX6_needCell_1 : decode cX6_needCell 1 = .ok (.iload_n 1, 1) := by decide +kernel
theorem dX6_needCell_2 : decode cX6_needCell 2 = .ok (.iload_n 2, 1) := by decide +kernel
theorem dX6_needCell_3 : decode cX6_needCell 3 = .ok (.invokevirtual 120, 3) := by decide +kernel
theorem dX6_needCell_6 : decode cX6_needCell 6 = .ok (.aload_n 0, 1) := by decide +kernel
theorem dX6_needCell_7 : decode cX6_needCell 7 = .ok (.iload_n 3, 1) := by decide +kernel
theorem dX6_needCell_8 : decode cX6_needCell 8 = .ok (.invokevirtual 328, 3) := by decide +kernel
theorem dX6_needCell_11 : decode cX6_needCell 11 = .ok (.return_, 1) := by decide +kernel
theorem dX6_needRange_0 : decode cX6_needRange 0 = .ok (.iload_n 1, 1) := by decide +kernel
theorem dX6_needRange_1 : decode cX6_needRange 1 = .ok (.iload_n 2, 1) := by decide +kernel
theorem dX6_needRange_2 : decode cX6_needRange 2 = .ok (.if_icmp .lt 8, 3) := by decide +kernel
theorem dX6_needRange_5 : decode cX6_needRange 5 = .ok (.iload_n 1, 1) := by decide +kernel
theorem dX6_needRange_6 : decode cX6_needRange 6 = .ok (.iload_n 3, 1) := by decide +kernel
theorem dX6_needRange_7 : decode cX6_needRange 7 = .ok (.if_icmp .le 14, 3) := by decide +kernel
theorem dX6_needRange_10 : decode cX6_needRange 10 = .ok (.new 331, 3) := by decide +kernel
theorem dX6_needRange_13 : decode cX6_needRange 13 = .ok (.dup, 1) := by decide +kernel
theorem dX6_needRange_14 : decode cX6_needRange 14 = .ok (.ldc_w 333, 3) := by decide +kernel
theorem dX6_needRange_17 : decode cX6_needRange 17 = .ok (.invokespecial 335, 3) := by decide +kernel
theorem dX6_needRange_20 : decode cX6_needRange 20 = .ok (.athrow, 1) := by decide +kernel
theorem dX6_needRange_21 : decode cX6_needRange 21 = .ok (.return_, 1) := by decide +kernel
theorem dX6_rowsOf_0 : decode cX6_rowsOf 0 = .ok (.aload_n 0, 1) := by decide +kernel
theorem dX6_rowsOf_1 : decode cX6_rowsOf 1 = .ok (.getfield 19, 3) := by decide +kernel
theorem dX6_rowsOf_4 : decode cX6_rowsOf 4 = .ok (.getfield 225, 3) := by decide +kernel
theorem dX6_rowsOf_7 : decode cX6_rowsOf 7 = .ok (.iload_n 1, 1) := by decide +kernel
theorem dX6_rowsOf_8 : decode cX6_rowsOf 8 = .ok (.aaload, 1) := by decide +kernel
theorem dX6_rowsOf_9 : decode cX6_rowsOf 9 = .ok (.getfield 229, 3) := by decide +kernel
theorem dX6_rowsOf_12 : decode cX6_rowsOf 12 = .ok (.areturn, 1) := by decide +kernel
theorem dX6_keptSlots_0 : decode cX6_keptSlots 0 = .ok (.iconst 0, 1) := by decide +kernel
theorem dX6_keptSlots_1 : decode cX6_keptSlots 1 = .ok (.istore_n 1, 1) := by decide +kernel
theorem dX6_keptSlots_2 : decode cX6_keptSlots 2 = .ok (.iconst 0, 1) := by decide +kernel
theorem dX6_keptSlots_3 : decode cX6_keptSlots 3 = .ok (.istore_n 2, 1) := by decide +kernel
theorem dX6_keptSlots_4 : decode cX6_keptSlots 4 = .ok (.iload_n 2, 1) := by decide +kernel
theorem dX6_keptSlots_5 : decode cX6_keptSlots 5 = .ok (.bipush 6, 2) := by decide +kernel
theorem dX6_keptSlots_7 : decode cX6_keptSlots 7 = .ok (.if_icmp .ge 27, 3) := by decide +kernel
theorem dX6_keptSlots_10 : decode cX6_keptSlots 10 = .ok (.aload_n 0, 1) := by decide +kernel
theorem dX6_keptSlots_11 : decode cX6_keptSlots 11 = .ok (.getfield 19, 3) := by decide +kernel
theorem dX6_keptSlots_14 : decode cX6_keptSlots 14 = .ok (.getfield 225, 3) := by decide +kernel
theorem dX6_keptSlots_17 : decode cX6_keptSlots 17 = .ok (.iload_n 2, 1) := by decide +kernel
theorem dX6_keptSlots_18 : decode cX6_keptSlots 18 = .ok (.aaload, 1) := by decide +kernel
theorem dX6_keptSlots_19 : decode cX6_keptSlots 19 = .ok (.getfield 288, 3) := by decide +kernel
theorem dX6_keptSlots_22 : decode cX6_keptSlots 22 = .ok (.ifCond .eq 6, 3) := by decide +kernel
theorem dX6_keptSlots_25 : decode cX6_keptSlots 25 = .ok (.iinc 1 1, 3) := by decide +kernel
theorem dX6_keptSlots_28 : decode cX6_keptSlots 28 = .ok (.iinc 2 1, 3) := by decide +kernel
theorem dX6_keptSlots_31 : decode cX6_keptSlots 31 = .ok (.goto (-27), 3) := by decide +kernel
theorem dX6_keptSlots_34 : decode cX6_keptSlots 34 = .ok (.iload_n 1, 1) := by decide +kernel
theorem dX6_keptSlots_35 : decode cX6_keptSlots 35 = .ok (.ireturn, 1) := by decide +kernel
theorem dX6_remember_0 : decode cX6_remember 0 = .ok (.aload_n 0, 1) := by decide +kernel
theorem dX6_remember_1 : decode cX6_remember 1 = .ok (.getfield 26, 3) := by decide +kernel
theorem dX6_remember_4 : decode cX6_remember 4 = .ok (.aload_n 0, 1) := by decide +kernel
theorem dX6_remember_5 : decode cX6_remember 5 = .ok (.getfield 310, 3) := by decide +kernel
theorem dX6_remember_8 : decode cX6_remember 8 = .ok (.aaload, 1) := by decide +kernel
theorem dX6_remember_9 : decode cX6_remember 9 = .ok (.aload_n 0, 1) := by decide +kernel
theorem dX6_remember_10 : decode cX6_remember 10 = .ok (.getfield 19, 3) := by decide +kernel
theorem dX6_remember_13 : decode cX6_remember 13 = .ok (.invokevirtual 313, 3) := by decide +kernel
theorem dX6_remember_16 : decode cX6_remember 16 = .ok (.aload_n 0, 1) := by decide +kernel
theorem dX6_remember_17 : decode cX6_remember 17 = .ok (.aload_n 0, 1) := by decide +kernel
theorem dX6_remember_18 : decode cX6_remember 18 = .ok (.getfield 310, 3) := by decide +kernel
theorem dX6_remember_21 : decode cX6_remember 21 = .ok (.bipush 7, 2) := by decide +kernel
theorem dX6_remember_23 : decode cX6_remember 23 = .ok (.if_icmp .ne 7, 3) := by decide +kernel
theorem dX6_remember_26 : decode cX6_remember 26 = .ok (.iconst 0, 1) := by decide +kernel
theorem dX6_remember_27 : decode cX6_remember 27 = .ok (.goto 9, 3) := by decide +kernel
theorem dX6_remember_30 : decode cX6_remember 30 = .ok (.aload_n 0, 1) := by decide +kernel
theorem dX6_remember_31 : decode cX6_remember 31 = .ok (.getfield 310, 3) := by decide +kernel
theorem dX6_remember_34 : decode cX6_remember 34 = .ok (.iconst 1, 1) := by decide +kernel
theorem dX6_remember_35 : decode cX6_remember 35 = .ok (.iadd, 1) := by decide +kernel
theorem dX6_remember_36 : decode cX6_remember 36 = .ok (.putfield 310, 3) := by decide +kernel
theorem dX6_remember_39 : decode cX6_remember 39 = .ok (.aload_n 0, 1) := by decide +kernel
theorem dX6_remember_40 : decode cX6_remember 40 = .ok (.aload_n 0, 1) := by decide +kernel
theorem dX6_remember_41 : decode cX6_remember 41 = .ok (.getfield 106, 3) := by decide +kernel
theorem dX6_remember_44 : decode cX6_remember 44 = .ok (.iconst 1, 1) := by decide +kernel
theorem dX6_remember_45 : decode cX6_remember 45 = .ok (.iadd, 1) := by decide +kernel
theorem dX6_remember_46 : decode cX6_remember 46 = .ok (.bipush 8, 2) := by decide +kernel
theorem dX6_remember_48 : decode cX6_remember 48 = .ok (.invokestatic 336, 3) := by decide +kernel
theorem dX6_remember_51 : decode cX6_remember 51 = .ok (.putfield 106, 3) := by decide +kernel
theorem dX6_remember_54 : decode cX6_remember 54 = .ok (.return_, 1) := by decide +kernel
theorem dX6_replaceState_0 : decode cX6_replaceState 0 = .ok (.aload_n 0, 1) := by decide +kernel
theorem dX6_replaceState_1 : decode cX6_replaceState 1 = .ok (.getfield 19, 3) := by decide +kernel
theorem dX6_replaceState_4 : decode cX6_replaceState 4 = .ok (.aload_n 1, 1) := by decide +kernel
theorem dX6_replaceState_5 : decode cX6_replaceState 5 = .ok (.invokevirtual 313, 3) := by decide +kernel
theorem dX6_replaceState_8 : decode cX6_replaceState 8 = .ok (.aload_n 0, 1) := by decide +kernel
theorem dX6_replaceState_9 : decode cX6_replaceState 9 = .ok (.iconst 0, 1) := by decide +kernel
theorem dX6_replaceState_10 : decode cX6_replaceState 10 = .ok (.putfield 106, 3) := by decide +kernel
theorem dX6_replaceState_13 : decode cX6_replaceState 13 = .ok (.aload_n 0, 1) := by decide +kernel
theorem dX6_replaceState_14 : decode cX6_replaceState 14 = .ok (.invokevirtual 316, 3) := by decide +kernel
theorem dX6_replaceState_17 : decode cX6_replaceState 17 = .ok (.return_, 1) := by decide +kernel
theorem dX6_dropClosures_0 : decode cX6_dropClosures 0 = .ok (.iconst 0, 1) := by decide +kernel
theorem dX6_dropClosures_1 : decode cX6_dropClosures 1 = .ok (.istore_n 1, 1) := by decide +kernel
theorem dX6_dropClosures_2 : decode cX6_dropClosures 2 = .ok (.iload_n 1, 1) := by decide +kernel
theorem dX6_dropClosures_3 : decode cX6_dropClosures 3 = .ok (.bipush 6, 2) := by decide +kernel
theorem dX6_dropClosures_5 : decode cX6_dropClosures 5 = .ok (.if_icmp .ge 19, 3) := by decide +kernel
theorem dX6_dropClosures_8 : decode cX6_dropClosures 8 = .ok (.aload_n 0, 1) := by decide +kernel
theorem dX6_dropClosures_9 : decode cX6_dropClosures 9 = .ok (.getfield 39, 3) := by decide +kernel
theorem dX6_dropClosures_12 : decode cX6_dropClosures 12 = .ok (.iload_n 1, 1) := by decide +kernel
theorem dX6_dropClosures_13 : decode cX6_dropClosures 13 = .ok (.aaload, 1) := by decide +kernel
theorem dX6_dropClosures_14 : decode cX6_dropClosures 14 = .ok (.iconst 0, 1) := by decide +kernel
theorem dX6_dropClosures_15 : decode cX6_dropClosures 15 = .ok (.putfield 341, 3) := by decide +kernel
theorem dX6_dropClosures_18 : decode cX6_dropClosures 18 = .ok (.iinc 1 1, 3) := by decide +kernel
theorem dX6_dropClosures_21 : decode cX6_dropClosures 21 = .ok (.goto (-19), 3) := by decide +kernel
theorem dX6_dropClosures_24 : decode cX6_dropClosures 24 = .ok (.return_, 1) := by decide +kernel
theorem dX6_closureOf_0 : decode cX6_closureOf 0 = .ok (.aload_n 0, 1) := by decide +kernel
theorem dX6_closureOf_1 : decode cX6_closureOf 1 = .ok (.getfield 39, 3) := by decide +kernel
theorem dX6_closureOf_4 : decode cX6_closureOf 4 = .ok (.iload_n 1, 1) := by decide +kernel
theorem dX6_closureOf_5 : decode cX6_closureOf 5 = .ok (.aaload, 1) := by decide +kernel
theorem dX6_closureOf_6 : decode cX6_closureOf 6 = .ok (.astore_n 2, 1) := by decide +kernel
theorem dX6_closureOf_7 : decode cX6_closureOf 7 = .ok (.aload_n 2, 1) := by decide +kernel
theorem dX6_closureOf_8 : decode cX6_closureOf 8 = .ok (.getfield 341, 3) := by decide +kernel
theorem dX6_closureOf_11 : decode cX6_closureOf 11 = .ok (.ifCond .ne 19, 3) := by decide +kernel
theorem dX6_closureOf_14 : decode cX6_closureOf 14 = .ok (.aload_n 2, 1) := by decide +kernel
theorem dX6_closureOf_15 : decode cX6_closureOf 15 = .ok (.aload_n 0, 1) := by decide +kernel
theorem dX6_closureOf_16 : decode cX6_closureOf 16 = .ok (.iload_n 1, 1) := by decide +kernel
theorem dX6_closureOf_17 : decode cX6_closureOf 17 = .ok (.invokevirtual 112, 3) := by decide +kernel
theorem dX6_closureOf_20 : decode cX6_closureOf 20 = .ok (.aload_n 0, 1) := by decide +kernel
theorem dX6_closureOf_21 : decode cX6_closureOf 21 = .ok (.getfield 19, 3) := by decide +kernel
theorem dX6_closureOf_24 : decode cX6_closureOf 24 = .ok (.getfield 89, 3) := by decide +kernel
theorem dX6_closureOf_27 : decode cX6_closureOf 27 = .ok (.invokevirtual 344, 3) := by decide +kernel
theorem dX6_closureOf_30 : decode cX6_closureOf 30 = .ok (.aload_n 2, 1) := by decide +kernel
theorem dX6_closureOf_31 : decode cX6_closureOf 31 = .ok (.areturn, 1) := by decide +kernel
theorem dX6_store_0 : decode cX6_store 0 = .ok (.aload_n 1, 1) := by decide +kernel
theorem dX6_store_1 : decode cX6_store 1 = .ok (.iconst 0, 1) := by decide +kernel
theorem dX6_store_2 : decode cX6_store 2 = .ok (.aload_n 0, 1) := by decide +kernel
theorem dX6_store_3 : decode cX6_store 3 = .ok (.iload_n 2, 1) := by decide +kernel
theorem dX6_store_4 : decode cX6_store 4 = .ok (.invokevirtual 112, 3) := by decide +kernel
theorem dX6_store_7 : decode cX6_store 7 = .ok (.iconst 0, 1) := by decide +kernel
theorem dX6_store_8 : decode cX6_store 8 = .ok (.aload_n 0, 1) := by decide +kernel
theorem dX6_store_9 : decode cX6_store 9 = .ok (.getfield 19, 3) := by decide +kernel
theorem dX6_store_12 : decode cX6_store 12 = .ok (.getfield 89, 3) := by decide +kernel
theorem dX6_store_15 : decode cX6_store 15 = .ok (.invokestatic 276, 3) := by decide +kernel
theorem dX6_store_18 : decode cX6_store 18 = .ok (.aload_n 0, 1) := by decide +kernel
theorem dX6_store_19 : decode cX6_store 19 = .ok (.iload_n 2, 1) := by decide +kernel
theorem dX6_store_20 : decode cX6_store 20 = .ok (.invokevirtual 244, 3) := by decide +kernel
theorem dX6_store_23 : decode cX6_store 23 = .ok (.aload_n 0, 1) := by decide +kernel
theorem dX6_store_24 : decode cX6_store 24 = .ok (.iload_n 2, 1) := by decide +kernel
theorem dX6_store_25 : decode cX6_store 25 = .ok (.invokevirtual 112, 3) := by decide +kernel
theorem dX6_store_28 : decode cX6_store 28 = .ok (.aload_n 0, 1) := by decide +kernel
theorem dX6_store_29 : decode cX6_store 29 = .ok (.getfield 19, 3) := by decide +kernel
theorem dX6_store_32 : decode cX6_store 32 = .ok (.getfield 89, 3) := by decide +kernel
theorem dX6_store_35 : decode cX6_store 35 = .ok (.invokestatic 145, 3) := by decide +kernel
theorem dX6_store_38 : decode cX6_store 38 = .ok (.ireturn, 1) := by decide +kernel
theorem dX6_noteChange_0 : decode cX6_noteChange 0 = .ok (.aload_n 0, 1) := by decide +kernel
theorem dX6_noteChange_1 : decode cX6_noteChange 1 = .ok (.getfield 39, 3) := by decide +kernel
theorem dX6_noteChange_4 : decode cX6_noteChange 4 = .ok (.iload_n 1, 1) := by decide +kernel
theorem dX6_noteChange_5 : decode cX6_noteChange 5 = .ok (.aaload, 1) := by decide +kernel
theorem dX6_noteChange_6 : decode cX6_noteChange 6 = .ok (.iconst 0, 1) := by decide +kernel
theorem dX6_noteChange_7 : decode cX6_noteChange 7 = .ok (.putfield 341, 3) := by decide +kernel
theorem dX6_noteChange_10 : decode cX6_noteChange 10 = .ok (.aload_n 0, 1) := by decide +kernel
theorem dX6_noteChange_11 : decode cX6_noteChange 11 = .ok (.getfield 19, 3) := by decide +kernel
theorem dX6_noteChange_14 : decode cX6_noteChange 14 = .ok (.getfield 225, 3) := by decide +kernel
theorem dX6_noteChange_17 : decode cX6_noteChange 17 = .ok (.iload_n 1, 1) := by decide +kernel
theorem dX6_noteChange_18 : decode cX6_noteChange 18 = .ok (.aaload, 1) := by decide +kernel
theorem dX6_noteChange_19 : decode cX6_noteChange 19 = .ok (.aload_n 0, 1) := by decide +kernel
theorem dX6_noteChange_20 : decode cX6_noteChange 20 = .ok (.getfield 19, 3) := by decide +kernel
theorem dX6_noteChange_23 : decode cX6_noteChange 23 = .ok (.getfield 89, 3) := by decide +kernel
theorem dX6_noteChange_26 : decode cX6_noteChange 26 = .ok (.invokevirtual 292, 3) := by decide +kernel
theorem dX6_noteChange_29 : decode cX6_noteChange 29 = .ok (.return_, 1) := by decide +kernel
theorem dX6_noteWork_0 : decode cX6_noteWork 0 = .ok (.aload_n 0, 1) := by decide +kernel
theorem dX6_noteWork_1 : decode cX6_noteWork 1 = .ok (.getfield 19, 3) := by decide +kernel
theorem dX6_noteWork_4 : decode cX6_noteWork 4 = .ok (.aload_n 0, 1) := by decide +kernel
theorem dX6_noteWork_5 : decode cX6_noteWork 5 = .ok (.getfield 47, 3) := by decide +kernel
theorem dX6_noteWork_8 : decode cX6_noteWork 8 = .ok (.getfield 347, 3) := by decide +kernel
theorem dX6_noteWork_11 : decode cX6_noteWork 11 = .ok (.putfield 304, 3) := by decide +kernel
theorem dX6_noteWork_14 : decode cX6_noteWork 14 = .ok (.aload_n 0, 1) := by decide +kernel
theorem dX6_noteWork_15 : decode cX6_noteWork 15 = .ok (.getfield 19, 3) := by decide +kernel
theorem dX6_noteWork_18 : decode cX6_noteWork 18 = .ok (.aload_n 0, 1) := by decide +kernel
theorem dX6_noteWork_19 : decode cX6_noteWork 19 = .ok (.getfield 47, 3) := by decide +kernel
theorem dX6_noteWork_22 : decode cX6_noteWork 22 = .ok (.getfield 348, 3) := by decide +kernel
theorem dX6_noteWork_25 : decode cX6_noteWork 25 = .ok (.putfield 307, 3) := by decide +kernel
theorem dX6_noteWork_28 : decode cX6_noteWork 28 = .ok (.return_, 1) := by decide +kernel
theorem dX6_firstEqual_0 : decode cX6_firstEqual 0 = .ok (.iconst 0, 1) := by decide +kernel
theorem dX6_firstEqual_1 : decode cX6_firstEqual 1 = .ok (.istore_n 3, 1) := by decide +kernel
theorem dX6_firstEqual_2 : decode cX6_firstEqual 2 = .ok (.iload_n 3, 1) := by decide +kernel
theorem dX6_firstEqual_3 : decode cX6_firstEqual 3 = .ok (.aload_n 0, 1) := by decide +kernel
theorem dX6_firstEqual_4 : decode cX6_firstEqual 4 = .ok (.getfield 19, 3) := by decide +kernel
theorem dX6_firstEqual_7 : decode cX6_firstEqual 7 = .ok (.getfield 89, 3) := by decide +kernel
theorem dX6_firstEqual_10 : decode cX6_firstEqual 10 = .ok (.if_icmp .ge 18, 3) := by decide +kernel
theorem dX6_firstEqual_13 : decode cX6_firstEqual 13 = .ok (.aload_n 1, 1) := by decide +kernel
theorem dX6_firstEqual_14 : decode cX6_firstEqual 14 = .ok (.iload_n 3, 1) := by decide +kernel
theorem dX6_firstEqual_15 : decode cX6_firstEqual 15 = .ok (.iaload, 1) := by decide +kernel
theorem dX6_firstEqual_16 : decode cX6_firstEqual 16 = .ok (.iload_n 2, 1) := by decide +kernel
theorem dX6_firstEqual_17 : decode cX6_firstEqual 17 = .ok (.if_icmp .ne 5, 3) := by decide +kernel
theorem dX6_firstEqual_20 : decode cX6_firstEqual 20 = .ok (.iload_n 3, 1) := by decide +kernel
theorem dX6_firstEqual_21 : decode cX6_firstEqual 21 = .ok (.ireturn, 1) := by decide +kernel
theorem dX6_firstEqual_22 : decode cX6_firstEqual 22 = .ok (.iinc 3 1, 3) := by decide +kernel
theorem dX6_firstEqual_25 : decode cX6_firstEqual 25 = .ok (.goto (-23), 3) := by decide +kernel
theorem dX6_firstEqual_28 : decode cX6_firstEqual 28 = .ok (.iconst (-1), 1) := by decide +kernel
theorem dX6_firstEqual_29 : decode cX6_firstEqual 29 = .ok (.ireturn, 1) := by decide +kernel
theorem dX6_firstRows_0 : decode cX6_firstRows 0 = .ok (.iconst 0, 1) := by decide +kernel
theorem dX6_firstRows_1 : decode cX6_firstRows 1 = .ok (.istore_n 3, 1) := by decide +kernel
theorem dX6_firstRows_2 : decode cX6_firstRows 2 = .ok (.iconst 0, 1) := by decide +kernel
theorem dX6_firstRows_3 : decode cX6_firstRows 3 = .ok (.istore 4, 2) := by decide +kernel
theorem dX6_firstRows_5 : decode cX6_firstRows 5 = .ok (.iload 4, 2) := by decide +kernel
theorem dX6_firstRows_7 : decode cX6_firstRows 7 = .ok (.iload_n 2, 1) := by decide +kernel
theorem dX6_firstRows_8 : decode cX6_firstRows 8 = .ok (.if_icmp .ge 26, 3) := by decide +kernel
theorem dX6_firstRows_11 : decode cX6_firstRows 11 = .ok (.aload_n 0, 1) := by decide +kernel
theorem dX6_firstRows_12 : decode cX6_firstRows 12 = .ok (.aload_n 1, 1) := by decide +kernel
theorem dX6_firstRows_13 : decode cX6_firstRows 13 = .ok (.aload_n 1, 1) := by decide +kernel
theorem dX6_firstRows_14 : decode cX6_firstRows 14 = .ok (.iload 4, 2) := by decide +kernel
theorem dX6_firstRows_16 : decode cX6_firstRows 16 = .ok (.iaload, 1) := by decide +kernel
theorem dX6_firstRows_17 : decode cX6_firstRows 17 = .ok (.invokevirtual 153, 3) := by decide +kernel
theorem dX6_firstRows_20 : decode cX6_firstRows 20 = .ok (.iload 4, 2) := by decide +kernel
theorem dX6_firstRows_22 : decode cX6_firstRows 22 = .ok (.if_icmp .ne 6, 3) := by decide +kernel
theorem dX6_firstRows_25 : decode cX6_firstRows 25 = .ok (.iinc 3 1, 3) := by decide +kernel
theorem dX6_firstRows_28 : decode cX6_firstRows 28 = .ok (.iinc 4 1, 3) := by decide +kernel
theorem dX6_firstRows_31 : decode cX6_firstRows 31 = .ok (.goto (-26), 3) := by decide +kernel
theorem dX6_firstRows_34 : decode cX6_firstRows 34 = .ok (.iload_n 3, 1) := by decide +kernel
theorem dX6_firstRows_35 : decode cX6_firstRows 35 = .ok (.ireturn, 1) := by decide +kernel
theorem dX6_joinedRows_0 : decode cX6_joinedRows 0 = .ok (.iconst 0, 1) := by decide +kernel
theorem dX6_joinedRows_1 : decode cX6_joinedRows 1 = .ok (.istore_n 3, 1) := by decide +kernel
theorem dX6_joinedRows_2 : decode cX6_joinedRows 2 = .ok (.iconst 0, 1) := by decide +kernel
theorem dX6_joinedRows_3 : decode cX6_joinedRows 3 = .ok (.istore 4, 2) := by decide +kernel
theorem dX6_joinedRows_5 : decode cX6_joinedRows 5 = .ok (.iload 4, 2) := by decide +kernel
theorem dX6_joinedRows_7 : decode cX6_joinedRows 7 = .ok (.aload_n 0, 1) := by decide +kernel
theorem dX6_joinedRows_8 : decode cX6_joinedRows 8 = .ok (.getfield 19, 3) := by decide +kernel
theorem dX6_joinedRows_11 : decode cX6_joinedRows 11 = .ok (.getfield 89, 3) := by decide +kernel
theorem dX6_joinedRows_14 : decode cX6_joinedRows 14 = .ok (.if_icmp .ge 25, 3) := by decide +kernel
theorem dX6_joinedRows_17 : decode cX6_joinedRows 17 = .ok (.iload_n 2, 1) := by decide +kernel
theorem dX6_joinedRows_18 : decode cX6_joinedRows 18 = .ok (.iload 4, 2) := by decide +kernel
theorem dX6_joinedRows_20 : decode cX6_joinedRows 20 = .ok (.invokestatic 116, 3) := by decide +kernel
theorem dX6_joinedRows_23 : decode cX6_joinedRows 23 = .ok (.ifCond .eq 10, 3) := by decide +kernel
theorem dX6_joinedRows_26 : decode cX6_joinedRows 26 = .ok (.iload_n 3, 1) := by decide +kernel
theorem dX6_joinedRows_27 : decode cX6_joinedRows 27 = .ok (.aload_n 1, 1) := by decide +kernel
theorem dX6_joinedRows_28 : decode cX6_joinedRows 28 = .ok (.iload 4, 2) := by decide +kernel
theorem dX6_joinedRows_30 : decode cX6_joinedRows 30 = .ok (.iaload, 1) := by decide +kernel
theorem dX6_joinedRows_31 : decode cX6_joinedRows 31 = .ok (.ior, 1) := by decide +kernel
theorem dX6_joinedRows_32 : decode cX6_joinedRows 32 = .ok (.istore_n 3, 1) := by decide +kernel
theorem dX6_joinedRows_33 : decode cX6_joinedRows 33 = .ok (.iinc 4 1, 3) := by decide +kernel
theorem dX6_joinedRows_36 : decode cX6_joinedRows 36 = .ok (.goto (-31), 3) := by decide +kernel
theorem dX6_joinedRows_39 : decode cX6_joinedRows 39 = .ok (.iload_n 3, 1) := by decide +kernel
theorem dX6_joinedRows_40 : decode cX6_joinedRows 40 = .ok (.ireturn, 1) := by decide +kernel
theorem dX6_fewestEdges_0 : decode cX6_fewestEdges 0 = .ok (.aload_n 1, 1) := by decide +kernel
theorem dX6_fewestEdges_1 : decode cX6_fewestEdges 1 = .ok (.iload_n 2, 1) := by decide +kernel
theorem dX6_fewestEdges_2 : decode cX6_fewestEdges 2 = .ok (.iaload, 1) := by decide +kernel
theorem dX6_fewestEdges_3 : decode cX6_fewestEdges 3 = .ok (.istore 4, 2) := by decide +kernel
theorem dX6_fewestEdges_5 : decode cX6_fewestEdges 5 = .ok (.iconst 1, 1) := by decide +kernel
theorem dX6_fewestEdges_6 : decode cX6_fewestEdges 6 = .ok (.istore 5, 2) := by decide +kernel
theorem dX6_fewestEdges_8 : decode cX6_fewestEdges 8 = .ok (.iload 5, 2) := by decide +kernel
theorem dX6_fewestEdges_10 : decode cX6_fewestEdges 10 = .ok (.aload_n 0, 1) := by decide +kernel
theorem dX6_fewestEdges_11 : decode cX6_fewestEdges 11 = .ok (.getfield 19, 3) := by decide +kernel
theorem dX6_fewestEdges_14 : decode cX6_fewestEdges 14 = .ok (.getfield 89, 3) := by decide +kernel
theorem dX6_fewestEdges_17 : decode cX6_fewestEdges 17 = .ok (.if_icmp .gt 30, 3) := by decide +kernel
theorem dX6_fewestEdges_20 : decode cX6_fewestEdges 20 = .ok (.iload 4, 2) := by decide +kernel
theorem dX6_fewestEdges_22 : decode cX6_fewestEdges 22 = .ok (.iload_n 3, 1) := by decide +kernel
theorem dX6_fewestEdges_23 : decode cX6_fewestEdges 23 = .ok (.invokestatic 116, 3) := by decide +kernel
theorem dX6_fewestEdges_26 : decode cX6_fewestEdges 26 = .ok (.ifCond .eq 6, 3) := by decide +kernel
theorem dX6_fewestEdges_29 : decode cX6_fewestEdges 29 = .ok (.iload 5, 2) := by decide +kernel
theorem dX6_fewestEdges_31 : decode cX6_fewestEdges 31 = .ok (.ireturn, 1) := by decide +kernel
theorem dX6_fewestEdges_32 : decode cX6_fewestEdges 32 = .ok (.aload_n 0, 1) := by decide +kernel
theorem dX6_fewestEdges_33 : decode cX6_fewestEdges 33 = .ok (.aload_n 1, 1) := by decide +kernel
theorem dX6_fewestEdges_34 : decode cX6_fewestEdges 34 = .ok (.iload 4, 2) := by decide +kernel
theorem dX6_fewestEdges_36 : decode cX6_fewestEdges 36 = .ok (.invokevirtual 189, 3) := by decide +kernel
theorem dX6_fewestEdges_39 : decode cX6_fewestEdges 39 = .ok (.istore 4, 2) := by decide +kernel
theorem dX6_fewestEdges_41 : decode cX6_fewestEdges 41 = .ok (.iinc 5 1, 3) := by decide +kernel
theorem dX6_fewestEdges_44 : decode cX6_fewestEdges 44 = .ok (.goto (-36), 3) := by decide +kernel
theorem dX6_fewestEdges_47 : decode cX6_fewestEdges 47 = .ok (.iconst (-1), 1) := by decide +kernel
theorem dX6_fewestEdges_48 : decode cX6_fewestEdges 48 = .ok (.ireturn, 1) := by decide +kernel
theorem dX6_fillLevels_0 : decode cX6_fillLevels 0 = .ok (.aload_n 0, 1) := by decide +kernel
theorem dX6_fillLevels_1 : decode cX6_fillLevels 1 = .ok (.getfield 62, 3) := by decide +kernel
theorem dX6_fillLevels_4 : decode cX6_fillLevels 4 = .ok (.iconst 0, 1) := by decide +kernel
theorem dX6_fillLevels_5 : decode cX6_fillLevels 5 = .ok (.iconst 1, 1) := by decide +kernel
theorem dX6_fillLevels_6 : decode cX6_fillLevels 6 = .ok (.iload_n 2, 1) := by decide +kernel
theorem dX6_fillLevels_7 : decode cX6_fillLevels 7 = .ok (.ishl, 1) := by decide +kernel
theorem dX6_fillLevels_8 : decode cX6_fillLevels 8 = .ok (.iastore, 1) := by decide +kernel
theorem dX6_fillLevels_9 : decode cX6_fillLevels 9 = .ok (.iconst 1, 1) := by decide +kernel
theorem dX6_fillLevels_10 : decode cX6_fillLevels 10 = .ok (.istore 4, 2) := by decide +kernel
theorem dX6_fillLevels_12 : decode cX6_fillLevels 12 = .ok (.iload 4, 2) := by decide +kernel
theorem dX6_fillLevels_14 : decode cX6_fillLevels 14 = .ok (.iload_n 3, 1) := by decide +kernel
theorem dX6_fillLevels_15 : decode cX6_fillLevels 15 = .ok (.if_icmp .ge 68, 3) := by decide +kernel
theorem dX6_fillLevels_18 : decode cX6_fillLevels 18 = .ok (.iconst 0, 1) := by decide +kernel
theorem dX6_fillLevels_19 : decode cX6_fillLevels 19 = .ok (.istore 5, 2) := by decide +kernel
theorem dX6_fillLevels_21 : decode cX6_fillLevels 21 = .ok (.iconst 0, 1) := by decide +kernel
theorem dX6_fillLevels_22 : decode cX6_fillLevels 22 = .ok (.istore 6, 2) := by decide +kernel
theorem dX6_fillLevels_24 : decode cX6_fillLevels 24 = .ok (.iload 6, 2) := by decide +kernel
theorem dX6_fillLevels_26 : decode cX6_fillLevels 26 = .ok (.aload_n 0, 1) := by decide +kernel
theorem dX6_fillLevels_27 : decode cX6_fillLevels 27 = .ok (.getfield 19, 3) := by decide +kernel
theorem dX6_fillLevels_30 : decode cX6_fillLevels 30 = .ok (.getfield 89, 3) := by decide +kernel
theorem dX6_fillLevels_33 : decode cX6_fillLevels 33 = .ok (.if_icmp .ge 35, 3) := by decide +kernel
theorem dX6_fillLevels_36 : decode cX6_fillLevels 36 = .ok (.aload_n 1, 1) := by decide +kernel
theorem dX6_fillLevels_37 : decode cX6_fillLevels 37 = .ok (.iload 6, 2) := by decide +kernel
theorem dX6_fillLevels_39 : decode cX6_fillLevels 39 = .ok (.iaload, 1) := by decide +kernel
theorem dX6_fillLevels_40 : decode cX6_fillLevels 40 = .ok (.aload_n 0, 1) := by decide +kernel
theorem dX6_fillLevels_41 : decode cX6_fillLevels 41 = .ok (.getfield 62, 3) := by decide +kernel
theorem dX6_fillLevels_44 : decode cX6_fillLevels 44 = .ok (.iload 4, 2) := by decide +kernel
theorem dX6_fillLevels_46 : decode cX6_fillLevels 46 = .ok (.iconst 1, 1) := by decide +kernel
theorem dX6_fillLevels_47 : decode cX6_fillLevels 47 = .ok (.isub, 1) := by decide +kernel
theorem dX6_fillLevels_48 : decode cX6_fillLevels 48 = .ok (.iaload, 1) := by decide +kernel
theorem dX6_fillLevels_49 : decode cX6_fillLevels 49 = .ok (.iand, 1) := by decide +kernel
theorem dX6_fillLevels_50 : decode cX6_fillLevels 50 = .ok (.ifCond .eq 12, 3) := by decide +kernel
theorem dX6_fillLevels_53 : decode cX6_fillLevels 53 = .ok (.iload 5, 2) := by decide +kernel
theorem dX6_fillLevels_55 : decode cX6_fillLevels 55 = .ok (.iconst 1, 1) := by decide +kernel
theorem dX6_fillLevels_56 : decode cX6_fillLevels 56 = .ok (.iload 6, 2) := by decide +kernel
theorem dX6_fillLevels_58 : decode cX6_fillLevels 58 = .ok (.ishl, 1) := by decide +kernel
theorem dX6_fillLevels_59 : decode cX6_fillLevels 59 = .ok (.ior, 1) := by decide +kernel
theorem dX6_fillLevels_60 : decode cX6_fillLevels 60 = .ok (.istore 5, 2) := by decide +kernel
theorem dX6_fillLevels_62 : decode cX6_fillLevels 62 = .ok (.iinc 6 1, 3) := by decide +kernel
theorem dX6_fillLevels_65 : decode cX6_fillLevels 65 = .ok (.goto (-41), 3) := by decide +kernel
theorem dX6_fillLevels_68 : decode cX6_fillLevels 68 = .ok (.aload_n 0, 1) := by decide +kernel
theorem dX6_fillLevels_69 : decode cX6_fillLevels 69 = .ok (.getfield 62, 3) := by decide +kernel
theorem dX6_fillLevels_72 : decode cX6_fillLevels 72 = .ok (.iload 4, 2) := by decide +kernel
theorem dX6_fillLevels_74 : decode cX6_fillLevels 74 = .ok (.iload 5, 2) := by decide +kernel
theorem dX6_fillLevels_76 : decode cX6_fillLevels 76 = .ok (.iastore, 1) := by decide +kernel
theorem dX6_fillLevels_77 : decode cX6_fillLevels 77 = .ok (.iinc 4 1, 3) := by decide +kernel
theorem dX6_fillLevels_80 : decode cX6_fillLevels 80 = .ok (.goto (-68), 3) := by decide +kernel
theorem dX6_fillLevels_83 : decode cX6_fillLevels 83 = .ok (.return_, 1) := by decide +kernel
theorem dX6_lossWithout_0 : decode cX6_lossWithout 0 = .ok (.aload_n 0, 1) := by decide +kernel
theorem dX6_lossWithout_1 : decode cX6_lossWithout 1 = .ok (.iload_n 1, 1) := by decide +kernel
theorem dX6_lossWithout_2 : decode cX6_lossWithout 2 = .ok (.invokevirtual 112, 3) := by decide +kernel
theorem dX6_lossWithout_5 : decode cX6_lossWithout 5 = .ok (.iconst 0, 1) := by decide +kernel
theorem dX6_lossWithout_6 : decode cX6_lossWithout 6 = .ok (.aload_n 0, 1) := by decide +kernel
theorem dX6_lossWithout_7 : decode cX6_lossWithout 7 = .ok (.getfield 58, 3) := by decide +kernel
theorem dX6_lossWithout_10 : decode cX6_lossWithout 10 = .ok (.iconst 0, 1) := by decide +kernel
theorem dX6_lossWithout_11 : decode cX6_lossWithout 11 = .ok (.aload_n 0, 1) := by decide +kernel
theorem dX6_lossWithout_12 : decode cX6_lossWithout 12 = .ok (.getfield 19, 3) := by decide +kernel
theorem dX6_lossWithout_15 : decode cX6_lossWithout 15 = .ok (.getfield 89, 3) := by decide +kernel
theorem dX6_lossWithout_18 : decode cX6_lossWithout 18 = .ok (.invokestatic 276, 3) := by decide +kernel
theorem dX6_lossWithout_21 : decode cX6_lossWithout 21 = .ok (.aload_n 0, 1) := by decide +kernel
theorem dX6_lossWithout_22 : decode cX6_lossWithout 22 = .ok (.getfield 58, 3) := by decide +kernel
theorem dX6_lossWithout_25 : decode cX6_lossWithout 25 = .ok (.iload_n 2, 1) := by decide +kernel
theorem dX6_lossWithout_26 : decode cX6_lossWithout 26 = .ok (.dup2, 1) := by decide +kernel
theorem dX6_lossWithout_27 : decode cX6_lossWithout 27 = .ok (.iaload, 1) := by decide +kernel
theorem dX6_lossWithout_28 : decode cX6_lossWithout 28 = .ok (.iconst 1, 1) := by decide +kernel
theorem dX6_lossWithout_29 : decode cX6_lossWithout 29 = .ok (.iload_n 3, 1) := by decide +kernel
theorem dX6_lossWithout_30 : decode cX6_lossWithout 30 = .ok (.ishl, 1) := by decide +kernel
theorem dX6_lossWithout_31 : decode cX6_lossWithout 31 = .ok (.iconst (-1), 1) := by decide +kernel
theorem dX6_lossWithout_32 : decode cX6_lossWithout 32 = .ok (.ixor, 1) := by decide +kernel
theorem dX6_lossWithout_33 : decode cX6_lossWithout 33 = .ok (.iand, 1) := by decide +kernel
theorem dX6_lossWithout_34 : decode cX6_lossWithout 34 = .ok (.iastore, 1) := by decide +kernel
theorem dX6_lossWithout_35 : decode cX6_lossWithout 35 = .ok (.aload_n 0, 1) := by decide +kernel
theorem dX6_lossWithout_36 : decode cX6_lossWithout 36 = .ok (.iload_n 1, 1) := by decide +kernel
theorem dX6_lossWithout_37 : decode cX6_lossWithout 37 = .ok (.invokevirtual 162, 3) := by decide +kernel
theorem dX6_lossWithout_40 : decode cX6_lossWithout 40 = .ok (.aload_n 0, 1) := by decide +kernel
theorem dX6_lossWithout_41 : decode cX6_lossWithout 41 = .ok (.getfield 58, 3) := by decide +kernel
theorem dX6_lossWithout_44 : decode cX6_lossWithout 44 = .ok (.iload_n 2, 1) := by decide +kernel
theorem dX6_lossWithout_45 : decode cX6_lossWithout 45 = .ok (.iload_n 3, 1) := by decide +kernel
theorem dX6_lossWithout_46 : decode cX6_lossWithout 46 = .ok (.aload_n 0, 1) := by decide +kernel
theorem dX6_lossWithout_47 : decode cX6_lossWithout 47 = .ok (.getfield 19, 3) := by decide +kernel
theorem dX6_lossWithout_50 : decode cX6_lossWithout 50 = .ok (.getfield 89, 3) := by decide +kernel
theorem dX6_lossWithout_53 : decode cX6_lossWithout 53 = .ok (.invokevirtual 349, 3) := by decide +kernel
theorem dX6_lossWithout_56 : decode cX6_lossWithout 56 = .ok (.ireturn, 1) := by decide +kernel
theorem dX6_dropNeedless_0 : decode cX6_dropNeedless 0 = .ok (.iconst 0, 1) := by decide +kernel
theorem dX6_dropNeedless_1 : decode cX6_dropNeedless 1 = .ok (.istore_n 3, 1) := by decide +kernel
theorem dX6_dropNeedless_2 : decode cX6_dropNeedless 2 = .ok (.iload_n 3, 1) := by decide +kernel
theorem dX6_dropNeedless_3 : decode cX6_dropNeedless 3 = .ok (.aload_n 0, 1) := by decide +kernel
theorem dX6_dropNeedless_4 : decode cX6_dropNeedless 4 = .ok (.getfield 19, 3) := by decide +kernel
theorem dX6_dropNeedless_7 : decode cX6_dropNeedless 7 = .ok (.getfield 89, 3) := by decide +kernel
theorem dX6_dropNeedless_10 : decode cX6_dropNeedless 10 = .ok (.if_icmp .ge 58, 3) := by decide +kernel
theorem dX6_dropNeedless_13 : decode cX6_dropNeedless 13 = .ok (.aload_n 1, 1) := by decide +kernel
theorem dX6_dropNeedless_14 : decode cX6_dropNeedless 14 = .ok (.iload_n 2, 1) := by decide +kernel
theorem dX6_dropNeedless_15 : decode cX6_dropNeedless 15 = .ok (.iaload, 1) := by decide +kernel
theorem dX6_dropNeedless_16 : decode cX6_dropNeedless 16 = .ok (.istore 4, 2) := by decide +kernel
theorem dX6_dropNeedless_18 : decode cX6_dropNeedless 18 = .ok (.iload 4, 2) := by decide +kernel
theorem dX6_dropNeedless_20 : decode cX6_dropNeedless 20 = .ok (.iload_n 3, 1) := by decide +kernel
theorem dX6_dropNeedless_21 : decode cX6_dropNeedless 21 = .ok (.invokestatic 116, 3) := by decide +kernel
theorem dX6_dropNeedless_24 : decode cX6_dropNeedless 24 = .ok (.ifCond .eq 38, 3) := by decide +kernel
theorem dX6_dropNeedless_27 : decode cX6_dropNeedless 27 = .ok (.aload_n 1, 1) := by decide +kernel
theorem dX6_dropNeedless_28 : decode cX6_dropNeedless 28 = .ok (.iload_n 2, 1) := by decide +kernel
theorem dX6_dropNeedless_29 : decode cX6_dropNeedless 29 = .ok (.iload 4, 2) := by decide +kernel
theorem dX6_dropNeedless_31 : decode cX6_dropNeedless 31 = .ok (.iconst 1, 1) := by decide +kernel
theorem dX6_dropNeedless_32 : decode cX6_dropNeedless 32 = .ok (.iload_n 3, 1) := by decide +kernel
theorem dX6_dropNeedless_33 : decode cX6_dropNeedless 33 = .ok (.ishl, 1) := by decide +kernel
theorem dX6_dropNeedless_34 : decode cX6_dropNeedless 34 = .ok (.iconst (-1), 1) := by decide +kernel
theorem dX6_dropNeedless_35 : decode cX6_dropNeedless 35 = .ok (.ixor, 1) := by decide +kernel
theorem dX6_dropNeedless_36 : decode cX6_dropNeedless 36 = .ok (.iand, 1) := by decide +kernel
theorem dX6_dropNeedless_37 : decode cX6_dropNeedless 37 = .ok (.iastore, 1) := by decide +kernel
theorem dX6_dropNeedless_38 : decode cX6_dropNeedless 38 = .ok (.aload_n 1, 1) := by decide +kernel
theorem dX6_dropNeedless_39 : decode cX6_dropNeedless 39 = .ok (.iload_n 2, 1) := by decide +kernel
theorem dX6_dropNeedless_40 : decode cX6_dropNeedless 40 = .ok (.aload_n 0, 1) := by decide +kernel
theorem dX6_dropNeedless_41 : decode cX6_dropNeedless 41 = .ok (.getfield 19, 3) := by decide +kernel
theorem dX6_dropNeedless_44 : decode cX6_dropNeedless 44 = .ok (.getfield 89, 3) := by decide +kernel
theorem dX6_dropNeedless_47 : decode cX6_dropNeedless 47 = .ok (.invokestatic 353, 3) := by decide +kernel
theorem dX6_dropNeedless_50 : decode cX6_dropNeedless 50 = .ok (.iload_n 3, 1) := by decide +kernel
theorem dX6_dropNeedless_51 : decode cX6_dropNeedless 51 = .ok (.invokestatic 116, 3) := by decide +kernel
theorem dX6_dropNeedless_54 : decode cX6_dropNeedless 54 = .ok (.ifCond .ne 8, 3) := by decide +kernel
theorem dX6_dropNeedless_57 : decode cX6_dropNeedless 57 = .ok (.aload_n 1, 1) := by decide +kernel
theorem dX6_dropNeedless_58 : decode cX6_dropNeedless 58 = .ok (.iload_n 2, 1) := by decide +kernel
theorem dX6_dropNeedless_59 : decode cX6_dropNeedless 59 = .ok (.iload 4, 2) := by decide +kernel
theorem dX6_dropNeedless_61 : decode cX6_dropNeedless 61 = .ok (.iastore, 1) := by decide +kernel
theorem dX6_dropNeedless_62 : decode cX6_dropNeedless 62 = .ok (.iinc 3 1, 3) := by decide +kernel
theorem dX6_dropNeedless_65 : decode cX6_dropNeedless 65 = .ok (.goto (-63), 3) := by decide +kernel
theorem dX6_dropNeedless_68 : decode cX6_dropNeedless 68 = .ok (.return_, 1) := by decide +kernel
theorem dX6_combined_0 : decode cX6_combined 0 = .ok (.iload_n 2, 1) := by decide +kernel
theorem dX6_combined_1 : decode cX6_combined 1 = .ok (.tableswitch 39 0 2 #[27, 31, 35], 27) := by decide +kernel
theorem dX6_combined_28 : decode cX6_combined 28 = .ok (.iload_n 0, 1) := by decide +kernel
theorem dX6_combined_29 : decode cX6_combined 29 = .ok (.iload_n 1, 1) := by decide +kernel
theorem dX6_combined_30 : decode cX6_combined 30 = .ok (.iand, 1) := by decide +kernel
theorem dX6_combined_31 : decode cX6_combined 31 = .ok (.ireturn, 1) := by decide +kernel
theorem dX6_combined_32 : decode cX6_combined 32 = .ok (.iload_n 0, 1) := by decide +kernel
theorem dX6_combined_33 : decode cX6_combined 33 = .ok (.iload_n 1, 1) := by decide +kernel
theorem dX6_combined_34 : decode cX6_combined 34 = .ok (.ior, 1) := by decide +kernel
theorem dX6_combined_35 : decode cX6_combined 35 = .ok (.ireturn, 1) := by decide +kernel
theorem dX6_combined_36 : decode cX6_combined 36 = .ok (.iload_n 0, 1) := by decide +kernel
theorem dX6_combined_37 : decode cX6_combined 37 = .ok (.iload_n 1, 1) := by decide +kernel
theorem dX6_combined_38 : decode cX6_combined 38 = .ok (.ixor, 1) := by decide +kernel
theorem dX6_combined_39 : decode cX6_combined 39 = .ok (.ireturn, 1) := by decide +kernel
theorem dX6_combined_40 : decode cX6_combined 40 = .ok (.iload_n 0, 1) := by decide +kernel
theorem dX6_combined_41 : decode cX6_combined 41 = .ok (.iload_n 1, 1) := by decide +kernel
theorem dX6_combined_42 : decode cX6_combined 42 = .ok (.iconst (-1), 1) := by decide +kernel
theorem dX6_combined_43 : decode cX6_combined 43 = .ok (.ixor, 1) := by decide +kernel
theorem dX6_combined_44 : decode cX6_combined 44 = .ok (.iand, 1) := by decide +kernel
theorem dX6_combined_45 : decode cX6_combined 45 = .ok (.ireturn, 1) := by decide +kernel
theorem dX6_exchanged_0 : decode cX6_exchanged 0 = .ok (.iload_n 0, 1) := by decide +kernel
theorem dX6_exchanged_1 : decode cX6_exchanged 1 = .ok (.iload_n 1, 1) := by decide +kernel
theorem dX6_exchanged_2 : decode cX6_exchanged 2 = .ok (.invokestatic 116, 3) := by decide +kernel
theorem dX6_exchanged_5 : decode cX6_exchanged 5 = .ok (.iload_n 0, 1) := by decide +kernel
theorem dX6_exchanged_6 : decode cX6_exchanged 6 = .ok (.iload_n 2, 1) := by decide +kernel
theorem dX6_exchanged_7 : decode cX6_exchanged 7 = .ok (.invokestatic 116, 3) := by decide +kernel
theorem dX6_exchanged_10 : decode cX6_exchanged 10 = .ok (.if_icmp .ne 7, 3) := by decide +kernel
theorem dX6_exchanged_13 : decode cX6_exchanged 13 = .ok (.iload_n 0, 1) := by decide +kernel
theorem dX6_exchanged_14 : decode cX6_exchanged 14 = .ok (.goto 12, 3) := by decide +kernel
theorem dX6_exchanged_17 : decode cX6_exchanged 17 = .ok (.iload_n 0, 1) := by decide +kernel
theorem dX6_exchanged_18 : decode cX6_exchanged 18 = .ok (.iconst 1, 1) := by decide +kernel
theorem dX6_exchanged_19 : decode cX6_exchanged 19 = .ok (.iload_n 1, 1) := by decide +kernel
theorem dX6_exchanged_20 : decode cX6_exchanged 20 = .ok (.ishl, 1) := by decide +kernel
theorem dX6_exchanged_21 : decode cX6_exchanged 21 = .ok (.ixor, 1) := by decide +kernel
theorem dX6_exchanged_22 : decode cX6_exchanged 22 = .ok (.iconst 1, 1) := by decide +kernel
theorem dX6_exchanged_23 : decode cX6_exchanged 23 = .ok (.iload_n 2, 1) := by decide +kernel
theorem dX6_exchanged_24 : decode cX6_exchanged 24 = .ok (.ishl, 1) := by decide +kernel
theorem dX6_exchanged_25 : decode cX6_exchanged 25 = .ok (.ixor, 1) := by decide +kernel
theorem dX6_exchanged_26 : decode cX6_exchanged 26 = .ok (.ireturn, 1) := by decide +kernel
theorem dX6_edgeNumber_0 : decode cX6_edgeNumber 0 = .ok (.bipush 32, 2) := by decide +kernel
theorem dX6_edgeNumber_2 : decode cX6_edgeNumber 2 = .ok (.iload_n 0, 1) := by decide +kernel
theorem dX6_edgeNumber_3 : decode cX6_edgeNumber 3 = .ok (.imul, 1) := by decide +kernel
theorem dX6_edgeNumber_4 : decode cX6_edgeNumber 4 = .ok (.iload_n 1, 1) := by decide +kernel
theorem dX6_edgeNumber_5 : decode cX6_edgeNumber 5 = .ok (.iadd, 1) := by decide +kernel
theorem dX6_edgeNumber_6 : decode cX6_edgeNumber 6 = .ok (.ireturn, 1) := by decide +kernel
theorem dX6_unsigned_0 : decode cX6_unsigned 0 = .ok (.iload_n 0, 1) := by decide +kernel
theorem dX6_unsigned_1 : decode cX6_unsigned 1 = .ok (.i2l, 1) := by decide +kernel
theorem dX6_unsigned_2 : decode cX6_unsigned 2 = .ok (.ldc2_w 356, 3) := by decide +kernel
theorem dX6_unsigned_5 : decode cX6_unsigned 5 = .ok (.land, 1) := by decide +kernel
theorem dX6_unsigned_6 : decode cX6_unsigned 6 = .ok (.lreturn, 1) := by decide +kernel
theorem dX6_hasOne_0 : decode cX6_hasOne 0 = .ok (.iload_n 0, 1) := by decide +kernel
theorem dX6_hasOne_1 : decode cX6_hasOne 1 = .ok (.iload_n 1, 1) := by decide +kernel
theorem dX6_hasOne_2 : decode cX6_hasOne 2 = .ok (.iushr, 1) := by decide +kernel
theorem dX6_hasOne_3 : decode cX6_hasOne 3 = .ok (.iconst 1, 1) := by decide +kernel
theorem dX6_hasOne_4 : decode cX6_hasOne 4 = .ok (.iand, 1) := by decide +kernel
theorem dX6_hasOne_5 : decode cX6_hasOne 5 = .ok (.ifCond .eq 7, 3) := by decide +kernel
theorem dX6_hasOne_8 : decode cX6_hasOne 8 = .ok (.iconst 1, 1) := by decide +kernel
theorem dX6_hasOne_9 : decode cX6_hasOne 9 = .ok (.goto 4, 3) := by decide +kernel
theorem dX6_hasOne_12 : decode cX6_hasOne 12 = .ok (.iconst 0, 1) := by decide +kernel
theorem dX6_hasOne_13 : decode cX6_hasOne 13 = .ok (.ireturn, 1) := by decide +kernel
theorem dX6_lowest_0 : decode cX6_lowest 0 = .ok (.iload_n 0, 1) := by decide +kernel
theorem dX6_lowest_1 : decode cX6_lowest 1 = .ok (.ifCond .ne 7, 3) := by decide +kernel
theorem dX6_lowest_4 : decode cX6_lowest 4 = .ok (.iconst 0, 1) := by decide +kernel
theorem dX6_lowest_5 : decode cX6_lowest 5 = .ok (.goto 9, 3) := by decide +kernel
theorem dX6_lowest_8 : decode cX6_lowest 8 = .ok (.iconst (-1), 1) := by decide +kernel
theorem dX6_lowest_9 : decode cX6_lowest 9 = .ok (.bipush 32, 2) := by decide +kernel
theorem dX6_lowest_11 : decode cX6_lowest 11 = .ok (.iload_n 0, 1) := by decide +kernel
theorem dX6_lowest_12 : decode cX6_lowest 12 = .ok (.isub, 1) := by decide +kernel
theorem dX6_lowest_13 : decode cX6_lowest 13 = .ok (.iushr, 1) := by decide +kernel
theorem dX6_lowest_14 : decode cX6_lowest 14 = .ok (.ireturn, 1) := by decide +kernel
theorem dX6_lowestOne_0 : decode cX6_lowestOne 0 = .ok (.iload_n 0, 1) := by decide +kernel
theorem dX6_lowestOne_1 : decode cX6_lowestOne 1 = .ok (.iload_n 0, 1) := by decide +kernel
theorem dX6_lowestOne_2 : decode cX6_lowestOne 2 = .ok (.ineg, 1) := by decide +kernel
theorem dX6_lowestOne_3 : decode cX6_lowestOne 3 = .ok (.iand, 1) := by decide +kernel
theorem dX6_lowestOne_4 : decode cX6_lowestOne 4 = .ok (.iconst 1, 1) := by decide +kernel
theorem dX6_lowestOne_5 : decode cX6_lowestOne 5 = .ok (.isub, 1) := by decide +kernel
theorem dX6_lowestOne_6 : decode cX6_lowestOne 6 = .ok (.invokestatic 132, 3) := by decide +kernel
theorem dX6_lowestOne_9 : decode cX6_lowestOne 9 = .ok (.bipush 31, 2) := by decide +kernel
theorem dX6_lowestOne_11 : decode cX6_lowestOne 11 = .ok (.iand, 1) := by decide +kernel
theorem dX6_lowestOne_12 : decode cX6_lowestOne 12 = .ok (.ireturn, 1) := by decide +kernel
theorem dX6_oneAt_0 : decode cX6_oneAt 0 = .ok (.iconst 0, 1) := by decide +kernel
theorem dX6_oneAt_1 : decode cX6_oneAt 1 = .ok (.istore_n 2, 1) := by decide +kernel
theorem dX6_oneAt_2 : decode cX6_oneAt 2 = .ok (.iconst 0, 1) := by decide +kernel
theorem dX6_oneAt_3 : decode cX6_oneAt 3 = .ok (.istore_n 3, 1) := by decide +kernel
theorem dX6_oneAt_4 : decode cX6_oneAt 4 = .ok (.iload_n 3, 1) := by decide +kernel
theorem dX6_oneAt_5 : decode cX6_oneAt 5 = .ok (.bipush 32, 2) := by decide +kernel
theorem dX6_oneAt_7 : decode cX6_oneAt 7 = .ok (.if_icmp .ge 27, 3) := by decide +kernel
theorem dX6_oneAt_10 : decode cX6_oneAt 10 = .ok (.iload_n 0, 1) := by decide +kernel
theorem dX6_oneAt_11 : decode cX6_oneAt 11 = .ok (.iload_n 3, 1) := by decide +kernel
theorem dX6_oneAt_12 : decode cX6_oneAt 12 = .ok (.invokestatic 116, 3) := by decide +kernel
theorem dX6_oneAt_15 : decode cX6_oneAt 15 = .ok (.ifCond .eq 13, 3) := by decide +kernel
theorem dX6_oneAt_18 : decode cX6_oneAt 18 = .ok (.iload_n 2, 1) := by decide +kernel
theorem dX6_oneAt_19 : decode cX6_oneAt 19 = .ok (.iload_n 1, 1) := by decide +kernel
theorem dX6_oneAt_20 : decode cX6_oneAt 20 = .ok (.if_icmp .ne 5, 3) := by decide +kernel
theorem dX6_oneAt_23 : decode cX6_oneAt 23 = .ok (.iload_n 3, 1) := by decide +kernel
theorem dX6_oneAt_24 : decode cX6_oneAt 24 = .ok (.ireturn, 1) := by decide +kernel
theorem dX6_oneAt_25 : decode cX6_oneAt 25 = .ok (.iinc 2 1, 3) := by decide +kernel
theorem dX6_oneAt_28 : decode cX6_oneAt 28 = .ok (.iinc 3 1, 3) := by decide +kernel
theorem dX6_oneAt_31 : decode cX6_oneAt 31 = .ok (.goto (-27), 3) := by decide +kernel
theorem dX6_oneAt_34 : decode cX6_oneAt 34 = .ok (.iconst (-1), 1) := by decide +kernel
theorem dX6_oneAt_35 : decode cX6_oneAt 35 = .ok (.ireturn, 1) := by decide +kernel
theorem dX6_onesOf_0 : decode cX6_onesOf 0 = .ok (.iconst 0, 1) := by decide +kernel
theorem dX6_onesOf_1 : decode cX6_onesOf 1 = .ok (.istore_n 2, 1) := by decide +kernel
theorem dX6_onesOf_2 : decode cX6_onesOf 2 = .ok (.iconst 0, 1) := by decide +kernel
theorem dX6_onesOf_3 : decode cX6_onesOf 3 = .ok (.istore_n 3, 1) := by decide +kernel
theorem dX6_onesOf_4 : decode cX6_onesOf 4 = .ok (.iload_n 3, 1) := by decide +kernel
theorem dX6_onesOf_5 : decode cX6_onesOf 5 = .ok (.iload_n 1, 1) := by decide +kernel
theorem dX6_onesOf_6 : decode cX6_onesOf 6 = .ok (.if_icmp .ge 18, 3) := by decide +kernel
theorem dX6_onesOf_9 : decode cX6_onesOf 9 = .ok (.iload_n 2, 1) := by decide +kernel
theorem dX6_onesOf_10 : decode cX6_onesOf 10 = .ok (.aload_n 0, 1) := by decide +kernel
theorem dX6_onesOf_11 : decode cX6_onesOf 11 = .ok (.iload_n 3, 1) := by decide +kernel
theorem dX6_onesOf_12 : decode cX6_onesOf 12 = .ok (.iaload, 1) := by decide +kernel
theorem dX6_onesOf_13 : decode cX6_onesOf 13 = .ok (.invokestatic 132, 3) := by decide +kernel
theorem dX6_onesOf_16 : decode cX6_onesOf 16 = .ok (.iadd, 1) := by decide +kernel
theorem dX6_onesOf_17 : decode cX6_onesOf 17 = .ok (.istore_n 2, 1) := by decide +kernel
theorem dX6_onesOf_18 : decode cX6_onesOf 18 = .ok (.iinc 3 1, 3) := by decide +kernel
theorem dX6_onesOf_21 : decode cX6_onesOf 21 = .ok (.goto (-17), 3) := by decide +kernel
theorem dX6_onesOf_24 : decode cX6_onesOf 24 = .ok (.iload_n 2, 1) := by decide +kernel
theorem dX6_onesOf_25 : decode cX6_onesOf 25 = .ok (.ireturn, 1) := by decide +kernel
theorem dX6_columnOf_0 : decode cX6_columnOf 0 = .ok (.iconst 0, 1) := by decide +kernel
theorem dX6_columnOf_1 : decode cX6_columnOf 1 = .ok (.istore_n 3, 1) := by decide +kernel
theorem dX6_columnOf_2 : decode cX6_columnOf 2 = .ok (.iconst 0, 1) := by decide +kernel
theorem dX6_columnOf_3 : decode cX6_columnOf 3 = .ok (.istore 4, 2) := by decide +kernel
theorem dX6_columnOf_5 : decode cX6_columnOf 5 = .ok (.iload 4, 2) := by decide +kernel
theorem dX6_columnOf_7 : decode cX6_columnOf 7 = .ok (.iload_n 2, 1) := by decide +kernel
theorem dX6_columnOf_8 : decode cX6_columnOf 8 = .ok (.if_icmp .ge 23, 3) := by decide +kernel
theorem dX6_columnOf_11 : decode cX6_columnOf 11 = .ok (.iload_n 3, 1) := by decide +kernel
theorem dX6_columnOf_12 : decode cX6_columnOf 12 = .ok (.aload_n 0, 1) := by decide +kernel
theorem dX6_columnOf_13 : decode cX6_columnOf 13 = .ok (.iload 4, 2) := by decide +kernel
theorem dX6_columnOf_15 : decode cX6_columnOf 15 = .ok (.iaload, 1) := by decide +kernel
theorem dX6_columnOf_16 : decode cX6_columnOf 16 = .ok (.iload_n 1, 1) := by decide +kernel
theorem dX6_columnOf_17 : decode cX6_columnOf 17 = .ok (.iushr, 1) := by decide +kernel
theorem dX6_columnOf_18 : decode cX6_columnOf 18 = .ok (.iconst 1, 1) := by decide +kernel
theorem dX6_columnOf_19 : decode cX6_columnOf 19 = .ok (.iand, 1) := by decide +kernel
theorem dX6_columnOf_20 : decode cX6_columnOf 20 = .ok (.iload 4, 2) := by decide +kernel
theorem dX6_columnOf_22 : decode cX6_columnOf 22 = .ok (.ishl, 1) := by decide +kernel
theorem dX6_columnOf_23 : decode cX6_columnOf 23 = .ok (.ior, 1) := by decide +kernel
theorem dX6_columnOf_24 : decode cX6_columnOf 24 = .ok (.istore_n 3, 1) := by decide +kernel
theorem dX6_columnOf_25 : decode cX6_columnOf 25 = .ok (.iinc 4 1, 3) := by decide +kernel
theorem dX6_columnOf_28 : decode cX6_columnOf 28 = .ok (.goto (-23), 3) := by decide +kernel
theorem dX6_columnOf_31 : decode cX6_columnOf 31 = .ok (.iload_n 3, 1) := by decide +kernel
theorem dX6_columnOf_32 : decode cX6_columnOf 32 = .ok (.ireturn, 1) := by decide +kernel
theorem dX6_reachedFrom_0 : decode cX6_reachedFrom 0 = .ok (.aload_n 0, 1) := by decide +kernel
theorem dX6_reachedFrom_1 : decode cX6_reachedFrom 1 = .ok (.iload_n 1, 1) := by decide +kernel
theorem dX6_reachedFrom_2 : decode cX6_reachedFrom 2 = .ok (.iaload, 1) := by decide +kernel
theorem dX6_reachedFrom_3 : decode cX6_reachedFrom 3 = .ok (.istore_n 3, 1) := by decide +kernel
theorem dX6_reachedFrom_4 : decode cX6_reachedFrom 4 = .ok (.iconst 0, 1) := by decide +kernel
theorem dX6_reachedFrom_5 : decode cX6_reachedFrom 5 = .ok (.istore 4, 2) := by decide +kernel
theorem dX6_reachedFrom_7 : decode cX6_reachedFrom 7 = .ok (.iconst 0, 1) := by decide +kernel
theorem dX6_reachedFrom_8 : decode cX6_reachedFrom 8 = .ok (.istore 5, 2) := by decide +kernel
theorem dX6_reachedFrom_10 : decode cX6_reachedFrom 10 = .ok (.iload 5, 2) := by decide +kernel
theorem dX6_reachedFrom_12 : decode cX6_reachedFrom 12 = .ok (.iload_n 2, 1) := by decide +kernel
theorem dX6_reachedFrom_13 : decode cX6_reachedFrom 13 = .ok (.if_icmp .ge 42, 3) := by decide +kernel
theorem dX6_reachedFrom_16 : decode cX6_reachedFrom 16 = .ok (.iload_n 3, 1) := by decide +kernel
theorem dX6_reachedFrom_17 : decode cX6_reachedFrom 17 = .ok (.iload 4, 2) := by decide +kernel
theorem dX6_reachedFrom_19 : decode cX6_reachedFrom 19 = .ok (.if_icmp .eq 36, 3) := by decide +kernel
theorem dX6_reachedFrom_22 : decode cX6_reachedFrom 22 = .ok (.iload_n 3, 1) := by decide +kernel
theorem dX6_reachedFrom_23 : decode cX6_reachedFrom 23 = .ok (.iload 4, 2) := by decide +kernel
theorem dX6_reachedFrom_25 : decode cX6_reachedFrom 25 = .ok (.iconst (-1), 1) := by decide +kernel
theorem dX6_reachedFrom_26 : decode cX6_reachedFrom 26 = .ok (.ixor, 1) := by decide +kernel
theorem dX6_reachedFrom_27 : decode cX6_reachedFrom 27 = .ok (.iand, 1) := by decide +kernel
theorem dX6_reachedFrom_28 : decode cX6_reachedFrom 28 = .ok (.invokestatic 186, 3) := by decide +kernel
theorem dX6_reachedFrom_31 : decode cX6_reachedFrom 31 = .ok (.istore 6, 2) := by decide +kernel
theorem dX6_reachedFrom_33 : decode cX6_reachedFrom 33 = .ok (.iload_n 3, 1) := by decide +kernel
theorem dX6_reachedFrom_34 : decode cX6_reachedFrom 34 = .ok (.aload_n 0, 1) := by decide +kernel
theorem dX6_reachedFrom_35 : decode cX6_reachedFrom 35 = .ok (.iload 6, 2) := by decide +kernel
theorem dX6_reachedFrom_37 : decode cX6_reachedFrom 37 = .ok (.iaload, 1) := by decide +kernel
theorem dX6_reachedFrom_38 : decode cX6_reachedFrom 38 = .ok (.ior, 1) := by decide +kernel
theorem dX6_reachedFrom_39 : decode cX6_reachedFrom 39 = .ok (.istore_n 3, 1) := by decide +kernel
theorem dX6_reachedFrom_40 : decode cX6_reachedFrom 40 = .ok (.iload 4, 2) := by decide +kernel
theorem dX6_reachedFrom_42 : decode cX6_reachedFrom 42 = .ok (.iconst 1, 1) := by decide +kernel
theorem dX6_reachedFrom_43 : decode cX6_reachedFrom 43 = .ok (.iload 6, 2) := by decide +kernel
theorem dX6_reachedFrom_45 : decode cX6_reachedFrom 45 = .ok (.ishl, 1) := by decide +kernel
theorem dX6_reachedFrom_46 : decode cX6_reachedFrom 46 = .ok (.ior, 1) := by decide +kernel
theorem dX6_reachedFrom_47 : decode cX6_reachedFrom 47 = .ok (.istore 4, 2) := by decide +kernel
theorem dX6_reachedFrom_49 : decode cX6_reachedFrom 49 = .ok (.iinc 5 1, 3) := by decide +kernel
theorem dX6_reachedFrom_52 : decode cX6_reachedFrom 52 = .ok (.goto (-42), 3) := by decide +kernel
theorem dX6_reachedFrom_55 : decode cX6_reachedFrom 55 = .ok (.iload_n 3, 1) := by decide +kernel
theorem dX6_reachedFrom_56 : decode cX6_reachedFrom 56 = .ok (.ireturn, 1) := by decide +kernel
theorem dX7_init_0 : decode cX7_init 0 = .ok (.aload_n 0, 1) := by decide +kernel
theorem dX7_init_1 : decode cX7_init 1 = .ok (.invokespecial 3, 3) := by decide +kernel
theorem dX7_init_4 : decode cX7_init 4 = .ok (.aload_n 0, 1) := by decide +kernel
theorem dX7_init_5 : decode cX7_init 5 = .ok (.sipush 220, 3) := by decide +kernel
theorem dX7_init_8 : decode cX7_init 8 = .ok (.newarray .long, 2) := by decide +kernel
theorem dX7_init_10 : decode cX7_init 10 = .ok (.putfield 9, 3) := by decide +kernel
theorem dX7_init_13 : decode cX7_init 13 = .ok (.aload_n 0, 1) := by decide +kernel
theorem dX7_init_14 : decode cX7_init 14 = .ok (.sipush 220, 3) := by decide +kernel
theorem dX7_init_17 : decode cX7_init 17 = .ok (.newarray .long, 2) := by decide +kernel
theorem dX7_init_19 : decode cX7_init 19 = .ok (.putfield 13, 3) := by decide +kernel
theorem dX7_init_22 : decode cX7_init 22 = .ok (.aload_n 0, 1) := by decide +kernel
theorem dX7_init_23 : decode cX7_init 23 = .ok (.sipush 1760, 3) := by decide +kernel
theorem dX7_init_26 : decode cX7_init 26 = .ok (.newarray .long, 2) := by decide +kernel
theorem dX7_init_28 : decode cX7_init 28 = .ok (.putfield 16, 3) := by decide +kernel
theorem dX7_init_31 : decode cX7_init 31 = .ok (.aload_n 0, 1) := by decide +kernel
theorem dX7_init_32 : decode cX7_init 32 = .ok (.sipush 440, 3) := by decide +kernel
theorem dX7_init_35 : decode cX7_init 35 = .ok (.newarray .long, 2) := by decide +kernel
theorem dX7_init_37 : decode cX7_init 37 = .ok (.putfield 19, 3) := by decide +kernel
theorem dX7_init_40 : decode cX7_init 40 = .ok (.aload_n 0, 1) := by decide +kernel
theorem dX7_init_41 : decode cX7_init 41 = .ok (.iconst 2, 1) := by decide +kernel
theorem dX7_init_42 : decode cX7_init 42 = .ok (.newarray .boolean, 2) := by decide +kernel
theorem dX7_init_44 : decode cX7_init 44 = .ok (.putfield 22, 3) := by decide +kernel
theorem dX7_init_47 : decode cX7_init 47 = .ok (.aload_n 0, 1) := by decide +kernel
theorem dX7_init_48 : decode cX7_init 48 = .ok (.sipush 600, 3) := by decide +kernel
theorem dX7_init_51 : decode cX7_init 51 = .ok (.newarray .byte, 2) := by decide +kernel
theorem dX7_init_53 : decode cX7_init 53 = .ok (.putfield 26, 3) := by decide +kernel
theorem dX7_init_56 : decode cX7_init 56 = .ok (.aload_n 0, 1) := by decide +kernel
theorem dX7_init_57 : decode cX7_init 57 = .ok (.iconst (-1), 1) := by decide +kernel
theorem dX7_init_58 : decode cX7_init 58 = .ok (.putfield 30, 3) := by decide +kernel
theorem dX7_init_61 : decode cX7_init 61 = .ok (.aload_n 0, 1) := by decide +kernel
theorem dX7_init_62 : decode cX7_init 62 = .ok (.bipush 32, 2) := by decide +kernel
theorem dX7_init_64 : decode cX7_init 64 = .ok (.newarray .long, 2) := by decide +kernel
theorem dX7_init_66 : decode cX7_init 66 = .ok (.putfield 34, 3) := by decide +kernel
theorem dX7_init_69 : decode cX7_init 69 = .ok (.aload_n 0, 1) := by decide +kernel
theorem dX7_init_70 : decode cX7_init 70 = .ok (.bipush 32, 2) := by decide +kernel
theorem dX7_init_72 : decode cX7_init 72 = .ok (.newarray .long, 2) := by decide +kernel
theorem dX7_init_74 : decode cX7_init 74 = .ok (.putfield 37, 3) := by decide +kernel
theorem dX7_init_77 : decode cX7_init 77 = .ok (.aload_n 0, 1) := by decide +kernel
theorem dX7_init_78 : decode cX7_init 78 = .ok (.bipush 32, 2) := by decide +kernel
theorem dX7_init_80 : decode cX7_init 80 = .ok (.newarray .long, 2) := by decide +kernel
theorem dX7_init_82 : decode cX7_init 82 = .ok (.putfield 40, 3) := by decide +kernel
theorem dX7_init_85 : decode cX7_init 85 = .ok (.aload_n 0, 1) := by decide +kernel
theorem dX7_init_86 : decode cX7_init 86 = .ok (.bipush 32, 2) := by decide +kernel
theorem dX7_init_88 : decode cX7_init 88 = .ok (.newarray .int, 2) := by decide +kernel
theorem dX7_init_90 : decode cX7_init 90 = .ok (.putfield 43, 3) := by decide +kernel
theorem dX7_init_93 : decode cX7_init 93 = .ok (.aload_n 0, 1) := by decide +kernel
theorem dX7_init_94 : decode cX7_init 94 = .ok (.bipush 32, 2) := by decide +kernel
theorem dX7_init_96 : decode cX7_init 96 = .ok (.newarray .long, 2) := by decide +kernel
theorem dX7_init_98 : decode cX7_init 98 = .ok (.putfield 47, 3) := by decide +kernel
theorem dX7_init_101 : decode cX7_init 101 = .ok (.aload_n 0, 1) := by decide +kernel
theorem dX7_init_102 : decode cX7_init 102 = .ok (.bipush 32, 2) := by decide +kernel
theorem dX7_init_104 : decode cX7_init 104 = .ok (.newarray .int, 2) := by decide +kernel
theorem dX7_init_106 : decode cX7_init 106 = .ok (.putfield 50, 3) := by decide +kernel
theorem dX7_init_109 : decode cX7_init 109 = .ok (.aload_n 0, 1) := by decide +kernel
theorem dX7_init_110 : decode cX7_init 110 = .ok (.bipush 32, 2) := by decide +kernel
theorem dX7_init_112 : decode cX7_init 112 = .ok (.newarray .byte, 2) := by decide +kernel
theorem dX7_init_114 : decode cX7_init 114 = .ok (.putfield 53, 3) := by decide +kernel
theorem dX7_init_117 : decode cX7_init 117 = .ok (.aload_n 0, 1) := by decide +kernel
theorem dX7_init_118 : decode cX7_init 118 = .ok (.getfield 9, 3) := by decide +kernel
theorem dX7_init_121 : decode cX7_init 121 = .ok (.bipush 8, 2) := by decide +kernel
theorem dX7_init_123 : decode cX7_init 123 = .ok (.invokestatic 56, 3) := by decide +kernel
theorem dX7_init_126 : decode cX7_init 126 = .ok (.return_, 1) := by decide +kernel
theorem dX7_in_0 : decode cX7_in 0 = .ok (.lload_n 0, 1) := by decide +kernel
theorem dX7_in_1 : decode cX7_in 1 = .ok (.lload_n 2, 1) := by decide +kernel
theorem dX7_in_2 : decode cX7_in 2 = .ok (.lcmp, 1) := by decide +kernel
theorem dX7_in_3 : decode cX7_in 3 = .ok (.ifCond .lt 14, 3) := by decide +kernel
theorem dX7_in_6 : decode cX7_in 6 = .ok (.lload_n 0, 1) := by decide +kernel
theorem dX7_in_7 : decode cX7_in 7 = .ok (.lload 4, 2) := by decide +kernel
theorem dX7_in_9 : decode cX7_in 9 = .ok (.lcmp, 1) := by decide +kernel
theorem dX7_in_10 : decode cX7_in 10 = .ok (.ifCond .gt 7, 3) := by decide +kernel
theorem dX7_in_13 : decode cX7_in 13 = .ok (.iconst 1, 1) := by decide +kernel
theorem dX7_in_14 : decode cX7_in 14 = .ok (.goto 4, 3) := by decide +kernel
theorem dX7_in_17 : decode cX7_in 17 = .ok (.iconst 0, 1) := by decide +kernel
theorem dX7_in_18 : decode cX7_in 18 = .ok (.ireturn, 1) := by decide +kernel
theorem dX7_copies_0 : decode cX7_copies 0 = .ok (.iconst 0, 1) := by decide +kernel
theorem dX7_copies_1 : decode cX7_copies 1 = .ok (.istore 4, 2) := by decide +kernel
theorem dX7_copies_3 : decode cX7_copies 3 = .ok (.iload 4, 2) := by decide +kernel
theorem dX7_copies_5 : decode cX7_copies 5 = .ok (.sipush 220, 3) := by decide +kernel
theorem dX7_copies_8 : decode cX7_copies 8 = .ok (.if_icmp .ge 29, 3) := by decide +kernel
theorem dX7_copies_11 : decode cX7_copies 11 = .ok (.aload_n 2, 1) := by decide +kernel
theorem dX7_copies_12 : decode cX7_copies 12 = .ok (.sipush 220, 3) := by decide +kernel
theorem dX7_copies_15 : decode cX7_copies 15 = .ok (.iload_n 3, 1) := by decide +kernel
theorem dX7_copies_16 : decode cX7_copies 16 = .ok (.imul, 1) := by decide +kernel
theorem dX7_copies_17 : decode cX7_copies 17 = .ok (.iload 4, 2) := by decide +kernel
theorem dX7_copies_19 : decode cX7_copies 19 = .ok (.iadd, 1) := by decide +kernel
theorem dX7_copies_20 : decode cX7_copies 20 = .ok (.aload_n 0, 1) := by decide +kernel
theorem dX7_copies_21 : decode cX7_copies 21 = .ok (.sipush 220, 3) := by decide +kernel
theorem dX7_copies_24 : decode cX7_copies 24 = .ok (.iload_n 1, 1) := by decide +kernel
theorem dX7_copies_25 : decode cX7_copies 25 = .ok (.imul, 1) := by decide +kernel
theorem dX7_copies_26 : decode cX7_copies 26 = .ok (.iload 4, 2) := by decide +kernel
theorem dX7_copies_28 : decode cX7_copies 28 = .ok (.iadd, 1) := by decide +kernel
theorem dX7_copies_29 : decode cX7_copies 29 = .ok (.laload, 1) := by decide +kernel
theorem dX7_copies_30 : decode cX7_copies 30 = .ok (.lastore, 1) := by decide +kernel
theorem dX7_copies_31 : decode cX7_copies 31 = .ok (.iinc 4 1, 3) := by decide +kernel
theorem dX7_copies_34 : decode cX7_copies 34 = .ok (.goto (-31), 3) := by decide +kernel
theorem dX7_copies_37 : decode cX7_copies 37 = .ok (.return_, 1) := by decide +kernel
theorem dX7_begins_0 : decode cX7_begins 0 = .ok (.iconst 0, 1) := by decide +kernel
theorem dX7_begins_1 : decode cX7_begins 1 = .ok (.istore_n 2, 1) := by decide +kernel
theorem dX7_begins_2 : decode cX7_begins 2 = .ok (.iload_n 2, 1) := by decide +kernel
theorem dX7_begins_3 : decode cX7_begins 3 = .ok (.sipush 220, 3) := by decide +kernel
theorem dX7_begins_6 : decode cX7_begins 6 = .ok (.if_icmp .ge 13, 3) := by decide +kernel
theorem dX7_begins_9 : decode cX7_begins 9 = .ok (.aload_n 0, 1) := by decide +kernel
theorem dX7_begins_10 : decode cX7_begins 10 = .ok (.iload_n 2, 1) := by decide +kernel
theorem dX7_begins_11 : decode cX7_begins 11 = .ok (.lconst 0, 1) := by decide +kernel
theorem dX7_begins_12 : decode cX7_begins 12 = .ok (.lastore, 1) := by decide +kernel
theorem dX7_begins_13 : decode cX7_begins 13 = .ok (.iinc 2 1, 3) := by decide +kernel
theorem dX7_begins_16 : decode cX7_begins 16 = .ok (.goto (-14), 3) := by decide +kernel
theorem dX7_begins_19 : decode cX7_begins 19 = .ok (.aload_n 0, 1) := by decide +kernel
theorem dX7_begins_20 : decode cX7_begins 20 = .ok (.iconst 0, 1) := by decide +kernel
theorem dX7_begins_21 : decode cX7_begins 21 = .ok (.iload_n 1, 1) := by decide +kernel
theorem dX7_begins_22 : decode cX7_begins 22 = .ok (.i2l, 1) := by decide +kernel
theorem dX7_begins_23 : decode cX7_begins 23 = .ok (.lastore, 1) := by decide +kernel
theorem dX7_begins_24 : decode cX7_begins 24 = .ok (.aload_n 0, 1) := by decide +kernel
theorem dX7_begins_25 : decode cX7_begins 25 = .ok (.iconst 1, 1) := by decide +kernel
theorem dX7_begins_26 : decode cX7_begins 26 = .ok (.ldc2_w 63, 3) := by decide +kernel
theorem dX7_begins_29 : decode cX7_begins 29 = .ok (.lastore, 1) := by decide +kernel
theorem dX7_begins_30 : decode cX7_begins 30 = .ok (.return_, 1) := by decide +kernel
theorem dX7_isThrown_0 : decode cX7_isThrown 0 = .ok (.aload_n 0, 1) := by decide +kernel
theorem dX7_isThrown_1 : decode cX7_isThrown 1 = .ok (.iload_n 1, 1) := by decide +kernel
theorem dX7_isThrown_2 : decode cX7_isThrown 2 = .ok (.ifCond .eq 7, 3) := by decide +kernel
theorem dX7_isThrown_5 : decode cX7_isThrown 5 = .ok (.iconst 0, 1) := by decide +kernel
theorem dX7_isThrown_6 : decode cX7_isThrown 6 = .ok (.goto 4, 3) := by decide +kernel
theorem dX7_isThrown_9 : decode cX7_isThrown 9 = .ok (.iload_n 2, 1) := by decide +kernel
theorem dX7_isThrown_10 : decode cX7_isThrown 10 = .ok (.putfield 60, 3) := by decide +kernel
theorem dX7_isThrown_13 : decode cX7_isThrown 13 = .ok (.iload_n 1, 1) := by decide +kernel
theorem dX7_isThrown_14 : decode cX7_isThrown 14 = .ok (.ifCond .ne 7, 3) := by decide +kernel
theorem dX7_isThrown_17 : decode cX7_isThrown 17 = .ok (.iconst 1, 1) := by decide +kernel
theorem dX7_isThrown_18 : decode cX7_isThrown 18 = .ok (.goto 4, 3) := by decide +kernel
theorem dX7_isThrown_21 : decode cX7_isThrown 21 = .ok (.iconst 0, 1) := by decide +kernel
theorem dX7_isThrown_22 : decode cX7_isThrown 22 = .ok (.ireturn, 1) := by decide +kernel
theorem dX7_size_0 : decode cX7_size 0 = .ok (.aload_n 0, 1) := by decide +kernel
theorem dX7_size_1 : decode cX7_size 1 = .ok (.getfield 9, 3) := by decide +kernel
theorem dX7_size_4 : decode cX7_size 4 = .ok (.iconst 0, 1) := by decide +kernel
theorem dX7_size_5 : decode cX7_size 5 = .ok (.laload, 1) := by decide +kernel
theorem dX7_size_6 : decode cX7_size 6 = .ok (.l2i, 1) := by decide +kernel
theorem dX7_size_7 : decode cX7_size 7 = .ok (.ireturn, 1) := by decide +kernel
theorem dX7_isSlot_0 : decode cX7_isSlot 0 = .ok (.iload_n 0, 1) := by decide +kernel
theorem dX7_isSlot_1 : decode cX7_isSlot 1 = .ok (.i2l, 1) := by decide +kernel
theorem dX7_isSlot_2 : decode cX7_isSlot 2 = .ok (.lconst 0, 1) := by decide +kernel
theorem dX7_isSlot_3 : decode cX7_isSlot 3 = .ok (.ldc2_w 65, 3) := by decide +kernel
theorem dX7_isSlot_6 : decode cX7_isSlot 6 = .ok (.invokestatic 67, 3) := by decide +kernel
theorem dX7_isSlot_9 : decode cX7_isSlot 9 = .ok (.ireturn, 1) := by decide +kernel
theorem dX7_isNode_0 : decode cX7_isNode 0 = .ok (.iload_n 1, 1) := by decide +kernel
theorem dX7_isNode_1 : decode cX7_isNode 1 = .ok (.i2l, 1) := by decide +kernel
theorem dX7_isNode_2 : decode cX7_isNode 2 = .ok (.lconst 0, 1) := by decide +kernel
theorem dX7_isNode_3 : decode cX7_isNode 3 = .ok (.aload_n 0, 1) := by decide +kernel
theorem dX7_isNode_4 : decode cX7_isNode 4 = .ok (.invokevirtual 71, 3) := by decide +kernel
theorem dX7_isNode_7 : decode cX7_isNode 7 = .ok (.iconst 1, 1) := by decide +kernel
theorem dX7_isNode_8 : decode cX7_isNode 8 = .ok (.isub, 1) := by decide +kernel
theorem dX7_isNode_9 : decode cX7_isNode 9 = .ok (.i2l, 1) := by decide +kernel
theorem dX7_isNode_10 : decode cX7_isNode 10 = .ok (.invokestatic 67, 3) := by decide +kernel
theorem dX7_isNode_13 : decode cX7_isNode 13 = .ok (.ireturn, 1) := by decide +kernel
theorem dX7_rowOf_0 : decode cX7_rowOf 0 = .ok (.aload_n 0, 1) := by decide +kernel
theorem dX7_rowOf_1 : decode cX7_rowOf 1 = .ok (.getfield 9, 3) := by decide +kernel
theorem dX7_rowOf_4 : decode cX7_rowOf 4 = .ok (.bipush 28, 2) := by decide +kernel
theorem dX7_rowOf_6 : decode cX7_rowOf 6 = .ok (.bipush 32, 2) := by decide +kernel
theorem dX7_rowOf_8 : decode cX7_rowOf 8 = .ok (.iload_n 1, 1) := by decide +kernel
theorem dX7_rowOf_9 : decode cX7_rowOf 9 = .ok (.imul, 1) := by decide +kernel
theorem dX7_rowOf_10 : decode cX7_rowOf 10 = .ok (.iadd, 1) := by decide +kernel
theorem dX7_rowOf_11 : decode cX7_rowOf 11 = .ok (.iload_n 2, 1) := by decide +kernel
theorem dX7_rowOf_12 : decode cX7_rowOf 12 = .ok (.iadd, 1) := by decide +kernel
theorem dX7_rowOf_13 : decode cX7_rowOf 13 = .ok (.laload, 1) := by decide +kernel
theorem dX7_rowOf_14 : decode cX7_rowOf 14 = .ok (.lreturn, 1) := by decide +kernel
theorem dX7_setsRow_0 : decode cX7_setsRow 0 = .ok (.aload_n 0, 1) := by decide +kernel
theorem dX7_setsRow_1 : decode cX7_setsRow 1 = .ok (.getfield 9, 3) := by decide +kernel
theorem dX7_setsRow_4 : decode cX7_setsRow 4 = .ok (.bipush 28, 2) := by decide +kernel
theorem dX7_setsRow_6 : decode cX7_setsRow 6 = .ok (.bipush 32, 2) := by decide +kernel
theorem dX7_setsRow_8 : decode cX7_setsRow 8 = .ok (.iload_n 1, 1) := by decide +kernel
theorem dX7_setsRow_9 : decode cX7_setsRow 9 = .ok (.imul, 1) := by decide +kernel
theorem dX7_setsRow_10 : decode cX7_setsRow 10 = .ok (.iadd, 1) := by decide +kernel
theorem dX7_setsRow_11 : decode cX7_setsRow 11 = .ok (.iload_n 2, 1) := by decide +kernel
theorem dX7_setsRow_12 : decode cX7_setsRow 12 = .ok (.iadd, 1) := by decide +kernel
theorem dX7_setsRow_13 : decode cX7_setsRow 13 = .ok (.lload_n 3, 1) := by decide +kernel
theorem dX7_setsRow_14 : decode cX7_setsRow 14 = .ok (.lastore, 1) := by decide +kernel
theorem dX7_setsRow_15 : decode cX7_setsRow 15 = .ok (.return_, 1) := by decide +kernel
theorem dX7_one_0 : decode cX7_one 0 = .ok (.lload_n 0, 1) := by decide +kernel
theorem dX7_one_1 : decode cX7_one 1 = .ok (.iload_n 2, 1) := by decide +kernel
theorem dX7_one_2 : decode cX7_one 2 = .ok (.lshr, 1) := by decide +kernel
theorem dX7_one_3 : decode cX7_one 3 = .ok (.lconst 1, 1) := by decide +kernel
theorem dX7_one_4 : decode cX7_one 4 = .ok (.land, 1) := by decide +kernel
theorem dX7_one_5 : decode cX7_one 5 = .ok (.l2i, 1) := by decide +kernel
theorem dX7_one_6 : decode cX7_one 6 = .ok (.ireturn, 1) := by decide +kernel
theorem dX7_bitsOf_0 : decode cX7_bitsOf 0 = .ok (.iconst 0, 1) := by decide +kernel
theorem dX7_bitsOf_1 : decode cX7_bitsOf 1 = .ok (.istore_n 2, 1) := by decide +kernel
theorem dX7_bitsOf_2 : decode cX7_bitsOf 2 = .ok (.lload_n 0, 1) := by decide +kernel
theorem dX7_bitsOf_3 : decode cX7_bitsOf 3 = .ok (.lstore_n 3, 1) := by decide +kernel
theorem dX7_bitsOf_4 : decode cX7_bitsOf 4 = .ok (.lload_n 3, 1) := by decide +kernel
theorem dX7_bitsOf_5 : decode cX7_bitsOf 5 = .ok (.lconst 0, 1) := by decide +kernel
theorem dX7_bitsOf_6 : decode cX7_bitsOf 6 = .ok (.lcmp, 1) := by decide +kernel
theorem dX7_bitsOf_7 : decode cX7_bitsOf 7 = .ok (.ifCond .eq 15, 3) := by decide +kernel
theorem dX7_bitsOf_10 : decode cX7_bitsOf 10 = .ok (.iinc 2 1, 3) := by decide +kernel
theorem dX7_bitsOf_13 : decode cX7_bitsOf 13 = .ok (.lload_n 3, 1) := by decide +kernel
theorem dX7_bitsOf_14 : decode cX7_bitsOf 14 = .ok (.lload_n 3, 1) := by decide +kernel
theorem dX7_bitsOf_15 : decode cX7_bitsOf 15 = .ok (.lconst 1, 1) := by decide +kernel
theorem dX7_bitsOf_16 : decode cX7_bitsOf 16 = .ok (.lsub, 1) := by decide +kernel
theorem dX7_bitsOf_17 : decode cX7_bitsOf 17 = .ok (.land, 1) := by decide +kernel
theorem dX7_bitsOf_18 : decode cX7_bitsOf 18 = .ok (.lstore_n 3, 1) := by decide +kernel
theorem dX7_bitsOf_19 : decode cX7_bitsOf 19 = .ok (.goto (-15), 3) := by decide +kernel
theorem dX7_bitsOf_22 : decode cX7_bitsOf 22 = .ok (.iload_n 2, 1) := by decide +kernel
theorem dX7_bitsOf_23 : decode cX7_bitsOf 23 = .ok (.ireturn, 1) := by decide +kernel
theorem dX7_all_0 : decode cX7_all 0 = .ok (.lconst 1, 1) := by decide +kernel
theorem dX7_all_1 : decode cX7_all 1 = .ok (.aload_n 0, 1) := by decide +kernel
theorem dX7_all_2 : decode cX7_all 2 = .ok (.invokevirtual 71, 3) := by decide +kernel
theorem dX7_all_5 : decode cX7_all 5 = .ok (.lshl, 1) := by decide +kernel
theorem dX7_all_6 : decode cX7_all 6 = .ok (.lconst 1, 1) := by decide +kernel
theorem dX7_all_7 : decode cX7_all 7 = .ok (.lsub, 1) := by decide +kernel
theorem dX7_all_8 : decode cX7_all 8 = .ok (.lreturn, 1) := by decide +kernel
theorem dX7_byteOf_0 : decode cX7_byteOf 0 = .ok (.lload_n 0, 1) := by decide +kernel
theorem dX7_byteOf_1 : decode cX7_byteOf 1 = .ok (.bipush 8, 2) := by decide +kernel
theorem dX7_byteOf_3 : decode cX7_byteOf 3 = .ok (.bipush 7, 2) := by decide +kernel
theorem dX7_byteOf_5 : decode cX7_byteOf 5 = .ok (.iload_n 2, 1) := by decide +kernel
theorem dX7_byteOf_6 : decode cX7_byteOf 6 = .ok (.isub, 1) := by decide +kernel
theorem dX7_byteOf_7 : decode cX7_byteOf 7 = .ok (.imul, 1) := by decide +kernel
theorem dX7_byteOf_8 : decode cX7_byteOf 8 = .ok (.lshr, 1) := by decide +kernel
theorem dX7_byteOf_9 : decode cX7_byteOf 9 = .ok (.ldc2_w 75, 3) := by decide +kernel
theorem dX7_byteOf_12 : decode cX7_byteOf 12 = .ok (.land, 1) := by decide +kernel
theorem dX7_byteOf_13 : decode cX7_byteOf 13 = .ok (.l2i, 1) := by decide +kernel
theorem dX7_byteOf_14 : decode cX7_byteOf 14 = .ok (.ireturn, 1) := by decide +kernel
theorem dX7_append_0 : decode cX7_append 0 = .ok (.aload_n 0, 1) := by decide +kernel
theorem dX7_append_1 : decode cX7_append 1 = .ok (.iconst 0, 1) := by decide +kernel
theorem dX7_append_2 : decode cX7_append 2 = .ok (.putfield 60, 3) := by decide +kernel
theorem dX7_append_5 : decode cX7_append 5 = .ok (.iconst 0, 1) := by decide +kernel
theorem dX7_append_6 : decode cX7_append 6 = .ok (.istore_n 3, 1) := by decide +kernel
theorem dX7_append_7 : decode cX7_append 7 = .ok (.iconst 0, 1) := by decide +kernel
theorem dX7_append_8 : decode cX7_append 8 = .ok (.istore 4, 2) := by decide +kernel
theorem dX7_append_10 : decode cX7_append 10 = .ok (.iload 4, 2) := by decide +kernel
theorem dX7_append_12 : decode cX7_append 12 = .ok (.bipush 8, 2) := by decide +kernel
theorem dX7_append_14 : decode cX7_append 14 = .ok (.if_icmp .ge 26, 3) := by decide +kernel
theorem dX7_append_17 : decode cX7_append 17 = .ok (.iload_n 3, 1) := by decide +kernel
theorem dX7_append_18 : decode cX7_append 18 = .ok (.lload_n 1, 1) := by decide +kernel
theorem dX7_append_19 : decode cX7_append 19 = .ok (.iload 4, 2) := by decide +kernel
theorem dX7_append_21 : decode cX7_append 21 = .ok (.invokestatic 77, 3) := by decide +kernel
theorem dX7_append_24 : decode cX7_append 24 = .ok (.ifCond .ne 7, 3) := by decide +kernel
theorem dX7_append_27 : decode cX7_append 27 = .ok (.iconst 0, 1) := by decide +kernel
theorem dX7_append_28 : decode cX7_append 28 = .ok (.goto 4, 3) := by decide +kernel
theorem dX7_append_31 : decode cX7_append 31 = .ok (.iconst 1, 1) := by decide +kernel
theorem dX7_append_32 : decode cX7_append 32 = .ok (.iadd, 1) := by decide +kernel
theorem dX7_append_33 : decode cX7_append 33 = .ok (.istore_n 3, 1) := by decide +kernel
theorem dX7_append_34 : decode cX7_append 34 = .ok (.iinc 4 1, 3) := by decide +kernel
theorem dX7_append_37 : decode cX7_append 37 = .ok (.goto (-27), 3) := by decide +kernel
theorem dX7_append_40 : decode cX7_append 40 = .ok (.aload_n 0, 1) := by decide +kernel
theorem dX7_append_41 : decode cX7_append 41 = .ok (.getfield 81, 3) := by decide +kernel
theorem dX7_append_44 : decode cX7_append 44 = .ok (.iload_n 3, 1) := by decide +kernel
theorem dX7_append_45 : decode cX7_append 45 = .ok (.iadd, 1) := by decide +kernel
theorem dX7_append_46 : decode cX7_append 46 = .ok (.sipush 600, 3) := by decide +kernel
theorem dX7_append_49 : decode cX7_append 49 = .ok (.if_icmp .le 6, 3) := by decide +kernel
theorem dX7_append_52 : decode cX7_append 52 = .ok (.bipush (-2), 2) := by decide +kernel
theorem dX7_append_54 : decode cX7_append 54 = .ok (.ireturn, 1) := by decide +kernel
theorem dX7_append_55 : decode cX7_append 55 = .ok (.iconst 0, 1) := by decide +kernel
theorem dX7_append_56 : decode cX7_append 56 = .ok (.istore 4, 2) := by decide +kernel
theorem dX7_append_58 : decode cX7_append 58 = .ok (.iload 4, 2) := by decide +kernel
theorem dX7_append_60 : decode cX7_append 60 = .ok (.bipush 8, 2) := by decide +kernel
theorem dX7_append_62 : decode cX7_append 62 = .ok (.if_icmp .ge 44, 3) := by decide +kernel
theorem dX7_append_65 : decode cX7_append 65 = .ok (.lload_n 1, 1) := by decide +kernel
theorem dX7_append_66 : decode cX7_append 66 = .ok (.iload 4, 2) := by decide +kernel
theorem dX7_append_68 : decode cX7_append 68 = .ok (.invokestatic 77, 3) := by decide +kernel
theorem dX7_append_71 : decode cX7_append 71 = .ok (.ifCond .eq 29, 3) := by decide +kernel
theorem dX7_append_74 : decode cX7_append 74 = .ok (.aload_n 0, 1) := by decide +kernel
theorem dX7_append_75 : decode cX7_append 75 = .ok (.getfield 26, 3) := by decide +kernel
theorem dX7_append_78 : decode cX7_append 78 = .ok (.aload_n 0, 1) := by decide +kernel
theorem dX7_append_79 : decode cX7_append 79 = .ok (.getfield 81, 3) := by decide +kernel
theorem dX7_append_82 : decode cX7_append 82 = .ok (.lload_n 1, 1) := by decide +kernel
theorem dX7_append_83 : decode cX7_append 83 = .ok (.iload 4, 2) := by decide +kernel
theorem dX7_append_85 : decode cX7_append 85 = .ok (.invokestatic 77, 3) := by decide +kernel
theorem dX7_append_88 : decode cX7_append 88 = .ok (.i2b, 1) := by decide +kernel
theorem dX7_append_89 : decode cX7_append 89 = .ok (.bastore, 1) := by decide +kernel
theorem dX7_append_90 : decode cX7_append 90 = .ok (.aload_n 0, 1) := by decide +kernel
theorem dX7_append_91 : decode cX7_append 91 = .ok (.dup, 1) := by decide +kernel
theorem dX7_append_92 : decode cX7_append 92 = .ok (.getfield 81, 3) := by decide +kernel
theorem dX7_append_95 : decode cX7_append 95 = .ok (.iconst 1, 1) := by decide +kernel
theorem dX7_append_96 : decode cX7_append 96 = .ok (.iadd, 1) := by decide +kernel
theorem dX7_append_97 : decode cX7_append 97 = .ok (.putfield 81, 3) := by decide +kernel
theorem dX7_append_100 : decode cX7_append 100 = .ok (.iinc 4 1, 3) := by decide +kernel
theorem dX7_append_103 : decode cX7_append 103 = .ok (.goto (-45), 3) := by decide +kernel
theorem dX7_append_106 : decode cX7_append 106 = .ok (.aload_n 0, 1) := by decide +kernel
theorem dX7_append_107 : decode cX7_append 107 = .ok (.getfield 81, 3) := by decide +kernel
theorem dX7_append_110 : decode cX7_append 110 = .ok (.ireturn, 1) := by decide +kernel
theorem dX7_here_0 : decode cX7_here 0 = .ok (.aload_n 0, 1) := by decide +kernel
theorem dX7_here_1 : decode cX7_here 1 = .ok (.getfield 84, 3) := by decide +kernel
theorem dX7_here_4 : decode cX7_here 4 = .ok (.aload_n 0, 1) := by decide +kernel
theorem dX7_here_5 : decode cX7_here 5 = .ok (.getfield 81, 3) := by decide +kernel
theorem dX7_here_8 : decode cX7_here 8 = .ok (.if_icmp .ge 19, 3) := by decide +kernel
theorem dX7_here_11 : decode cX7_here 11 = .ok (.aload_n 0, 1) := by decide +kernel
theorem dX7_here_12 : decode cX7_here 12 = .ok (.getfield 26, 3) := by decide +kernel
theorem dX7_here_15 : decode cX7_here 15 = .ok (.aload_n 0, 1) := by decide +kernel
theorem dX7_here_16 : decode cX7_here 16 = .ok (.getfield 84, 3) := by decide +kernel
theorem dX7_here_19 : decode cX7_here 19 = .ok (.baload, 1) := by decide +kernel
theorem dX7_here_20 : decode cX7_here 20 = .ok (.sipush 255, 3) := by decide +kernel
theorem dX7_here_23 : decode cX7_here 23 = .ok (.iand, 1) := by decide +kernel
theorem dX7_here_24 : decode cX7_here 24 = .ok (.goto 4, 3) := by decide +kernel
theorem dX7_here_27 : decode cX7_here 27 = .ok (.iconst (-1), 1) := by decide +kernel
theorem dX7_here_28 : decode cX7_here 28 = .ok (.ireturn, 1) := by decide +kernel
theorem dX7_next_0 : decode cX7_next 0 = .ok (.aload_n 0, 1) := by decide +kernel
theorem dX7_next_1 : decode cX7_next 1 = .ok (.invokevirtual 87, 3) := by decide +kernel
theorem dX7_next_4 : decode cX7_next 4 = .ok (.bipush 32, 2) := by decide +kernel
theorem dX7_next_6 : decode cX7_next 6 = .ok (.if_icmp .ne 16, 3) := by decide +kernel
theorem dX7_next_9 : decode cX7_next 9 = .ok (.aload_n 0, 1) := by decide +kernel
theorem dX7_next_10 : decode cX7_next 10 = .ok (.dup, 1) := by decide +kernel
theorem dX7_next_11 : decode cX7_next 11 = .ok (.getfield 84, 3) := by decide +kernel
theorem dX7_next_14 : decode cX7_next 14 = .ok (.iconst 1, 1) := by decide +kernel
theorem dX7_next_15 : decode cX7_next 15 = .ok (.iadd, 1) := by decide +kernel
theorem dX7_next_16 : decode cX7_next 16 = .ok (.putfield 84, 3) := by decide +kernel
theorem dX7_next_19 : decode cX7_next 19 = .ok (.goto (-19), 3) := by decide +kernel
theorem dX7_next_22 : decode cX7_next 22 = .ok (.aload_n 0, 1) := by decide +kernel
theorem dX7_next_23 : decode cX7_next 23 = .ok (.aload_n 0, 1) := by decide +kernel
theorem dX7_next_24 : decode cX7_next 24 = .ok (.getfield 84, 3) := by decide +kernel
theorem dX7_next_27 : decode cX7_next 27 = .ok (.putfield 90, 3) := by decide +kernel
theorem dX7_next_30 : decode cX7_next 30 = .ok (.aload_n 0, 1) := by decide +kernel
theorem dX7_next_31 : decode cX7_next 31 = .ok (.invokevirtual 87, 3) := by decide +kernel
theorem dX7_next_34 : decode cX7_next 34 = .ok (.ireturn, 1) := by decide +kernel
theorem dX7_fails_0 : decode cX7_fails 0 = .ok (.aload_n 0, 1) := by decide +kernel
theorem dX7_fails_1 : decode cX7_fails 1 = .ok (.getfield 93, 3) := by decide +kernel
theorem dX7_fails_4 : decode cX7_fails 4 = .ok (.ifCond .ne 16, 3) := by decide +kernel
theorem dX7_fails_7 : decode cX7_fails 7 = .ok (.aload_n 0, 1) := by decide +kernel
theorem dX7_fails_8 : decode cX7_fails 8 = .ok (.iload_n 1, 1) := by decide +kernel
theorem dX7_fails_9 : decode cX7_fails 9 = .ok (.putfield 93, 3) := by decide +kernel
theorem dX7_fails_12 : decode cX7_fails 12 = .ok (.aload_n 0, 1) := by decide +kernel
theorem dX7_fails_13 : decode cX7_fails 13 = .ok (.aload_n 0, 1) := by decide +kernel
theorem dX7_fails_14 : decode cX7_fails 14 = .ok (.getfield 90, 3) := by decide +kernel
theorem dX7_fails_17 : decode cX7_fails 17 = .ok (.putfield 96, 3) := by decide +kernel
theorem dX7_fails_20 : decode cX7_fails 20 = .ok (.return_, 1) := by decide +kernel
theorem dX7_reads_0 : decode cX7_reads 0 = .ok (.aload_n 0, 1) := by decide +kernel
theorem dX7_reads_1 : decode cX7_reads 1 = .ok (.invokevirtual 99, 3) := by decide +kernel
theorem dX7_reads_4 : decode cX7_reads 4 = .ok (.pop, 1) := by decide +kernel
theorem dX7_reads_5 : decode cX7_reads 5 = .ok (.aload_n 0, 1) := by decide +kernel
theorem dX7_reads_6 : decode cX7_reads 6 = .ok (.invokevirtual 87, 3) := by decide +kernel
theorem dX7_reads_9 : decode cX7_reads 9 = .ok (.i2l, 1) := by decide +kernel
theorem dX7_reads_10 : decode cX7_reads 10 = .ok (.ldc2_w 102, 3) := by decide +kernel
theorem dX7_reads_13 : decode cX7_reads 13 = .ok (.ldc2_w 104, 3) := by decide +kernel
theorem dX7_reads_16 : decode cX7_reads 16 = .ok (.invokestatic 67, 3) := by decide +kernel
theorem dX7_reads_19 : decode cX7_reads 19 = .ok (.ifCond .eq 16, 3) := by decide +kernel
theorem dX7_reads_22 : decode cX7_reads 22 = .ok (.aload_n 0, 1) := by decide +kernel
theorem dX7_reads_23 : decode cX7_reads 23 = .ok (.dup, 1) := by decide +kernel
theorem dX7_reads_24 : decode cX7_reads 24 = .ok (.getfield 84, 3) := by decide +kernel
theorem dX7_reads_27 : decode cX7_reads 27 = .ok (.iconst 1, 1) := by decide +kernel
theorem dX7_reads_28 : decode cX7_reads 28 = .ok (.iadd, 1) := by decide +kernel
theorem dX7_reads_29 : decode cX7_reads 29 = .ok (.putfield 84, 3) := by decide +kernel
theorem dX7_reads_32 : decode cX7_reads 32 = .ok (.goto (-27), 3) := by decide +kernel
theorem dX7_reads_35 : decode cX7_reads 35 = .ok (.return_, 1) := by decide +kernel
theorem dX7_isWord_0 : decode cX7_isWord 0 = .ok (.aload_n 0, 1) := by decide +kernel
theorem dX7_isWord_1 : decode cX7_isWord 1 = .ok (.getfield 84, 3) := by decide +kernel
theorem dX7_isWord_4 : decode cX7_isWord 4 = .ok (.aload_n 0, 1) := by decide +kernel
theorem dX7_isWord_5 : decode cX7_isWord 5 = .ok (.getfield 90, 3) := by decide +kernel
theorem dX7_isWord_8 : decode cX7_isWord 8 = .ok (.isub, 1) := by decide +kernel
theorem dX7_isWord_9 : decode cX7_isWord 9 = .ok (.aload_n 1, 1) := by decide +kernel
theorem dX7_isWord_10 : decode cX7_isWord 10 = .ok (.invokevirtual 106, 3) := by decide +kernel
theorem dX7_isWord_13 : decode cX7_isWord 13 = .ok (.if_icmp .ne 7, 3) := by decide +kernel
theorem dX7_isWord_16 : decode cX7_isWord 16 = .ok (.iconst 1, 1) := by decide +kernel
theorem dX7_isWord_17 : decode cX7_isWord 17 = .ok (.goto 4, 3) := by decide +kernel
theorem dX7_isWord_20 : decode cX7_isWord 20 = .ok (.iconst 0, 1) := by decide +kernel
theorem dX7_isWord_21 : decode cX7_isWord 21 = .ok (.istore_n 2, 1) := by decide +kernel
theorem dX7_isWord_22 : decode cX7_isWord 22 = .ok (.iconst 0, 1) := by decide +kernel
theorem dX7_isWord_23 : decode cX7_isWord 23 = .ok (.istore_n 3, 1) := by decide +kernel
theorem dX7_isWord_24 : decode cX7_isWord 24 = .ok (.iload_n 2, 1) := by decide +kernel
theorem dX7_isWord_25 : decode cX7_isWord 25 = .ok (.ifCond .eq 42, 3) := by decide +kernel
theorem dX7_isWord_28 : decode cX7_isWord 28 = .ok (.iload_n 3, 1) := by decide +kernel
theorem dX7_isWord_29 : decode cX7_isWord 29 = .ok (.aload_n 1, 1) := by decide +kernel
theorem dX7_isWord_30 : decode cX7_isWord 30 = .ok (.invokevirtual 106, 3) := by decide +kernel
theorem dX7_isWord_33 : decode cX7_isWord 33 = .ok (.if_icmp .ge 34, 3) := by decide +kernel
theorem dX7_isWord_36 : decode cX7_isWord 36 = .ok (.aload_n 0, 1) := by decide +kernel
theorem dX7_isWord_37 : decode cX7_isWord 37 = .ok (.getfield 26, 3) := by decide +kernel
theorem dX7_isWord_40 : decode cX7_isWord 40 = .ok (.aload_n 0, 1) := by decide +kernel
theorem dX7_isWord_41 : decode cX7_isWord 41 = .ok (.getfield 90, 3) := by decide +kernel
theorem dX7_isWord_44 : decode cX7_isWord 44 = .ok (.iload_n 3, 1) := by decide +kernel
theorem dX7_isWord_45 : decode cX7_isWord 45 = .ok (.iadd, 1) := by decide +kernel
theorem dX7_isWord_46 : decode cX7_isWord 46 = .ok (.baload, 1) := by decide +kernel
theorem dX7_isWord_47 : decode cX7_isWord 47 = .ok (.aload_n 1, 1) := by decide +kernel
theorem dX7_isWord_48 : decode cX7_isWord 48 = .ok (.iload_n 3, 1) := by decide +kernel
theorem dX7_isWord_49 : decode cX7_isWord 49 = .ok (.invokevirtual 110, 3) := by decide +kernel
theorem dX7_isWord_52 : decode cX7_isWord 52 = .ok (.if_icmp .ne 7, 3) := by decide +kernel
theorem dX7_isWord_55 : decode cX7_isWord 55 = .ok (.iconst 1, 1) := by decide +kernel
theorem dX7_isWord_56 : decode cX7_isWord 56 = .ok (.goto 4, 3) := by decide +kernel
theorem dX7_isWord_59 : decode cX7_isWord 59 = .ok (.iconst 0, 1) := by decide +kernel
theorem dX7_isWord_60 : decode cX7_isWord 60 = .ok (.istore_n 2, 1) := by decide +kernel
theorem dX7_isWord_61 : decode cX7_isWord 61 = .ok (.iinc 3 1, 3) := by decide +kernel
theorem dX7_isWord_64 : decode cX7_isWord 64 = .ok (.goto (-40), 3) := by decide +kernel
theorem dX7_isWord_67 : decode cX7_isWord 67 = .ok (.iload_n 2, 1) := by decide +kernel
theorem dX7_isWord_68 : decode cX7_isWord 68 = .ok (.ireturn, 1) := by decide +kernel
theorem dX7_number_0 : decode cX7_number 0 = .ok (.aload_n 0, 1) := by decide +kernel
theorem dX7_number_1 : decode cX7_number 1 = .ok (.getfield 93, 3) := by decide +kernel
theorem dX7_number_4 : decode cX7_number 4 = .ok (.ifCond .eq 5, 3) := by decide +kernel
theorem dX7_number_7 : decode cX7_number 7 = .ok (.iload_n 1, 1) := by decide +kernel
theorem dX7_number_8 : decode cX7_number 8 = .ok (.ireturn, 1) := by decide +kernel
theorem dX7_number_9 : decode cX7_number 9 = .ok (.aload_n 0, 1) := by decide +kernel
theorem dX7_number_10 : decode cX7_number 10 = .ok (.invokevirtual 99, 3) := by decide +kernel
theorem dX7_number_13 : decode cX7_number 13 = .ok (.i2l, 1) := by decide +kernel
theorem dX7_number_14 : decode cX7_number 14 = .ok (.ldc2_w 114, 3) := by decide +kernel
theorem dX7_number_17 : decode cX7_number 17 = .ok (.ldc2_w 116, 3) := by decide +kernel
theorem dX7_number_20 : decode cX7_number 20 = .ok (.invokestatic 67, 3) := by decide +kernel
theorem dX7_number_23 : decode cX7_number 23 = .ok (.ifCond .ne 10, 3) := by decide +kernel
theorem dX7_number_26 : decode cX7_number 26 = .ok (.aload_n 0, 1) := by decide +kernel
theorem dX7_number_27 : decode cX7_number 27 = .ok (.iconst 1, 1) := by decide +kernel
theorem dX7_number_28 : decode cX7_number 28 = .ok (.invokevirtual 118, 3) := by decide +kernel
theorem dX7_number_31 : decode cX7_number 31 = .ok (.iload_n 1, 1) := by decide +kernel
theorem dX7_number_32 : decode cX7_number 32 = .ok (.ireturn, 1) := by decide +kernel
theorem dX7_number_33 : decode cX7_number 33 = .ok (.iconst 0, 1) := by decide +kernel
theorem dX7_number_34 : decode cX7_number 34 = .ok (.istore_n 3, 1) := by decide +kernel
theorem dX7_number_35 : decode cX7_number 35 = .ok (.aload_n 0, 1) := by decide +kernel
theorem dX7_number_36 : decode cX7_number 36 = .ok (.invokevirtual 87, 3) := by decide +kernel
theorem dX7_number_39 : decode cX7_number 39 = .ok (.i2l, 1) := by decide +kernel
theorem dX7_number_40 : decode cX7_number 40 = .ok (.ldc2_w 114, 3) := by decide +kernel
theorem dX7_number_43 : decode cX7_number 43 = .ok (.ldc2_w 116, 3) := by decide +kernel
theorem dX7_number_46 : decode cX7_number 46 = .ok (.invokestatic 67, 3) := by decide +kernel
theorem dX7_number_49 : decode cX7_number 49 = .ok (.ifCond .eq 34, 3) := by decide +kernel
theorem dX7_number_52 : decode cX7_number 52 = .ok (.ldc 122, 2) := by decide +kernel
theorem dX7_number_54 : decode cX7_number 54 = .ok (.bipush 10, 2) := by decide +kernel
theorem dX7_number_56 : decode cX7_number 56 = .ok (.iload_n 3, 1) := by decide +kernel
theorem dX7_number_57 : decode cX7_number 57 = .ok (.imul, 1) := by decide +kernel
theorem dX7_number_58 : decode cX7_number 58 = .ok (.aload_n 0, 1) := by decide +kernel
theorem dX7_number_59 : decode cX7_number 59 = .ok (.invokevirtual 87, 3) := by decide +kernel
theorem dX7_number_62 : decode cX7_number 62 = .ok (.iadd, 1) := by decide +kernel
theorem dX7_number_63 : decode cX7_number 63 = .ok (.bipush 48, 2) := by decide +kernel
theorem dX7_number_65 : decode cX7_number 65 = .ok (.isub, 1) := by decide +kernel
theorem dX7_number_66 : decode cX7_number 66 = .ok (.invokestatic 123, 3) := by decide +kernel
theorem dX7_number_69 : decode cX7_number 69 = .ok (.istore_n 3, 1) := by decide +kernel
theorem dX7_number_70 : decode cX7_number 70 = .ok (.aload_n 0, 1) := by decide +kernel
theorem dX7_number_71 : decode cX7_number 71 = .ok (.dup, 1) := by decide +kernel
theorem dX7_number_72 : decode cX7_number 72 = .ok (.getfield 84, 3) := by decide +kernel
theorem dX7_number_75 : decode cX7_number 75 = .ok (.iconst 1, 1) := by decide +kernel
theorem dX7_number_76 : decode cX7_number 76 = .ok (.iadd, 1) := by decide +kernel
theorem dX7_number_77 : decode cX7_number 77 = .ok (.putfield 84, 3) := by decide +kernel
theorem dX7_number_80 : decode cX7_number 80 = .ok (.goto (-45), 3) := by decide +kernel
theorem dX7_number_83 : decode cX7_number 83 = .ok (.iload_n 3, 1) := by decide +kernel
theorem dX7_number_84 : decode cX7_number 84 = .ok (.i2l, 1) := by decide +kernel
theorem dX7_number_85 : decode cX7_number 85 = .ok (.iload_n 1, 1) := by decide +kernel
theorem dX7_number_86 : decode cX7_number 86 = .ok (.i2l, 1) := by decide +kernel
theorem dX7_number_87 : decode cX7_number 87 = .ok (.iload_n 2, 1) := by decide +kernel
theorem dX7_number_88 : decode cX7_number 88 = .ok (.i2l, 1) := by decide +kernel
theorem dX7_number_89 : decode cX7_number 89 = .ok (.invokestatic 67, 3) := by decide +kernel
theorem dX7_number_92 : decode cX7_number 92 = .ok (.ifCond .ne 10, 3) := by decide +kernel
theorem dX7_number_95 : decode cX7_number 95 = .ok (.aload_n 0, 1) := by decide +kernel
theorem dX7_number_96 : decode cX7_number 96 = .ok (.iconst 2, 1) := by decide +kernel
theorem dX7_number_97 : decode cX7_number 97 = .ok (.invokevirtual 118, 3) := by decide +kernel
theorem dX7_number_100 : decode cX7_number 100 = .ok (.iload_n 1, 1) := by decide +kernel
theorem dX7_number_101 : decode cX7_number 101 = .ok (.ireturn, 1) := by decide +kernel
theorem dX7_number_102 : decode cX7_number 102 = .ok (.iload_n 3, 1) := by decide +kernel
theorem dX7_number_103 : decode cX7_number 103 = .ok (.ireturn, 1) := by decide +kernel
theorem dX7_readSlot_0 : decode cX7_readSlot 0 = .ok (.aload_n 0, 1) := by decide +kernel
theorem dX7_readSlot_1 : decode cX7_readSlot 1 = .ok (.iconst 0, 1) := by decide +kernel
theorem dX7_readSlot_2 : decode cX7_readSlot 2 = .ok (.iconst 5, 1) := by decide +kernel
theorem dX7_readSlot_3 : decode cX7_readSlot 3 = .ok (.invokevirtual 129, 3) := by decide +kernel
theorem dX7_readSlot_6 : decode cX7_readSlot 6 = .ok (.ireturn, 1) := by decide +kernel
theorem dX7_readNode_0 : decode cX7_readNode 0 = .ok (.aload_n 0, 1) := by decide +kernel
theorem dX7_readNode_1 : decode cX7_readNode 1 = .ok (.iconst 0, 1) := by decide +kernel
theorem dX7_readNode_2 : decode cX7_readNode 2 = .ok (.aload_n 0, 1) := by decide +kernel
theorem dX7_readNode_3 : decode cX7_readNode 3 = .ok (.getfield 13, 3) := by decide +kernel
theorem dX7_readNode_6 : decode cX7_readNode 6 = .ok (.iconst 0, 1) := by decide +kernel
theorem dX7_readNode_7 : decode cX7_readNode 7 = .ok (.laload, 1) := by decide +kernel
theorem dX7_readNode_8 : decode cX7_readNode 8 = .ok (.l2i, 1) := by decide +kernel
theorem dX7_readNode_9 : decode cX7_readNode 9 = .ok (.iconst 1, 1) := by decide +kernel
theorem dX7_readNode_10 : decode cX7_readNode 10 = .ok (.isub, 1) := by decide +kernel
theorem dX7_readNode_11 : decode cX7_readNode 11 = .ok (.invokevirtual 129, 3) := by decide +kernel
theorem dX7_readNode_14 : decode cX7_readNode 14 = .ok (.ireturn, 1) := by decide +kernel
theorem dX7_sizePart_0 : decode cX7_sizePart 0 = .ok (.aload_n 0, 1) := by decide +kernel
theorem dX7_sizePart_1 : decode cX7_sizePart 1 = .ok (.invokevirtual 132, 3) := by decide +kernel
theorem dX7_sizePart_4 : decode cX7_sizePart 4 = .ok (.aload_n 0, 1) := by decide +kernel
theorem dX7_sizePart_5 : decode cX7_sizePart 5 = .ok (.ldc 135, 2) := by decide +kernel
theorem dX7_sizePart_7 : decode cX7_sizePart 7 = .ok (.invokevirtual 136, 3) := by decide +kernel
theorem dX7_sizePart_10 : decode cX7_sizePart 10 = .ok (.ifCond .ne 8, 3) := by decide +kernel
theorem dX7_sizePart_13 : decode cX7_sizePart 13 = .ok (.aload_n 0, 1) := by decide +kernel
theorem dX7_sizePart_14 : decode cX7_sizePart 14 = .ok (.iconst 1, 1) := by decide +kernel
theorem dX7_sizePart_15 : decode cX7_sizePart 15 = .ok (.invokevirtual 118, 3) := by decide +kernel
theorem dX7_sizePart_18 : decode cX7_sizePart 18 = .ok (.aload_n 0, 1) := by decide +kernel
theorem dX7_sizePart_19 : decode cX7_sizePart 19 = .ok (.getfield 13, 3) := by decide +kernel
theorem dX7_sizePart_22 : decode cX7_sizePart 22 = .ok (.aload_n 0, 1) := by decide +kernel
theorem dX7_sizePart_23 : decode cX7_sizePart 23 = .ok (.iconst 1, 1) := by decide +kernel
theorem dX7_sizePart_24 : decode cX7_sizePart 24 = .ok (.bipush 32, 2) := by decide +kernel
theorem dX7_sizePart_26 : decode cX7_sizePart 26 = .ok (.invokevirtual 129, 3) := by decide +kernel
theorem dX7_sizePart_29 : decode cX7_sizePart 29 = .ok (.invokestatic 56, 3) := by decide +kernel
theorem dX7_sizePart_32 : decode cX7_sizePart 32 = .ok (.return_, 1) := by decide +kernel
theorem dX7_edgePart_0 : decode cX7_edgePart 0 = .ok (.aload_n 0, 1) := by decide +kernel
theorem dX7_edgePart_1 : decode cX7_edgePart 1 = .ok (.invokevirtual 140, 3) := by decide +kernel
theorem dX7_edgePart_4 : decode cX7_edgePart 4 = .ok (.istore_n 1, 1) := by decide +kernel
theorem dX7_edgePart_5 : decode cX7_edgePart 5 = .ok (.aload_n 0, 1) := by decide +kernel
theorem dX7_edgePart_6 : decode cX7_edgePart 6 = .ok (.invokevirtual 143, 3) := by decide +kernel
theorem dX7_edgePart_9 : decode cX7_edgePart 9 = .ok (.istore_n 2, 1) := by decide +kernel
theorem dX7_edgePart_10 : decode cX7_edgePart 10 = .ok (.aload_n 0, 1) := by decide +kernel
theorem dX7_edgePart_11 : decode cX7_edgePart 11 = .ok (.invokevirtual 143, 3) := by decide +kernel
theorem dX7_edgePart_14 : decode cX7_edgePart 14 = .ok (.istore_n 3, 1) := by decide +kernel
theorem dX7_edgePart_15 : decode cX7_edgePart 15 = .ok (.aload_n 0, 1) := by decide +kernel
theorem dX7_edgePart_16 : decode cX7_edgePart 16 = .ok (.getfield 93, 3) := by decide +kernel
theorem dX7_edgePart_19 : decode cX7_edgePart 19 = .ok (.ifCond .ne 23, 3) := by decide +kernel
theorem dX7_edgePart_22 : decode cX7_edgePart 22 = .ok (.aload_n 0, 1) := by decide +kernel
theorem dX7_edgePart_23 : decode cX7_edgePart 23 = .ok (.getfield 13, 3) := by decide +kernel
theorem dX7_edgePart_26 : decode cX7_edgePart 26 = .ok (.bipush 28, 2) := by decide +kernel
theorem dX7_edgePart_28 : decode cX7_edgePart 28 = .ok (.bipush 32, 2) := by decide +kernel
theorem dX7_edgePart_30 : decode cX7_edgePart 30 = .ok (.iload_n 1, 1) := by decide +kernel
theorem dX7_edgePart_31 : decode cX7_edgePart 31 = .ok (.imul, 1) := by decide +kernel
theorem dX7_edgePart_32 : decode cX7_edgePart 32 = .ok (.iadd, 1) := by decide +kernel
theorem dX7_edgePart_33 : decode cX7_edgePart 33 = .ok (.iload_n 2, 1) := by decide +kernel
theorem dX7_edgePart_34 : decode cX7_edgePart 34 = .ok (.iadd, 1) := by decide +kernel
theorem dX7_edgePart_35 : decode cX7_edgePart 35 = .ok (.dup2, 1) := by decide +kernel
theorem dX7_edgePart_36 : decode cX7_edgePart 36 = .ok (.laload, 1) := by decide +kernel
theorem dX7_edgePart_37 : decode cX7_edgePart 37 = .ok (.lconst 1, 1) := by decide +kernel
theorem dX7_edgePart_38 : decode cX7_edgePart 38 = .ok (.iload_n 3, 1) := by decide +kernel
theorem dX7_edgePart_39 : decode cX7_edgePart 39 = .ok (.lshl, 1) := by decide +kernel
theorem dX7_edgePart_40 : decode cX7_edgePart 40 = .ok (.lor, 1) := by decide +kernel
theorem dX7_edgePart_41 : decode cX7_edgePart 41 = .ok (.lastore, 1) := by decide +kernel
theorem dX7_edgePart_42 : decode cX7_edgePart 42 = .ok (.return_, 1) := by decide +kernel
theorem dX7_rowPart_0 : decode cX7_rowPart 0 = .ok (.aload_n 0, 1) := by decide +kernel
theorem dX7_rowPart_1 : decode cX7_rowPart 1 = .ok (.invokevirtual 140, 3) := by decide +kernel
theorem dX7_rowPart_4 : decode cX7_rowPart 4 = .ok (.istore_n 1, 1) := by decide +kernel
theorem dX7_rowPart_5 : decode cX7_rowPart 5 = .ok (.aload_n 0, 1) := by decide +kernel
theorem dX7_rowPart_6 : decode cX7_rowPart 6 = .ok (.invokevirtual 143, 3) := by decide +kernel
theorem dX7_rowPart_9 : decode cX7_rowPart 9 = .ok (.istore_n 2, 1) := by decide +kernel
theorem dX7_rowPart_10 : decode cX7_rowPart 10 = .ok (.aload_n 0, 1) := by decide +kernel
theorem dX7_rowPart_11 : decode cX7_rowPart 11 = .ok (.getfield 93, 3) := by decide +kernel
theorem dX7_rowPart_14 : decode cX7_rowPart 14 = .ok (.ifCond .ne 25, 3) := by decide +kernel
theorem dX7_rowPart_17 : decode cX7_rowPart 17 = .ok (.aload_n 0, 1) := by decide +kernel
theorem dX7_rowPart_18 : decode cX7_rowPart 18 = .ok (.invokevirtual 99, 3) := by decide +kernel
theorem dX7_rowPart_21 : decode cX7_rowPart 21 = .ok (.i2l, 1) := by decide +kernel
theorem dX7_rowPart_22 : decode cX7_rowPart 22 = .ok (.ldc2_w 114, 3) := by decide +kernel
theorem dX7_rowPart_25 : decode cX7_rowPart 25 = .ok (.ldc2_w 116, 3) := by decide +kernel
theorem dX7_rowPart_28 : decode cX7_rowPart 28 = .ok (.invokestatic 67, 3) := by decide +kernel
theorem dX7_rowPart_31 : decode cX7_rowPart 31 = .ok (.ifCond .ne 8, 3) := by decide +kernel
theorem dX7_rowPart_34 : decode cX7_rowPart 34 = .ok (.aload_n 0, 1) := by decide +kernel
theorem dX7_rowPart_35 : decode cX7_rowPart 35 = .ok (.iconst 1, 1) := by decide +kernel
theorem dX7_rowPart_36 : decode cX7_rowPart 36 = .ok (.invokevirtual 118, 3) := by decide +kernel
theorem dX7_rowPart_39 : decode cX7_rowPart 39 = .ok (.aload_n 0, 1) := by decide +kernel
theorem dX7_rowPart_40 : decode cX7_rowPart 40 = .ok (.getfield 93, 3) := by decide +kernel
theorem dX7_rowPart_43 : decode cX7_rowPart 43 = .ok (.ifCond .eq 4, 3) := by decide +kernel
theorem dX7_rowPart_46 : decode cX7_rowPart 46 = .ok (.return_, 1) := by decide +kernel
theorem dX7_rowPart_47 : decode cX7_rowPart 47 = .ok (.lconst 0, 1) := by decide +kernel
theorem dX7_rowPart_48 : decode cX7_rowPart 48 = .ok (.lstore_n 3, 1) := by decide +kernel
theorem dX7_rowPart_49 : decode cX7_rowPart 49 = .ok (.iconst 0, 1) := by decide +kernel
theorem dX7_rowPart_50 : decode cX7_rowPart 50 = .ok (.istore 5, 2) := by decide +kernel
theorem dX7_rowPart_52 : decode cX7_rowPart 52 = .ok (.iconst 1, 1) := by decide +kernel
theorem dX7_rowPart_53 : decode cX7_rowPart 53 = .ok (.istore 6, 2) := by decide +kernel
theorem dX7_rowPart_55 : decode cX7_rowPart 55 = .ok (.aload_n 0, 1) := by decide +kernel
theorem dX7_rowPart_56 : decode cX7_rowPart 56 = .ok (.invokevirtual 87, 3) := by decide +kernel
theorem dX7_rowPart_59 : decode cX7_rowPart 59 = .ok (.i2l, 1) := by decide +kernel
theorem dX7_rowPart_60 : decode cX7_rowPart 60 = .ok (.ldc2_w 114, 3) := by decide +kernel
theorem dX7_rowPart_63 : decode cX7_rowPart 63 = .ok (.ldc2_w 116, 3) := by decide +kernel
theorem dX7_rowPart_66 : decode cX7_rowPart 66 = .ok (.invokestatic 67, 3) := by decide +kernel
theorem dX7_rowPart_69 : decode cX7_rowPart 69 = .ok (.ifCond .eq 65, 3) := by decide +kernel
theorem dX7_rowPart_72 : decode cX7_rowPart 72 = .ok (.iload 6, 2) := by decide +kernel
theorem dX7_rowPart_74 : decode cX7_rowPart 74 = .ok (.aload_n 0, 1) := by decide +kernel
theorem dX7_rowPart_75 : decode cX7_rowPart 75 = .ok (.invokevirtual 87, 3) := by decide +kernel
theorem dX7_rowPart_78 : decode cX7_rowPart 78 = .ok (.bipush 49, 2) := by decide +kernel
theorem dX7_rowPart_80 : decode cX7_rowPart 80 = .ok (.if_icmp .gt 7, 3) := by decide +kernel
theorem dX7_rowPart_83 : decode cX7_rowPart 83 = .ok (.iconst 1, 1) := by decide +kernel
theorem dX7_rowPart_84 : decode cX7_rowPart 84 = .ok (.goto 4, 3) := by decide +kernel
theorem dX7_rowPart_87 : decode cX7_rowPart 87 = .ok (.iconst 0, 1) := by decide +kernel
theorem dX7_rowPart_88 : decode cX7_rowPart 88 = .ok (.iand, 1) := by decide +kernel
theorem dX7_rowPart_89 : decode cX7_rowPart 89 = .ok (.istore 6, 2) := by decide +kernel
theorem dX7_rowPart_91 : decode cX7_rowPart 91 = .ok (.lload_n 3, 1) := by decide +kernel
theorem dX7_rowPart_92 : decode cX7_rowPart 92 = .ok (.iload 5, 2) := by decide +kernel
theorem dX7_rowPart_94 : decode cX7_rowPart 94 = .ok (.bipush 32, 2) := by decide +kernel
theorem dX7_rowPart_96 : decode cX7_rowPart 96 = .ok (.if_icmp .ge 19, 3) := by decide +kernel
theorem dX7_rowPart_99 : decode cX7_rowPart 99 = .ok (.aload_n 0, 1) := by decide +kernel
theorem dX7_rowPart_100 : decode cX7_rowPart 100 = .ok (.invokevirtual 87, 3) := by decide +kernel
theorem dX7_rowPart_103 : decode cX7_rowPart 103 = .ok (.bipush 49, 2) := by decide +kernel
theorem dX7_rowPart_105 : decode cX7_rowPart 105 = .ok (.if_icmp .ne 10, 3) := by decide +kernel
theorem dX7_rowPart_108 : decode cX7_rowPart 108 = .ok (.lconst 1, 1) := by decide +kernel
theorem dX7_rowPart_109 : decode cX7_rowPart 109 = .ok (.iload 5, 2) := by decide +kernel
theorem dX7_rowPart_111 : decode cX7_rowPart 111 = .ok (.lshl, 1) := by decide +kernel
theorem dX7_rowPart_112 : decode cX7_rowPart 112 = .ok (.goto 4, 3) := by decide +kernel
theorem dX7_rowPart_115 : decode cX7_rowPart 115 = .ok (.lconst 0, 1) := by decide +kernel
theorem dX7_rowPart_116 : decode cX7_rowPart 116 = .ok (.lor, 1) := by decide +kernel
theorem dX7_rowPart_117 : decode cX7_rowPart 117 = .ok (.lstore_n 3, 1) := by decide +kernel
theorem dX7_rowPart_118 : decode cX7_rowPart 118 = .ok (.iinc 5 1, 3) := by decide +kernel
theorem dX7_rowPart_121 : decode cX7_rowPart 121 = .ok (.aload_n 0, 1) := by decide +kernel
theorem dX7_rowPart_122 : decode cX7_rowPart 122 = .ok (.dup, 1) := by decide +kernel
theorem dX7_rowPart_123 : decode cX7_rowPart 123 = .ok (.getfield 84, 3) := by decide +kernel
theorem dX7_rowPart_126 : decode cX7_rowPart 126 = .ok (.iconst 1, 1) := by decide +kernel
theorem dX7_rowPart_127 : decode cX7_rowPart 127 = .ok (.iadd, 1) := by decide +kernel
theorem dX7_rowPart_128 : decode cX7_rowPart 128 = .ok (.putfield 84, 3) := by decide +kernel
theorem dX7_rowPart_131 : decode cX7_rowPart 131 = .ok (.goto (-76), 3) := by decide +kernel
theorem dX7_rowPart_134 : decode cX7_rowPart 134 = .ok (.iload 6, 2) := by decide +kernel
theorem dX7_rowPart_136 : decode cX7_rowPart 136 = .ok (.ifCond .eq 16, 3) := by decide +kernel
theorem dX7_rowPart_139 : decode cX7_rowPart 139 = .ok (.iload 5, 2) := by decide +kernel
theorem dX7_rowPart_141 : decode cX7_rowPart 141 = .ok (.i2l, 1) := by decide +kernel
theorem dX7_rowPart_142 : decode cX7_rowPart 142 = .ok (.aload_n 0, 1) := by decide +kernel
theorem dX7_rowPart_143 : decode cX7_rowPart 143 = .ok (.getfield 13, 3) := by decide +kernel
theorem dX7_rowPart_146 : decode cX7_rowPart 146 = .ok (.iconst 0, 1) := by decide +kernel
theorem dX7_rowPart_147 : decode cX7_rowPart 147 = .ok (.laload, 1) := by decide +kernel
theorem dX7_rowPart_148 : decode cX7_rowPart 148 = .ok (.lcmp, 1) := by decide +kernel
theorem dX7_rowPart_149 : decode cX7_rowPart 149 = .ok (.ifCond .eq 9, 3) := by decide +kernel
theorem dX7_rowPart_152 : decode cX7_rowPart 152 = .ok (.aload_n 0, 1) := by decide +kernel
theorem dX7_rowPart_153 : decode cX7_rowPart 153 = .ok (.iconst 2, 1) := by decide +kernel
theorem dX7_rowPart_154 : decode cX7_rowPart 154 = .ok (.invokevirtual 118, 3) := by decide +kernel
theorem dX7_rowPart_157 : decode cX7_rowPart 157 = .ok (.return_, 1) := by decide +kernel
theorem dX7_rowPart_158 : decode cX7_rowPart 158 = .ok (.aload_n 0, 1) := by decide +kernel
theorem dX7_rowPart_159 : decode cX7_rowPart 159 = .ok (.getfield 13, 3) := by decide +kernel
theorem dX7_rowPart_162 : decode cX7_rowPart 162 = .ok (.bipush 28, 2) := by decide +kernel
theorem dX7_rowPart_164 : decode cX7_rowPart 164 = .ok (.bipush 32, 2) := by decide +kernel
theorem dX7_rowPart_166 : decode cX7_rowPart 166 = .ok (.iload_n 1, 1) := by decide +kernel
theorem dX7_rowPart_167 : decode cX7_rowPart 167 = .ok (.imul, 1) := by decide +kernel
theorem dX7_rowPart_168 : decode cX7_rowPart 168 = .ok (.iadd, 1) := by decide +kernel
theorem dX7_rowPart_169 : decode cX7_rowPart 169 = .ok (.iload_n 2, 1) := by decide +kernel
theorem dX7_rowPart_170 : decode cX7_rowPart 170 = .ok (.iadd, 1) := by decide +kernel
theorem dX7_rowPart_171 : decode cX7_rowPart 171 = .ok (.lload_n 3, 1) := by decide +kernel
theorem dX7_rowPart_172 : decode cX7_rowPart 172 = .ok (.lastore, 1) := by decide +kernel
theorem dX7_rowPart_173 : decode cX7_rowPart 173 = .ok (.return_, 1) := by decide +kernel
theorem dX7_filled_0 : decode cX7_filled 0 = .ok (.lconst 1, 1) := by decide +kernel
theorem dX7_filled_1 : decode cX7_filled 1 = .ok (.iload_n 1, 1) := by decide +kernel
theorem dX7_filled_2 : decode cX7_filled 2 = .ok (.lshl, 1) := by decide +kernel
theorem dX7_filled_3 : decode cX7_filled 3 = .ok (.lstore_n 3, 1) := by decide +kernel
theorem dX7_filled_4 : decode cX7_filled 4 = .ok (.iload_n 0, 1) := by decide +kernel
theorem dX7_filled_5 : decode cX7_filled 5 = .ok (.tableswitch 50 0 2 #[27, 29, 35], 27) := by decide +kernel
theorem dX7_filled_32 : decode cX7_filled 32 = .ok (.lload_n 3, 1) := by decide +kernel
theorem dX7_filled_33 : decode cX7_filled 33 = .ok (.lreturn, 1) := by decide +kernel
theorem dX7_filled_34 : decode cX7_filled 34 = .ok (.lconst 1, 1) := by decide +kernel
theorem dX7_filled_35 : decode cX7_filled 35 = .ok (.iload_n 2, 1) := by decide +kernel
theorem dX7_filled_36 : decode cX7_filled 36 = .ok (.lshl, 1) := by decide +kernel
theorem dX7_filled_37 : decode cX7_filled 37 = .ok (.lconst 1, 1) := by decide +kernel
theorem dX7_filled_38 : decode cX7_filled 38 = .ok (.lsub, 1) := by decide +kernel
theorem dX7_filled_39 : decode cX7_filled 39 = .ok (.lreturn, 1) := by decide +kernel
theorem dX7_filled_40 : decode cX7_filled 40 = .ok (.iload_n 1, 1) := by decide +kernel
theorem dX7_filled_41 : decode cX7_filled 41 = .ok (.iload_n 2, 1) := by decide +kernel
theorem dX7_filled_42 : decode cX7_filled 42 = .ok (.iconst 1, 1) := by decide +kernel
theorem dX7_filled_43 : decode cX7_filled 43 = .ok (.isub, 1) := by decide +kernel
theorem dX7_filled_44 : decode cX7_filled 44 = .ok (.if_icmp .ne 7, 3) := by decide +kernel
theorem dX7_filled_47 : decode cX7_filled 47 = .ok (.lconst 1, 1) := by decide +kernel
theorem dX7_filled_48 : decode cX7_filled 48 = .ok (.goto 6, 3) := by decide +kernel
theorem dX7_filled_51 : decode cX7_filled 51 = .ok (.lload_n 3, 1) := by decide +kernel
theorem dX7_filled_52 : decode cX7_filled 52 = .ok (.iconst 1, 1) := by decide +kernel
theorem dX7_filled_53 : decode cX7_filled 53 = .ok (.lshl, 1) := by decide +kernel
theorem dX7_filled_54 : decode cX7_filled 54 = .ok (.lreturn, 1) := by decide +kernel
theorem dX7_filled_55 : decode cX7_filled 55 = .ok (.lload_n 3, 1) := by decide +kernel
theorem dX7_filled_56 : decode cX7_filled 56 = .ok (.lconst 1, 1) := by decide +kernel
theorem dX7_filled_57 : decode cX7_filled 57 = .ok (.lsub, 1) := by decide +kernel
theorem dX7_filled_58 : decode cX7_filled 58 = .ok (.lreturn, 1) := by decide +kernel
theorem dX7_kindHere_0 : decode cX7_kindHere 0 = .ok (.aload_n 0, 1) := by decide +kernel
theorem dX7_kindHere_1 : decode cX7_kindHere 1 = .ok (.ldc 146, 2) := by decide +kernel
theorem dX7_kindHere_3 : decode cX7_kindHere 3 = .ok (.invokevirtual 136, 3) := by decide +kernel
theorem dX7_kindHere_6 : decode cX7_kindHere 6 = .ok (.ifCond .eq 7, 3) := by decide +kernel
theorem dX7_kindHere_9 : decode cX7_kindHere 9 = .ok (.iconst 0, 1) := by decide +kernel
theorem dX7_kindHere_10 : decode cX7_kindHere 10 = .ok (.goto 43, 3) := by decide +kernel
theorem dX7_kindHere_13 : decode cX7_kindHere 13 = .ok (.aload_n 0, 1) := by decide +kernel
theorem dX7_kindHere_14 : decode cX7_kindHere 14 = .ok (.ldc 148, 2) := by decide +kernel
theorem dX7_kindHere_16 : decode cX7_kindHere 16 = .ok (.invokevirtual 136, 3) := by decide +kernel
theorem dX7_kindHere_19 : decode cX7_kindHere 19 = .ok (.ifCond .eq 7, 3) := by decide +kernel
theorem dX7_kindHere_22 : decode cX7_kindHere 22 = .ok (.iconst 1, 1) := by decide +kernel
theorem dX7_kindHere_23 : decode cX7_kindHere 23 = .ok (.goto 30, 3) := by decide +kernel
theorem dX7_kindHere_26 : decode cX7_kindHere 26 = .ok (.aload_n 0, 1) := by decide +kernel
theorem dX7_kindHere_27 : decode cX7_kindHere 27 = .ok (.ldc 150, 2) := by decide +kernel
theorem dX7_kindHere_29 : decode cX7_kindHere 29 = .ok (.invokevirtual 136, 3) := by decide +kernel
theorem dX7_kindHere_32 : decode cX7_kindHere 32 = .ok (.ifCond .eq 7, 3) := by decide +kernel
theorem dX7_kindHere_35 : decode cX7_kindHere 35 = .ok (.iconst 2, 1) := by decide +kernel
theorem dX7_kindHere_36 : decode cX7_kindHere 36 = .ok (.goto 17, 3) := by decide +kernel
theorem dX7_kindHere_39 : decode cX7_kindHere 39 = .ok (.aload_n 0, 1) := by decide +kernel
theorem dX7_kindHere_40 : decode cX7_kindHere 40 = .ok (.ldc 152, 2) := by decide +kernel
theorem dX7_kindHere_42 : decode cX7_kindHere 42 = .ok (.invokevirtual 136, 3) := by decide +kernel
theorem dX7_kindHere_45 : decode cX7_kindHere 45 = .ok (.ifCond .eq 7, 3) := by decide +kernel
theorem dX7_kindHere_48 : decode cX7_kindHere 48 = .ok (.iconst 3, 1) := by decide +kernel
theorem dX7_kindHere_49 : decode cX7_kindHere 49 = .ok (.goto 4, 3) := by decide +kernel
theorem dX7_kindHere_52 : decode cX7_kindHere 52 = .ok (.iconst (-1), 1) := by decide +kernel
theorem dX7_kindHere_53 : decode cX7_kindHere 53 = .ok (.ireturn, 1) := by decide +kernel
theorem dX7_fillPart_0 : decode cX7_fillPart 0 = .ok (.aload_n 0, 1) := by decide +kernel
theorem dX7_fillPart_1 : decode cX7_fillPart 1 = .ok (.invokevirtual 140, 3) := by decide +kernel
theorem dX7_fillPart_4 : decode cX7_fillPart 4 = .ok (.istore_n 1, 1) := by decide +kernel
theorem dX7_fillPart_5 : decode cX7_fillPart 5 = .ok (.aload_n 0, 1) := by decide +kernel
theorem dX7_fillPart_6 : decode cX7_fillPart 6 = .ok (.invokevirtual 132, 3) := by decide +kernel
theorem dX7_fillPart_9 : decode cX7_fillPart 9 = .ok (.aload_n 0, 1) := by decide +kernel
theorem dX7_fillPart_10 : decode cX7_fillPart 10 = .ok (.invokevirtual 154, 3) := by decide +kernel
theorem dX7_fillPart_13 : decode cX7_fillPart 13 = .ok (.istore_n 2, 1) := by decide +kernel
theorem dX7_fillPart_14 : decode cX7_fillPart 14 = .ok (.iload_n 2, 1) := by decide +kernel
theorem dX7_fillPart_15 : decode cX7_fillPart 15 = .ok (.iconst (-1), 1) := by decide +kernel
theorem dX7_fillPart_16 : decode cX7_fillPart 16 = .ok (.if_icmp .ne 8, 3) := by decide +kernel
theorem dX7_fillPart_19 : decode cX7_fillPart 19 = .ok (.aload_n 0, 1) := by decide +kernel
theorem dX7_fillPart_20 : decode cX7_fillPart 20 = .ok (.iconst 1, 1) := by decide +kernel
theorem dX7_fillPart_21 : decode cX7_fillPart 21 = .ok (.invokevirtual 118, 3) := by decide +kernel
theorem dX7_fillPart_24 : decode cX7_fillPart 24 = .ok (.aload_n 0, 1) := by decide +kernel
theorem dX7_fillPart_25 : decode cX7_fillPart 25 = .ok (.getfield 93, 3) := by decide +kernel
theorem dX7_fillPart_28 : decode cX7_fillPart 28 = .ok (.ifCond .eq 4, 3) := by decide +kernel
theorem dX7_fillPart_31 : decode cX7_fillPart 31 = .ok (.return_, 1) := by decide +kernel
theorem dX7_fillPart_32 : decode cX7_fillPart 32 = .ok (.aload_n 0, 1) := by decide +kernel
theorem dX7_fillPart_33 : decode cX7_fillPart 33 = .ok (.getfield 13, 3) := by decide +kernel
theorem dX7_fillPart_36 : decode cX7_fillPart 36 = .ok (.iconst 0, 1) := by decide +kernel
theorem dX7_fillPart_37 : decode cX7_fillPart 37 = .ok (.laload, 1) := by decide +kernel
theorem dX7_fillPart_38 : decode cX7_fillPart 38 = .ok (.l2i, 1) := by decide +kernel
theorem dX7_fillPart_39 : decode cX7_fillPart 39 = .ok (.istore_n 3, 1) := by decide +kernel
theorem dX7_fillPart_40 : decode cX7_fillPart 40 = .ok (.iconst 0, 1) := by decide +kernel
theorem dX7_fillPart_41 : decode cX7_fillPart 41 = .ok (.istore 4, 2) := by decide +kernel
theorem dX7_fillPart_43 : decode cX7_fillPart 43 = .ok (.iload 4, 2) := by decide +kernel
theorem dX7_fillPart_45 : decode cX7_fillPart 45 = .ok (.iload_n 3, 1) := by decide +kernel
theorem dX7_fillPart_46 : decode cX7_fillPart 46 = .ok (.if_icmp .ge 31, 3) := by decide +kernel
theorem dX7_fillPart_49 : decode cX7_fillPart 49 = .ok (.aload_n 0, 1) := by decide +kernel
theorem dX7_fillPart_50 : decode cX7_fillPart 50 = .ok (.getfield 13, 3) := by decide +kernel
theorem dX7_fillPart_53 : decode cX7_fillPart 53 = .ok (.bipush 28, 2) := by decide +kernel
theorem dX7_fillPart_55 : decode cX7_fillPart 55 = .ok (.bipush 32, 2) := by decide +kernel
theorem dX7_fillPart_57 : decode cX7_fillPart 57 = .ok (.iload_n 1, 1) := by decide +kernel
theorem dX7_fillPart_58 : decode cX7_fillPart 58 = .ok (.imul, 1) := by decide +kernel
theorem dX7_fillPart_59 : decode cX7_fillPart 59 = .ok (.iadd, 1) := by decide +kernel
theorem dX7_fillPart_60 : decode cX7_fillPart 60 = .ok (.iload 4, 2) := by decide +kernel
theorem dX7_fillPart_62 : decode cX7_fillPart 62 = .ok (.iadd, 1) := by decide +kernel
theorem dX7_fillPart_63 : decode cX7_fillPart 63 = .ok (.iload_n 2, 1) := by decide +kernel
theorem dX7_fillPart_64 : decode cX7_fillPart 64 = .ok (.iload 4, 2) := by decide +kernel
theorem dX7_fillPart_66 : decode cX7_fillPart 66 = .ok (.iload_n 3, 1) := by decide +kernel
theorem dX7_fillPart_67 : decode cX7_fillPart 67 = .ok (.invokestatic 157, 3) := by decide +kernel
theorem dX7_fillPart_70 : decode cX7_fillPart 70 = .ok (.lastore, 1) := by decide +kernel
theorem dX7_fillPart_71 : decode cX7_fillPart 71 = .ok (.iinc 4 1, 3) := by decide +kernel
theorem dX7_fillPart_74 : decode cX7_fillPart 74 = .ok (.goto (-31), 3) := by decide +kernel
theorem dX7_fillPart_77 : decode cX7_fillPart 77 = .ok (.return_, 1) := by decide +kernel
theorem dX7_keepPart_0 : decode cX7_keepPart 0 = .ok (.aload_n 0, 1) := by decide +kernel
theorem dX7_keepPart_1 : decode cX7_keepPart 1 = .ok (.invokevirtual 140, 3) := by decide +kernel
theorem dX7_keepPart_4 : decode cX7_keepPart 4 = .ok (.istore_n 1, 1) := by decide +kernel
theorem dX7_keepPart_5 : decode cX7_keepPart 5 = .ok (.aload_n 0, 1) := by decide +kernel
theorem dX7_keepPart_6 : decode cX7_keepPart 6 = .ok (.getfield 93, 3) := by decide +kernel
theorem dX7_keepPart_9 : decode cX7_keepPart 9 = .ok (.ifCond .ne 21, 3) := by decide +kernel
theorem dX7_keepPart_12 : decode cX7_keepPart 12 = .ok (.aload_n 0, 1) := by decide +kernel
theorem dX7_keepPart_13 : decode cX7_keepPart 13 = .ok (.getfield 13, 3) := by decide +kernel
theorem dX7_keepPart_16 : decode cX7_keepPart 16 = .ok (.iconst 4, 1) := by decide +kernel
theorem dX7_keepPart_17 : decode cX7_keepPart 17 = .ok (.iload_n 1, 1) := by decide +kernel
theorem dX7_keepPart_18 : decode cX7_keepPart 18 = .ok (.iadd, 1) := by decide +kernel
theorem dX7_keepPart_19 : decode cX7_keepPart 19 = .ok (.laload, 1) := by decide +kernel
theorem dX7_keepPart_20 : decode cX7_keepPart 20 = .ok (.lconst 1, 1) := by decide +kernel
theorem dX7_keepPart_21 : decode cX7_keepPart 21 = .ok (.lcmp, 1) := by decide +kernel
theorem dX7_keepPart_22 : decode cX7_keepPart 22 = .ok (.ifCond .ne 8, 3) := by decide +kernel
theorem dX7_keepPart_25 : decode cX7_keepPart 25 = .ok (.aload_n 0, 1) := by decide +kernel
theorem dX7_keepPart_26 : decode cX7_keepPart 26 = .ok (.iconst 3, 1) := by decide +kernel
theorem dX7_keepPart_27 : decode cX7_keepPart 27 = .ok (.invokevirtual 118, 3) := by decide +kernel
theorem dX7_keepPart_30 : decode cX7_keepPart 30 = .ok (.aload_n 0, 1) := by decide +kernel
theorem dX7_keepPart_31 : decode cX7_keepPart 31 = .ok (.getfield 13, 3) := by decide +kernel
theorem dX7_keepPart_34 : decode cX7_keepPart 34 = .ok (.iconst 4, 1) := by decide +kernel
theorem dX7_keepPart_35 : decode cX7_keepPart 35 = .ok (.iload_n 1, 1) := by decide +kernel
theorem dX7_keepPart_36 : decode cX7_keepPart 36 = .ok (.iadd, 1) := by decide +kernel
theorem dX7_keepPart_37 : decode cX7_keepPart 37 = .ok (.lconst 1, 1) := by decide +kernel
theorem dX7_keepPart_38 : decode cX7_keepPart 38 = .ok (.lastore, 1) := by decide +kernel
theorem dX7_keepPart_39 : decode cX7_keepPart 39 = .ok (.return_, 1) := by decide +kernel
theorem dX7_statement_0 : decode cX7_statement 0 = .ok (.aload_n 0, 1) := by decide +kernel
theorem dX7_statement_1 : decode cX7_statement 1 = .ok (.invokevirtual 132, 3) := by decide +kernel
theorem dX7_statement_4 : decode cX7_statement 4 = .ok (.aload_n 0, 1) := by decide +kernel
theorem dX7_statement_5 : decode cX7_statement 5 = .ok (.ldc 161, 2) := by decide +kernel
theorem dX7_statement_7 : decode cX7_statement 7 = .ok (.invokevirtual 136, 3) := by decide +kernel
theorem dX7_statement_10 : decode cX7_statement 10 = .ok (.ifCond .eq 10, 3) := by decide +kernel
theorem dX7_statement_13 : decode cX7_statement 13 = .ok (.aload_n 0, 1) := by decide +kernel
theorem dX7_statement_14 : decode cX7_statement 14 = .ok (.invokevirtual 163, 3) := by decide +kernel
theorem dX7_statement_17 : decode cX7_statement 17 = .ok (.goto 82, 3) := by decide +kernel
theorem dX7_statement_20 : decode cX7_statement 20 = .ok (.aload_n 0, 1) := by decide +kernel
theorem dX7_statement_21 : decode cX7_statement 21 = .ok (.ldc 166, 2) := by decide +kernel
theorem dX7_statement_23 : decode cX7_statement 23 = .ok (.invokevirtual 136, 3) := by decide +kernel
theorem dX7_statement_26 : decode cX7_statement 26 = .ok (.ifCond .eq 10, 3) := by decide +kernel
theorem dX7_statement_29 : decode cX7_statement 29 = .ok (.aload_n 0, 1) := by decide +kernel
theorem dX7_statement_30 : decode cX7_statement 30 = .ok (.invokevirtual 168, 3) := by decide +kernel
theorem dX7_statement_33 : decode cX7_statement 33 = .ok (.goto 66, 3) := by decide +kernel
theorem dX7_statement_36 : decode cX7_statement 36 = .ok (.aload_n 0, 1) := by decide +kernel
theorem dX7_statement_37 : decode cX7_statement 37 = .ok (.ldc 171, 2) := by decide +kernel
theorem dX7_statement_39 : decode cX7_statement 39 = .ok (.invokevirtual 136, 3) := by decide +kernel
theorem dX7_statement_42 : decode cX7_statement 42 = .ok (.ifCond .eq 10, 3) := by decide +kernel
theorem dX7_statement_45 : decode cX7_statement 45 = .ok (.aload_n 0, 1) := by decide +kernel
theorem dX7_statement_46 : decode cX7_statement 46 = .ok (.invokevirtual 173, 3) := by decide +kernel
theorem dX7_statement_49 : decode cX7_statement 49 = .ok (.goto 50, 3) := by decide +kernel
theorem dX7_statement_52 : decode cX7_statement 52 = .ok (.aload_n 0, 1) := by decide +kernel
theorem dX7_statement_53 : decode cX7_statement 53 = .ok (.ldc 176, 2) := by decide +kernel
theorem dX7_statement_55 : decode cX7_statement 55 = .ok (.invokevirtual 136, 3) := by decide +kernel
theorem dX7_statement_58 : decode cX7_statement 58 = .ok (.ifCond .eq 10, 3) := by decide +kernel
theorem dX7_statement_61 : decode cX7_statement 61 = .ok (.aload_n 0, 1) := by decide +kernel
theorem dX7_statement_62 : decode cX7_statement 62 = .ok (.invokevirtual 178, 3) := by decide +kernel
theorem dX7_statement_65 : decode cX7_statement 65 = .ok (.goto 34, 3) := by decide +kernel
theorem dX7_statement_68 : decode cX7_statement 68 = .ok (.aload_n 0, 1) := by decide +kernel
theorem dX7_statement_69 : decode cX7_statement 69 = .ok (.ldc 181, 2) := by decide +kernel
theorem dX7_statement_71 : decode cX7_statement 71 = .ok (.invokevirtual 136, 3) := by decide +kernel
theorem dX7_statement_74 : decode cX7_statement 74 = .ok (.ifCond .eq 20, 3) := by decide +kernel
theorem dX7_statement_77 : decode cX7_statement 77 = .ok (.aload_n 0, 1) := by decide +kernel
theorem dX7_statement_78 : decode cX7_statement 78 = .ok (.getfield 13, 3) := by decide +kernel
theorem dX7_statement_81 : decode cX7_statement 81 = .ok (.iconst 1, 1) := by decide +kernel
theorem dX7_statement_82 : decode cX7_statement 82 = .ok (.aload_n 0, 1) := by decide +kernel
theorem dX7_statement_83 : decode cX7_statement 83 = .ok (.iconst 1, 1) := by decide +kernel
theorem dX7_statement_84 : decode cX7_statement 84 = .ok (.bipush 8, 2) := by decide +kernel
theorem dX7_statement_86 : decode cX7_statement 86 = .ok (.invokevirtual 129, 3) := by decide +kernel
theorem dX7_statement_89 : decode cX7_statement 89 = .ok (.i2l, 1) := by decide +kernel
theorem dX7_statement_90 : decode cX7_statement 90 = .ok (.lastore, 1) := by decide +kernel
theorem dX7_statement_91 : decode cX7_statement 91 = .ok (.goto 8, 3) := by decide +kernel
theorem dX7_statement_94 : decode cX7_statement 94 = .ok (.aload_n 0, 1) := by decide +kernel
theorem dX7_statement_95 : decode cX7_statement 95 = .ok (.iconst 1, 1) := by decide +kernel
theorem dX7_statement_96 : decode cX7_statement 96 = .ok (.invokevirtual 118, 3) := by decide +kernel
theorem dX7_statement_99 : decode cX7_statement 99 = .ok (.return_, 1) := by decide +kernel
theorem dX7_isMore_0 : decode cX7_isMore 0 = .ok (.aload_n 0, 1) := by decide +kernel
theorem dX7_isMore_1 : decode cX7_isMore 1 = .ok (.getfield 93, 3) := by decide +kernel
theorem dX7_isMore_4 : decode cX7_isMore 4 = .ok (.ifCond .ne 10, 3) := by decide +kernel
theorem dX7_isMore_7 : decode cX7_isMore 7 = .ok (.aload_n 0, 1) := by decide +kernel
theorem dX7_isMore_8 : decode cX7_isMore 8 = .ok (.invokevirtual 99, 3) := by decide +kernel
theorem dX7_isMore_11 : decode cX7_isMore 11 = .ok (.ifCond .ge 5, 3) := by decide +kernel
theorem dX7_isMore_14 : decode cX7_isMore 14 = .ok (.iconst 0, 1) := by decide +kernel
theorem dX7_isMore_15 : decode cX7_isMore 15 = .ok (.ireturn, 1) := by decide +kernel
theorem dX7_isMore_16 : decode cX7_isMore 16 = .ok (.aload_n 0, 1) := by decide +kernel
theorem dX7_isMore_17 : decode cX7_isMore 17 = .ok (.invokevirtual 87, 3) := by decide +kernel
theorem dX7_isMore_20 : decode cX7_isMore 20 = .ok (.bipush 59, 2) := by decide +kernel
theorem dX7_isMore_22 : decode cX7_isMore 22 = .ok (.if_icmp .eq 10, 3) := by decide +kernel
theorem dX7_isMore_25 : decode cX7_isMore 25 = .ok (.aload_n 0, 1) := by decide +kernel
theorem dX7_isMore_26 : decode cX7_isMore 26 = .ok (.iconst 1, 1) := by decide +kernel
theorem dX7_isMore_27 : decode cX7_isMore 27 = .ok (.invokevirtual 118, 3) := by decide +kernel
theorem dX7_isMore_30 : decode cX7_isMore 30 = .ok (.iconst 0, 1) := by decide +kernel
theorem dX7_isMore_31 : decode cX7_isMore 31 = .ok (.ireturn, 1) := by decide +kernel
theorem dX7_isMore_32 : decode cX7_isMore 32 = .ok (.aload_n 0, 1) := by decide +kernel
theorem dX7_isMore_33 : decode cX7_isMore 33 = .ok (.dup, 1) := by decide +kernel
theorem dX7_isMore_34 : decode cX7_isMore 34 = .ok (.getfield 84, 3) := by decide +kernel
theorem dX7_isMore_37 : decode cX7_isMore 37 = .ok (.iconst 1, 1) := by decide +kernel
theorem dX7_isMore_38 : decode cX7_isMore 38 = .ok (.iadd, 1) := by decide +kernel
theorem dX7_isMore_39 : decode cX7_isMore 39 = .ok (.putfield 84, 3) := by decide +kernel
theorem dX7_isMore_42 : decode cX7_isMore 42 = .ok (.aload_n 0, 1) := by decide +kernel
theorem dX7_isMore_43 : decode cX7_isMore 43 = .ok (.dup, 1) := by decide +kernel
theorem dX7_isMore_44 : decode cX7_isMore 44 = .ok (.getfield 183, 3) := by decide +kernel
theorem dX7_isMore_47 : decode cX7_isMore 47 = .ok (.iconst 1, 1) := by decide +kernel
theorem dX7_isMore_48 : decode cX7_isMore 48 = .ok (.iadd, 1) := by decide +kernel
theorem dX7_isMore_49 : decode cX7_isMore 49 = .ok (.putfield 183, 3) := by decide +kernel
theorem dX7_isMore_52 : decode cX7_isMore 52 = .ok (.iconst 1, 1) := by decide +kernel
theorem dX7_isMore_53 : decode cX7_isMore 53 = .ok (.ireturn, 1) := by decide +kernel
theorem dX7_load_0 : decode cX7_load 0 = .ok (.aload_n 0, 1) := by decide +kernel
theorem dX7_load_1 : decode cX7_load 1 = .ok (.iconst 0, 1) := by decide +kernel
theorem dX7_load_2 : decode cX7_load 2 = .ok (.putfield 60, 3) := by decide +kernel
theorem dX7_load_5 : decode cX7_load 5 = .ok (.aload_n 0, 1) := by decide +kernel
theorem dX7_load_6 : decode cX7_load 6 = .ok (.iconst 0, 1) := by decide +kernel
theorem dX7_load_7 : decode cX7_load 7 = .ok (.putfield 84, 3) := by decide +kernel
theorem dX7_load_10 : decode cX7_load 10 = .ok (.aload_n 0, 1) := by decide +kernel
theorem dX7_load_11 : decode cX7_load 11 = .ok (.iconst 0, 1) := by decide +kernel
theorem dX7_load_12 : decode cX7_load 12 = .ok (.putfield 93, 3) := by decide +kernel
theorem dX7_load_15 : decode cX7_load 15 = .ok (.aload_n 0, 1) := by decide +kernel
theorem dX7_load_16 : decode cX7_load 16 = .ok (.iconst 0, 1) := by decide +kernel
theorem dX7_load_17 : decode cX7_load 17 = .ok (.putfield 183, 3) := by decide +kernel
theorem dX7_load_20 : decode cX7_load 20 = .ok (.aload_n 0, 1) := by decide +kernel
theorem dX7_load_21 : decode cX7_load 21 = .ok (.invokevirtual 186, 3) := by decide +kernel
theorem dX7_load_24 : decode cX7_load 24 = .ok (.aload_n 0, 1) := by decide +kernel
theorem dX7_load_25 : decode cX7_load 25 = .ok (.invokevirtual 189, 3) := by decide +kernel
theorem dX7_load_28 : decode cX7_load 28 = .ok (.ifCond .eq 10, 3) := by decide +kernel
theorem dX7_load_31 : decode cX7_load 31 = .ok (.aload_n 0, 1) := by decide +kernel
theorem dX7_load_32 : decode cX7_load 32 = .ok (.invokevirtual 193, 3) := by decide +kernel
theorem dX7_load_35 : decode cX7_load 35 = .ok (.goto (-11), 3) := by decide +kernel
theorem dX7_load_38 : decode cX7_load 38 = .ok (.aload_n 0, 1) := by decide +kernel
theorem dX7_load_39 : decode cX7_load 39 = .ok (.iconst 0, 1) := by decide +kernel
theorem dX7_load_40 : decode cX7_load 40 = .ok (.putfield 81, 3) := by decide +kernel
theorem dX7_load_43 : decode cX7_load 43 = .ok (.aload_n 0, 1) := by decide +kernel
theorem dX7_load_44 : decode cX7_load 44 = .ok (.aload_n 0, 1) := by decide +kernel
theorem dX7_load_45 : decode cX7_load 45 = .ok (.getfield 93, 3) := by decide +kernel
theorem dX7_load_48 : decode cX7_load 48 = .ok (.putfield 195, 3) := by decide +kernel
theorem dX7_load_51 : decode cX7_load 51 = .ok (.aload_n 0, 1) := by decide +kernel
theorem dX7_load_52 : decode cX7_load 52 = .ok (.aload_n 0, 1) := by decide +kernel
theorem dX7_load_53 : decode cX7_load 53 = .ok (.getfield 93, 3) := by decide +kernel
theorem dX7_load_56 : decode cX7_load 56 = .ok (.ifCond .ne 7, 3) := by decide +kernel
theorem dX7_load_59 : decode cX7_load 59 = .ok (.iconst (-1), 1) := by decide +kernel
theorem dX7_load_60 : decode cX7_load 60 = .ok (.goto 7, 3) := by decide +kernel
theorem dX7_load_63 : decode cX7_load 63 = .ok (.aload_n 0, 1) := by decide +kernel
theorem dX7_load_64 : decode cX7_load 64 = .ok (.getfield 183, 3) := by decide +kernel
theorem dX7_load_67 : decode cX7_load 67 = .ok (.putfield 30, 3) := by decide +kernel
theorem dX7_load_70 : decode cX7_load 70 = .ok (.aload_n 0, 1) := by decide +kernel
theorem dX7_load_71 : decode cX7_load 71 = .ok (.getfield 93, 3) := by decide +kernel
theorem dX7_load_74 : decode cX7_load 74 = .ok (.ifCond .eq 11, 3) := by decide +kernel
theorem dX7_load_77 : decode cX7_load 77 = .ok (.bipush (-100), 2) := by decide +kernel
theorem dX7_load_79 : decode cX7_load 79 = .ok (.aload_n 0, 1) := by decide +kernel
theorem dX7_load_80 : decode cX7_load 80 = .ok (.getfield 96, 3) := by decide +kernel
theorem dX7_load_83 : decode cX7_load 83 = .ok (.isub, 1) := by decide +kernel
theorem dX7_load_84 : decode cX7_load 84 = .ok (.ireturn, 1) := by decide +kernel
theorem dX7_load_85 : decode cX7_load 85 = .ok (.aload_n 0, 1) := by decide +kernel
theorem dX7_load_86 : decode cX7_load 86 = .ok (.getfield 13, 3) := by decide +kernel
theorem dX7_load_89 : decode cX7_load 89 = .ok (.iconst 0, 1) := by decide +kernel
theorem dX7_load_90 : decode cX7_load 90 = .ok (.aload_n 0, 1) := by decide +kernel
theorem dX7_load_91 : decode cX7_load 91 = .ok (.getfield 9, 3) := by decide +kernel
theorem dX7_load_94 : decode cX7_load 94 = .ok (.iconst 0, 1) := by decide +kernel
theorem dX7_load_95 : decode cX7_load 95 = .ok (.invokestatic 198, 3) := by decide +kernel
theorem dX7_load_98 : decode cX7_load 98 = .ok (.aload_n 0, 1) := by decide +kernel
theorem dX7_load_99 : decode cX7_load 99 = .ok (.iconst 0, 1) := by decide +kernel
theorem dX7_load_100 : decode cX7_load 100 = .ok (.putfield 201, 3) := by decide +kernel
theorem dX7_load_103 : decode cX7_load 103 = .ok (.iconst 0, 1) := by decide +kernel
theorem dX7_load_104 : decode cX7_load 104 = .ok (.istore_n 1, 1) := by decide +kernel
theorem dX7_load_105 : decode cX7_load 105 = .ok (.iload_n 1, 1) := by decide +kernel
theorem dX7_load_106 : decode cX7_load 106 = .ok (.bipush 6, 2) := by decide +kernel
theorem dX7_load_108 : decode cX7_load 108 = .ok (.if_icmp .ge 14, 3) := by decide +kernel
theorem dX7_load_111 : decode cX7_load 111 = .ok (.aload_n 0, 1) := by decide +kernel
theorem dX7_load_112 : decode cX7_load 112 = .ok (.iload_n 1, 1) := by decide +kernel
theorem dX7_load_113 : decode cX7_load 113 = .ok (.invokevirtual 204, 3) := by decide +kernel
theorem dX7_load_116 : decode cX7_load 116 = .ok (.iinc 1 1, 3) := by decide +kernel
theorem dX7_load_119 : decode cX7_load 119 = .ok (.goto (-14), 3) := by decide +kernel
theorem dX7_load_122 : decode cX7_load 122 = .ok (.aload_n 0, 1) := by decide +kernel
theorem dX7_load_123 : decode cX7_load 123 = .ok (.invokevirtual 71, 3) := by decide +kernel
theorem dX7_load_126 : decode cX7_load 126 = .ok (.ireturn, 1) := by decide +kernel
theorem dX7_loadError_0 : decode cX7_loadError 0 = .ok (.aload_n 0, 1) := by decide +kernel
theorem dX7_loadError_1 : decode cX7_loadError 1 = .ok (.iconst 0, 1) := by decide +kernel
theorem dX7_loadError_2 : decode cX7_loadError 2 = .ok (.putfield 60, 3) := by decide +kernel
theorem dX7_loadError_5 : decode cX7_loadError 5 = .ok (.aload_n 0, 1) := by decide +kernel
theorem dX7_loadError_6 : decode cX7_loadError 6 = .ok (.getfield 195, 3) := by decide +kernel
theorem dX7_loadError_9 : decode cX7_loadError 9 = .ok (.ireturn, 1) := by decide +kernel
theorem dX7_loadStatement_0 : decode cX7_loadStatement 0 = .ok (.aload_n 0, 1) := by decide +kernel
theorem dX7_loadStatement_1 : decode cX7_loadStatement 1 = .ok (.iconst 0, 1) := by decide +kernel
theorem dX7_loadStatement_2 : decode cX7_loadStatement 2 = .ok (.putfield 60, 3) := by decide +kernel
theorem dX7_loadStatement_5 : decode cX7_loadStatement 5 = .ok (.aload_n 0, 1) := by decide +kernel
theorem dX7_loadStatement_6 : decode cX7_loadStatement 6 = .ok (.getfield 30, 3) := by decide +kernel
theorem dX7_loadStatement_9 : decode cX7_loadStatement 9 = .ok (.ireturn, 1) := by decide +kernel
theorem dX7_keptMany_0 : decode cX7_keptMany 0 = .ok (.iconst 0, 1) := by decide +kernel
theorem dX7_keptMany_1 : decode cX7_keptMany 1 = .ok (.istore_n 1, 1) := by decide +kernel
theorem dX7_keptMany_2 : decode cX7_keptMany 2 = .ok (.iconst 0, 1) := by decide +kernel
theorem dX7_keptMany_3 : decode cX7_keptMany 3 = .ok (.istore_n 2, 1) := by decide +kernel
theorem dX7_keptMany_4 : decode cX7_keptMany 4 = .ok (.iload_n 2, 1) := by decide +kernel
theorem dX7_keptMany_5 : decode cX7_keptMany 5 = .ok (.bipush 6, 2) := by decide +kernel
theorem dX7_keptMany_7 : decode cX7_keptMany 7 = .ok (.if_icmp .ge 21, 3) := by decide +kernel
theorem dX7_keptMany_10 : decode cX7_keptMany 10 = .ok (.iload_n 1, 1) := by decide +kernel
theorem dX7_keptMany_11 : decode cX7_keptMany 11 = .ok (.aload_n 0, 1) := by decide +kernel
theorem dX7_keptMany_12 : decode cX7_keptMany 12 = .ok (.getfield 9, 3) := by decide +kernel
theorem dX7_keptMany_15 : decode cX7_keptMany 15 = .ok (.iconst 4, 1) := by decide +kernel
theorem dX7_keptMany_16 : decode cX7_keptMany 16 = .ok (.iload_n 2, 1) := by decide +kernel
theorem dX7_keptMany_17 : decode cX7_keptMany 17 = .ok (.iadd, 1) := by decide +kernel
theorem dX7_keptMany_18 : decode cX7_keptMany 18 = .ok (.laload, 1) := by decide +kernel
theorem dX7_keptMany_19 : decode cX7_keptMany 19 = .ok (.l2i, 1) := by decide +kernel
theorem dX7_keptMany_20 : decode cX7_keptMany 20 = .ok (.iadd, 1) := by decide +kernel
theorem dX7_keptMany_21 : decode cX7_keptMany 21 = .ok (.istore_n 1, 1) := by decide +kernel
theorem dX7_keptMany_22 : decode cX7_keptMany 22 = .ok (.iinc 2 1, 3) := by decide +kernel
theorem dX7_keptMany_25 : decode cX7_keptMany 25 = .ok (.goto (-21), 3) := by decide +kernel
theorem dX7_keptMany_28 : decode cX7_keptMany 28 = .ok (.iload_n 1, 1) := by decide +kernel
theorem dX7_keptMany_29 : decode cX7_keptMany 29 = .ok (.ireturn, 1) := by decide +kernel
theorem dX7_count_0 : decode cX7_count 0 = .ok (.aload_n 0, 1) := by decide +kernel
theorem dX7_count_1 : decode cX7_count 1 = .ok (.iload_n 1, 1) := by decide +kernel
theorem dX7_count_2 : decode cX7_count 2 = .ok (.i2l, 1) := by decide +kernel
theorem dX7_count_3 : decode cX7_count 3 = .ok (.lconst 0, 1) := by decide +kernel
theorem dX7_count_4 : decode cX7_count 4 = .ok (.ldc2_w 207, 3) := by decide +kernel
theorem dX7_count_7 : decode cX7_count 7 = .ok (.invokestatic 67, 3) := by decide +kernel
theorem dX7_count_10 : decode cX7_count 10 = .ok (.iconst 1, 1) := by decide +kernel
theorem dX7_count_11 : decode cX7_count 11 = .ok (.invokevirtual 209, 3) := by decide +kernel
theorem dX7_count_14 : decode cX7_count 14 = .ok (.ifCond .eq 5, 3) := by decide +kernel
theorem dX7_count_17 : decode cX7_count 17 = .ok (.iconst 0, 1) := by decide +kernel
theorem dX7_count_18 : decode cX7_count 18 = .ok (.ireturn, 1) := by decide +kernel
theorem dX7_count_19 : decode cX7_count 19 = .ok (.iload_n 1, 1) := by decide +kernel
theorem dX7_count_20 : decode cX7_count 20 = .ok (.iconst 2, 1) := by decide +kernel
theorem dX7_count_21 : decode cX7_count 21 = .ok (.if_icmp .ge 13, 3) := by decide +kernel
theorem dX7_count_24 : decode cX7_count 24 = .ok (.aload_n 0, 1) := by decide +kernel
theorem dX7_count_25 : decode cX7_count 25 = .ok (.getfield 9, 3) := by decide +kernel
theorem dX7_count_28 : decode cX7_count 28 = .ok (.iload_n 1, 1) := by decide +kernel
theorem dX7_count_29 : decode cX7_count 29 = .ok (.laload, 1) := by decide +kernel
theorem dX7_count_30 : decode cX7_count 30 = .ok (.l2i, 1) := by decide +kernel
theorem dX7_count_31 : decode cX7_count 31 = .ok (.goto 19, 3) := by decide +kernel
theorem dX7_count_34 : decode cX7_count 34 = .ok (.iload_n 1, 1) := by decide +kernel
theorem dX7_count_35 : decode cX7_count 35 = .ok (.iconst 2, 1) := by decide +kernel
theorem dX7_count_36 : decode cX7_count 36 = .ok (.if_icmp .ne 10, 3) := by decide +kernel
theorem dX7_count_39 : decode cX7_count 39 = .ok (.aload_n 0, 1) := by decide +kernel
theorem dX7_count_40 : decode cX7_count 40 = .ok (.invokevirtual 213, 3) := by decide +kernel
theorem dX7_count_43 : decode cX7_count 43 = .ok (.goto 7, 3) := by decide +kernel
theorem dX7_count_46 : decode cX7_count 46 = .ok (.aload_n 0, 1) := by decide +kernel
theorem dX7_count_47 : decode cX7_count 47 = .ok (.getfield 201, 3) := by decide +kernel
theorem dX7_count_50 : decode cX7_count 50 = .ok (.ireturn, 1) := by decide +kernel
theorem dX7_areIn_0 : decode cX7_areIn 0 = .ok (.iload_n 1, 1) := by decide +kernel
theorem dX7_areIn_1 : decode cX7_areIn 1 = .ok (.invokestatic 216, 3) := by decide +kernel
theorem dX7_areIn_4 : decode cX7_areIn 4 = .ok (.ifCond .eq 15, 3) := by decide +kernel
theorem dX7_areIn_7 : decode cX7_areIn 7 = .ok (.aload_n 0, 1) := by decide +kernel
theorem dX7_areIn_8 : decode cX7_areIn 8 = .ok (.iload_n 2, 1) := by decide +kernel
theorem dX7_areIn_9 : decode cX7_areIn 9 = .ok (.invokevirtual 220, 3) := by decide +kernel
theorem dX7_areIn_12 : decode cX7_areIn 12 = .ok (.ifCond .eq 7, 3) := by decide +kernel
theorem dX7_areIn_15 : decode cX7_areIn 15 = .ok (.iconst 1, 1) := by decide +kernel
theorem dX7_areIn_16 : decode cX7_areIn 16 = .ok (.goto 4, 3) := by decide +kernel
theorem dX7_areIn_19 : decode cX7_areIn 19 = .ok (.iconst 0, 1) := by decide +kernel
theorem dX7_areIn_20 : decode cX7_areIn 20 = .ok (.ireturn, 1) := by decide +kernel
theorem dX7_bit_0 : decode cX7_bit 0 = .ok (.aload_n 0, 1) := by decide +kernel
theorem dX7_bit_1 : decode cX7_bit 1 = .ok (.aload_n 0, 1) := by decide +kernel
theorem dX7_bit_2 : decode cX7_bit 2 = .ok (.iload_n 1, 1) := by decide +kernel
theorem dX7_bit_3 : decode cX7_bit 3 = .ok (.iload_n 2, 1) := by decide +kernel
theorem dX7_bit_4 : decode cX7_bit 4 = .ok (.invokevirtual 223, 3) := by decide +kernel
theorem dX7_bit_7 : decode cX7_bit 7 = .ok (.ifCond .eq 15, 3) := by decide +kernel
theorem dX7_bit_10 : decode cX7_bit 10 = .ok (.aload_n 0, 1) := by decide +kernel
theorem dX7_bit_11 : decode cX7_bit 11 = .ok (.iload_n 3, 1) := by decide +kernel
theorem dX7_bit_12 : decode cX7_bit 12 = .ok (.invokevirtual 220, 3) := by decide +kernel
theorem dX7_bit_15 : decode cX7_bit 15 = .ok (.ifCond .eq 7, 3) := by decide +kernel
theorem dX7_bit_18 : decode cX7_bit 18 = .ok (.iconst 1, 1) := by decide +kernel
theorem dX7_bit_19 : decode cX7_bit 19 = .ok (.goto 4, 3) := by decide +kernel
theorem dX7_bit_22 : decode cX7_bit 22 = .ok (.iconst 0, 1) := by decide +kernel
theorem dX7_bit_23 : decode cX7_bit 23 = .ok (.iconst 1, 1) := by decide +kernel
theorem dX7_bit_24 : decode cX7_bit 24 = .ok (.invokevirtual 209, 3) := by decide +kernel
theorem dX7_bit_27 : decode cX7_bit 27 = .ok (.ifCond .eq 7, 3) := by decide +kernel
theorem dX7_bit_30 : decode cX7_bit 30 = .ok (.iconst 0, 1) := by decide +kernel
theorem dX7_bit_31 : decode cX7_bit 31 = .ok (.goto 13, 3) := by decide +kernel
theorem dX7_bit_34 : decode cX7_bit 34 = .ok (.aload_n 0, 1) := by decide +kernel
theorem dX7_bit_35 : decode cX7_bit 35 = .ok (.iload_n 1, 1) := by decide +kernel
theorem dX7_bit_36 : decode cX7_bit 36 = .ok (.iload_n 2, 1) := by decide +kernel
theorem dX7_bit_37 : decode cX7_bit 37 = .ok (.invokevirtual 227, 3) := by decide +kernel
theorem dX7_bit_40 : decode cX7_bit 40 = .ok (.iload_n 3, 1) := by decide +kernel
theorem dX7_bit_41 : decode cX7_bit 41 = .ok (.invokestatic 231, 3) := by decide +kernel
theorem dX7_bit_44 : decode cX7_bit 44 = .ok (.ireturn, 1) := by decide +kernel
theorem dX7_row_0 : decode cX7_row 0 = .ok (.aload_n 0, 1) := by decide +kernel
theorem dX7_row_1 : decode cX7_row 1 = .ok (.aload_n 0, 1) := by decide +kernel
theorem dX7_row_2 : decode cX7_row 2 = .ok (.iload_n 1, 1) := by decide +kernel
theorem dX7_row_3 : decode cX7_row 3 = .ok (.iload_n 2, 1) := by decide +kernel
theorem dX7_row_4 : decode cX7_row 4 = .ok (.invokevirtual 223, 3) := by decide +kernel
theorem dX7_row_7 : decode cX7_row 7 = .ok (.iconst 1, 1) := by decide +kernel
theorem dX7_row_8 : decode cX7_row 8 = .ok (.invokevirtual 209, 3) := by decide +kernel
theorem dX7_row_11 : decode cX7_row 11 = .ok (.ifCond .eq 7, 3) := by decide +kernel
theorem dX7_row_14 : decode cX7_row 14 = .ok (.lconst 0, 1) := by decide +kernel
theorem dX7_row_15 : decode cX7_row 15 = .ok (.goto 9, 3) := by decide +kernel
theorem dX7_row_18 : decode cX7_row 18 = .ok (.aload_n 0, 1) := by decide +kernel
theorem dX7_row_19 : decode cX7_row 19 = .ok (.iload_n 1, 1) := by decide +kernel
theorem dX7_row_20 : decode cX7_row 20 = .ok (.iload_n 2, 1) := by decide +kernel
theorem dX7_row_21 : decode cX7_row 21 = .ok (.invokevirtual 227, 3) := by decide +kernel
theorem dX7_row_24 : decode cX7_row 24 = .ok (.lreturn, 1) := by decide +kernel
theorem dX7_rank_0 : decode cX7_rank 0 = .ok (.aload_n 0, 1) := by decide +kernel
theorem dX7_rank_1 : decode cX7_rank 1 = .ok (.aload_n 0, 1) := by decide +kernel
theorem dX7_rank_2 : decode cX7_rank 2 = .ok (.iload_n 1, 1) := by decide +kernel
theorem dX7_rank_3 : decode cX7_rank 3 = .ok (.iload_n 2, 1) := by decide +kernel
theorem dX7_rank_4 : decode cX7_rank 4 = .ok (.invokevirtual 223, 3) := by decide +kernel
theorem dX7_rank_7 : decode cX7_rank 7 = .ok (.iconst 1, 1) := by decide +kernel
theorem dX7_rank_8 : decode cX7_rank 8 = .ok (.invokevirtual 209, 3) := by decide +kernel
theorem dX7_rank_11 : decode cX7_rank 11 = .ok (.ifCond .ne 22, 3) := by decide +kernel
theorem dX7_rank_14 : decode cX7_rank 14 = .ok (.aload_n 0, 1) := by decide +kernel
theorem dX7_rank_15 : decode cX7_rank 15 = .ok (.iload_n 3, 1) := by decide +kernel
theorem dX7_rank_16 : decode cX7_rank 16 = .ok (.i2l, 1) := by decide +kernel
theorem dX7_rank_17 : decode cX7_rank 17 = .ok (.lconst 0, 1) := by decide +kernel
theorem dX7_rank_18 : decode cX7_rank 18 = .ok (.aload_n 0, 1) := by decide +kernel
theorem dX7_rank_19 : decode cX7_rank 19 = .ok (.invokevirtual 71, 3) := by decide +kernel
theorem dX7_rank_22 : decode cX7_rank 22 = .ok (.i2l, 1) := by decide +kernel
theorem dX7_rank_23 : decode cX7_rank 23 = .ok (.invokestatic 67, 3) := by decide +kernel
theorem dX7_rank_26 : decode cX7_rank 26 = .ok (.iconst 2, 1) := by decide +kernel
theorem dX7_rank_27 : decode cX7_rank 27 = .ok (.invokevirtual 209, 3) := by decide +kernel
theorem dX7_rank_30 : decode cX7_rank 30 = .ok (.ifCond .eq 5, 3) := by decide +kernel
theorem dX7_rank_33 : decode cX7_rank 33 = .ok (.iconst 0, 1) := by decide +kernel
theorem dX7_rank_34 : decode cX7_rank 34 = .ok (.ireturn, 1) := by decide +kernel
theorem dX7_rank_35 : decode cX7_rank 35 = .ok (.aload_n 0, 1) := by decide +kernel
theorem dX7_rank_36 : decode cX7_rank 36 = .ok (.iload_n 1, 1) := by decide +kernel
theorem dX7_rank_37 : decode cX7_rank 37 = .ok (.iload_n 2, 1) := by decide +kernel
theorem dX7_rank_38 : decode cX7_rank 38 = .ok (.invokevirtual 227, 3) := by decide +kernel
theorem dX7_rank_41 : decode cX7_rank 41 = .ok (.lconst 1, 1) := by decide +kernel
theorem dX7_rank_42 : decode cX7_rank 42 = .ok (.iload_n 3, 1) := by decide +kernel
theorem dX7_rank_43 : decode cX7_rank 43 = .ok (.lshl, 1) := by decide +kernel
theorem dX7_rank_44 : decode cX7_rank 44 = .ok (.lconst 1, 1) := by decide +kernel
theorem dX7_rank_45 : decode cX7_rank 45 = .ok (.lsub, 1) := by decide +kernel
theorem dX7_rank_46 : decode cX7_rank 46 = .ok (.land, 1) := by decide +kernel
theorem dX7_rank_47 : decode cX7_rank 47 = .ok (.invokestatic 234, 3) := by decide +kernel
theorem dX7_rank_50 : decode cX7_rank 50 = .ok (.ireturn, 1) := by decide +kernel
theorem dX7_select_0 : decode cX7_select 0 = .ok (.aload_n 0, 1) := by decide +kernel
theorem dX7_select_1 : decode cX7_select 1 = .ok (.aload_n 0, 1) := by decide +kernel
theorem dX7_select_2 : decode cX7_select 2 = .ok (.iload_n 1, 1) := by decide +kernel
theorem dX7_select_3 : decode cX7_select 3 = .ok (.iload_n 2, 1) := by decide +kernel
theorem dX7_select_4 : decode cX7_select 4 = .ok (.invokevirtual 223, 3) := by decide +kernel
theorem dX7_select_7 : decode cX7_select 7 = .ok (.iconst 1, 1) := by decide +kernel
theorem dX7_select_8 : decode cX7_select 8 = .ok (.invokevirtual 209, 3) := by decide +kernel
theorem dX7_select_11 : decode cX7_select 11 = .ok (.ifCond .eq 5, 3) := by decide +kernel
theorem dX7_select_14 : decode cX7_select 14 = .ok (.iconst 0, 1) := by decide +kernel
theorem dX7_select_15 : decode cX7_select 15 = .ok (.ireturn, 1) := by decide +kernel
theorem dX7_select_16 : decode cX7_select 16 = .ok (.iload_n 3, 1) := by decide +kernel
theorem dX7_select_17 : decode cX7_select 17 = .ok (.istore 4, 2) := by decide +kernel
theorem dX7_select_19 : decode cX7_select 19 = .ok (.iconst 0, 1) := by decide +kernel
theorem dX7_select_20 : decode cX7_select 20 = .ok (.istore 5, 2) := by decide +kernel
theorem dX7_select_22 : decode cX7_select 22 = .ok (.iload 5, 2) := by decide +kernel
theorem dX7_select_24 : decode cX7_select 24 = .ok (.aload_n 0, 1) := by decide +kernel
theorem dX7_select_25 : decode cX7_select 25 = .ok (.invokevirtual 71, 3) := by decide +kernel
theorem dX7_select_28 : decode cX7_select 28 = .ok (.if_icmp .ge 40, 3) := by decide +kernel
theorem dX7_select_31 : decode cX7_select 31 = .ok (.iload 4, 2) := by decide +kernel
theorem dX7_select_33 : decode cX7_select 33 = .ok (.ifCond .lt 35, 3) := by decide +kernel
theorem dX7_select_36 : decode cX7_select 36 = .ok (.aload_n 0, 1) := by decide +kernel
theorem dX7_select_37 : decode cX7_select 37 = .ok (.iload_n 1, 1) := by decide +kernel
theorem dX7_select_38 : decode cX7_select 38 = .ok (.iload_n 2, 1) := by decide +kernel
theorem dX7_select_39 : decode cX7_select 39 = .ok (.invokevirtual 227, 3) := by decide +kernel
theorem dX7_select_42 : decode cX7_select 42 = .ok (.iload 5, 2) := by decide +kernel
theorem dX7_select_44 : decode cX7_select 44 = .ok (.invokestatic 231, 3) := by decide +kernel
theorem dX7_select_47 : decode cX7_select 47 = .ok (.iconst 1, 1) := by decide +kernel
theorem dX7_select_48 : decode cX7_select 48 = .ok (.if_icmp .ne 14, 3) := by decide +kernel
theorem dX7_select_51 : decode cX7_select 51 = .ok (.iload 4, 2) := by decide +kernel
theorem dX7_select_53 : decode cX7_select 53 = .ok (.ifCond .ne 6, 3) := by decide +kernel
theorem dX7_select_56 : decode cX7_select 56 = .ok (.iload 5, 2) := by decide +kernel
theorem dX7_select_58 : decode cX7_select 58 = .ok (.ireturn, 1) := by decide +kernel
theorem dX7_select_59 : decode cX7_select 59 = .ok (.iinc 4 (-1), 3) := by decide +kernel
theorem dX7_select_62 : decode cX7_select 62 = .ok (.iinc 5 1, 3) := by decide +kernel
theorem dX7_select_65 : decode cX7_select 65 = .ok (.goto (-43), 3) := by decide +kernel
theorem dX7_select_68 : decode cX7_select 68 = .ok (.iconst (-1), 1) := by decide +kernel
theorem dX7_select_69 : decode cX7_select 69 = .ok (.ireturn, 1) := by decide +kernel
theorem dX7_onesOf_0 : decode cX7_onesOf 0 = .ok (.iconst 0, 1) := by decide +kernel
theorem dX7_onesOf_1 : decode cX7_onesOf 1 = .ok (.istore_n 2, 1) := by decide +kernel
theorem dX7_onesOf_2 : decode cX7_onesOf 2 = .ok (.iconst 0, 1) := by decide +kernel
theorem dX7_onesOf_3 : decode cX7_onesOf 3 = .ok (.istore_n 3, 1) := by decide +kernel
theorem dX7_onesOf_4 : decode cX7_onesOf 4 = .ok (.iload_n 3, 1) := by decide +kernel
theorem dX7_onesOf_5 : decode cX7_onesOf 5 = .ok (.aload_n 0, 1) := by decide +kernel
theorem dX7_onesOf_6 : decode cX7_onesOf 6 = .ok (.invokevirtual 71, 3) := by decide +kernel
theorem dX7_onesOf_9 : decode cX7_onesOf 9 = .ok (.if_icmp .ge 21, 3) := by decide +kernel
theorem dX7_onesOf_12 : decode cX7_onesOf 12 = .ok (.iload_n 2, 1) := by decide +kernel
theorem dX7_onesOf_13 : decode cX7_onesOf 13 = .ok (.aload_n 0, 1) := by decide +kernel
theorem dX7_onesOf_14 : decode cX7_onesOf 14 = .ok (.iload_n 1, 1) := by decide +kernel
theorem dX7_onesOf_15 : decode cX7_onesOf 15 = .ok (.iload_n 3, 1) := by decide +kernel
theorem dX7_onesOf_16 : decode cX7_onesOf 16 = .ok (.invokevirtual 227, 3) := by decide +kernel
theorem dX7_onesOf_19 : decode cX7_onesOf 19 = .ok (.invokestatic 234, 3) := by decide +kernel
theorem dX7_onesOf_22 : decode cX7_onesOf 22 = .ok (.iadd, 1) := by decide +kernel
theorem dX7_onesOf_23 : decode cX7_onesOf 23 = .ok (.istore_n 2, 1) := by decide +kernel
theorem dX7_onesOf_24 : decode cX7_onesOf 24 = .ok (.iinc 3 1, 3) := by decide +kernel
theorem dX7_onesOf_27 : decode cX7_onesOf 27 = .ok (.goto (-23), 3) := by decide +kernel
theorem dX7_onesOf_30 : decode cX7_onesOf 30 = .ok (.iload_n 2, 1) := by decide +kernel
theorem dX7_onesOf_31 : decode cX7_onesOf 31 = .ok (.ireturn, 1) := by decide +kernel
theorem dX7_ones_0 : decode cX7_ones 0 = .ok (.aload_n 0, 1) := by decide +kernel
theorem dX7_ones_1 : decode cX7_ones 1 = .ok (.iload_n 1, 1) := by decide +kernel
theorem dX7_ones_2 : decode cX7_ones 2 = .ok (.invokestatic 216, 3) := by decide +kernel
theorem dX7_ones_5 : decode cX7_ones 5 = .ok (.iconst 1, 1) := by decide +kernel
theorem dX7_ones_6 : decode cX7_ones 6 = .ok (.invokevirtual 209, 3) := by decide +kernel
theorem dX7_ones_9 : decode cX7_ones 9 = .ok (.ifCond .eq 7, 3) := by decide +kernel
theorem dX7_ones_12 : decode cX7_ones 12 = .ok (.iconst 0, 1) := by decide +kernel
theorem dX7_ones_13 : decode cX7_ones 13 = .ok (.goto 8, 3) := by decide +kernel
theorem dX7_ones_16 : decode cX7_ones 16 = .ok (.aload_n 0, 1) := by decide +kernel
theorem dX7_ones_17 : decode cX7_ones 17 = .ok (.iload_n 1, 1) := by decide +kernel
theorem dX7_ones_18 : decode cX7_ones 18 = .ok (.invokevirtual 238, 3) := by decide +kernel
theorem dX7_ones_21 : decode cX7_ones 21 = .ok (.ireturn, 1) := by decide +kernel
theorem dX7_columnOnes_0 : decode cX7_columnOnes 0 = .ok (.aload_n 0, 1) := by decide +kernel
theorem dX7_columnOnes_1 : decode cX7_columnOnes 1 = .ok (.aload_n 0, 1) := by decide +kernel
theorem dX7_columnOnes_2 : decode cX7_columnOnes 2 = .ok (.iload_n 1, 1) := by decide +kernel
theorem dX7_columnOnes_3 : decode cX7_columnOnes 3 = .ok (.iload_n 2, 1) := by decide +kernel
theorem dX7_columnOnes_4 : decode cX7_columnOnes 4 = .ok (.invokevirtual 223, 3) := by decide +kernel
theorem dX7_columnOnes_7 : decode cX7_columnOnes 7 = .ok (.iconst 1, 1) := by decide +kernel
theorem dX7_columnOnes_8 : decode cX7_columnOnes 8 = .ok (.invokevirtual 209, 3) := by decide +kernel
theorem dX7_columnOnes_11 : decode cX7_columnOnes 11 = .ok (.ifCond .eq 5, 3) := by decide +kernel
theorem dX7_columnOnes_14 : decode cX7_columnOnes 14 = .ok (.iconst 0, 1) := by decide +kernel
theorem dX7_columnOnes_15 : decode cX7_columnOnes 15 = .ok (.ireturn, 1) := by decide +kernel
theorem dX7_columnOnes_16 : decode cX7_columnOnes 16 = .ok (.iconst 0, 1) := by decide +kernel
theorem dX7_columnOnes_17 : decode cX7_columnOnes 17 = .ok (.istore_n 3, 1) := by decide +kernel
theorem dX7_columnOnes_18 : decode cX7_columnOnes 18 = .ok (.iconst 0, 1) := by decide +kernel
theorem dX7_columnOnes_19 : decode cX7_columnOnes 19 = .ok (.istore 4, 2) := by decide +kernel
theorem dX7_columnOnes_21 : decode cX7_columnOnes 21 = .ok (.iload 4, 2) := by decide +kernel
theorem dX7_columnOnes_23 : decode cX7_columnOnes 23 = .ok (.aload_n 0, 1) := by decide +kernel
theorem dX7_columnOnes_24 : decode cX7_columnOnes 24 = .ok (.invokevirtual 71, 3) := by decide +kernel
theorem dX7_columnOnes_27 : decode cX7_columnOnes 27 = .ok (.if_icmp .ge 23, 3) := by decide +kernel
theorem dX7_columnOnes_30 : decode cX7_columnOnes 30 = .ok (.iload_n 3, 1) := by decide +kernel
theorem dX7_columnOnes_31 : decode cX7_columnOnes 31 = .ok (.aload_n 0, 1) := by decide +kernel
theorem dX7_columnOnes_32 : decode cX7_columnOnes 32 = .ok (.iload_n 1, 1) := by decide +kernel
theorem dX7_columnOnes_33 : decode cX7_columnOnes 33 = .ok (.iload 4, 2) := by decide +kernel
theorem dX7_columnOnes_35 : decode cX7_columnOnes 35 = .ok (.invokevirtual 227, 3) := by decide +kernel
theorem dX7_columnOnes_38 : decode cX7_columnOnes 38 = .ok (.iload_n 2, 1) := by decide +kernel
theorem dX7_columnOnes_39 : decode cX7_columnOnes 39 = .ok (.invokestatic 231, 3) := by decide +kernel
theorem dX7_columnOnes_42 : decode cX7_columnOnes 42 = .ok (.iadd, 1) := by decide +kernel
theorem dX7_columnOnes_43 : decode cX7_columnOnes 43 = .ok (.istore_n 3, 1) := by decide +kernel
theorem dX7_columnOnes_44 : decode cX7_columnOnes 44 = .ok (.iinc 4 1, 3) := by decide +kernel
theorem dX7_columnOnes_47 : decode cX7_columnOnes 47 = .ok (.goto (-26), 3) := by decide +kernel
theorem dX7_columnOnes_50 : decode cX7_columnOnes 50 = .ok (.iload_n 3, 1) := by decide +kernel
theorem dX7_columnOnes_51 : decode cX7_columnOnes 51 = .ok (.ireturn, 1) := by decide +kernel
theorem dX7_firstAs_0 : decode cX7_firstAs 0 = .ok (.iconst 0, 1) := by decide +kernel
theorem dX7_firstAs_1 : decode cX7_firstAs 1 = .ok (.istore_n 3, 1) := by decide +kernel
theorem dX7_firstAs_2 : decode cX7_firstAs 2 = .ok (.aload_n 0, 1) := by decide +kernel
theorem dX7_firstAs_3 : decode cX7_firstAs 3 = .ok (.iload_n 1, 1) := by decide +kernel
theorem dX7_firstAs_4 : decode cX7_firstAs 4 = .ok (.iload_n 3, 1) := by decide +kernel
theorem dX7_firstAs_5 : decode cX7_firstAs 5 = .ok (.invokevirtual 227, 3) := by decide +kernel
theorem dX7_firstAs_8 : decode cX7_firstAs 8 = .ok (.aload_n 0, 1) := by decide +kernel
theorem dX7_firstAs_9 : decode cX7_firstAs 9 = .ok (.iload_n 1, 1) := by decide +kernel
theorem dX7_firstAs_10 : decode cX7_firstAs 10 = .ok (.iload_n 2, 1) := by decide +kernel
theorem dX7_firstAs_11 : decode cX7_firstAs 11 = .ok (.invokevirtual 227, 3) := by decide +kernel
theorem dX7_firstAs_14 : decode cX7_firstAs 14 = .ok (.lcmp, 1) := by decide +kernel
theorem dX7_firstAs_15 : decode cX7_firstAs 15 = .ok (.ifCond .eq 9, 3) := by decide +kernel
theorem dX7_firstAs_18 : decode cX7_firstAs 18 = .ok (.iinc 3 1, 3) := by decide +kernel
theorem dX7_firstAs_21 : decode cX7_firstAs 21 = .ok (.goto (-19), 3) := by decide +kernel
theorem dX7_firstAs_24 : decode cX7_firstAs 24 = .ok (.iload_n 3, 1) := by decide +kernel
theorem dX7_firstAs_25 : decode cX7_firstAs 25 = .ok (.ireturn, 1) := by decide +kernel
theorem dX7_sameAs_0 : decode cX7_sameAs 0 = .ok (.aload_n 0, 1) := by decide +kernel
theorem dX7_sameAs_1 : decode cX7_sameAs 1 = .ok (.aload_n 0, 1) := by decide +kernel
theorem dX7_sameAs_2 : decode cX7_sameAs 2 = .ok (.iload_n 1, 1) := by decide +kernel
theorem dX7_sameAs_3 : decode cX7_sameAs 3 = .ok (.iload_n 2, 1) := by decide +kernel
theorem dX7_sameAs_4 : decode cX7_sameAs 4 = .ok (.invokevirtual 223, 3) := by decide +kernel
theorem dX7_sameAs_7 : decode cX7_sameAs 7 = .ok (.iconst 1, 1) := by decide +kernel
theorem dX7_sameAs_8 : decode cX7_sameAs 8 = .ok (.invokevirtual 209, 3) := by decide +kernel
theorem dX7_sameAs_11 : decode cX7_sameAs 11 = .ok (.ifCond .eq 7, 3) := by decide +kernel
theorem dX7_sameAs_14 : decode cX7_sameAs 14 = .ok (.iconst 0, 1) := by decide +kernel
theorem dX7_sameAs_15 : decode cX7_sameAs 15 = .ok (.goto 9, 3) := by decide +kernel
theorem dX7_sameAs_18 : decode cX7_sameAs 18 = .ok (.aload_n 0, 1) := by decide +kernel
theorem dX7_sameAs_19 : decode cX7_sameAs 19 = .ok (.iload_n 1, 1) := by decide +kernel
theorem dX7_sameAs_20 : decode cX7_sameAs 20 = .ok (.iload_n 2, 1) := by decide +kernel
theorem dX7_sameAs_21 : decode cX7_sameAs 21 = .ok (.invokevirtual 242, 3) := by decide +kernel
theorem dX7_sameAs_24 : decode cX7_sameAs 24 = .ok (.ireturn, 1) := by decide +kernel
theorem dX7_find_0 : decode cX7_find 0 = .ok (.aload_n 0, 1) := by decide +kernel
theorem dX7_find_1 : decode cX7_find 1 = .ok (.iload_n 1, 1) := by decide +kernel
theorem dX7_find_2 : decode cX7_find 2 = .ok (.invokestatic 216, 3) := by decide +kernel
theorem dX7_find_5 : decode cX7_find 5 = .ok (.iconst 1, 1) := by decide +kernel
theorem dX7_find_6 : decode cX7_find 6 = .ok (.invokevirtual 209, 3) := by decide +kernel
theorem dX7_find_9 : decode cX7_find 9 = .ok (.ifCond .eq 5, 3) := by decide +kernel
theorem dX7_find_12 : decode cX7_find 12 = .ok (.iconst 0, 1) := by decide +kernel
theorem dX7_find_13 : decode cX7_find 13 = .ok (.ireturn, 1) := by decide +kernel
theorem dX7_find_14 : decode cX7_find 14 = .ok (.iconst 0, 1) := by decide +kernel
theorem dX7_find_15 : decode cX7_find 15 = .ok (.istore 4, 2) := by decide +kernel
theorem dX7_find_17 : decode cX7_find 17 = .ok (.iload 4, 2) := by decide +kernel
theorem dX7_find_19 : decode cX7_find 19 = .ok (.aload_n 0, 1) := by decide +kernel
theorem dX7_find_20 : decode cX7_find 20 = .ok (.invokevirtual 71, 3) := by decide +kernel
theorem dX7_find_23 : decode cX7_find 23 = .ok (.if_icmp .ge 29, 3) := by decide +kernel
theorem dX7_find_26 : decode cX7_find 26 = .ok (.aload_n 0, 1) := by decide +kernel
theorem dX7_find_27 : decode cX7_find 27 = .ok (.iload_n 1, 1) := by decide +kernel
theorem dX7_find_28 : decode cX7_find 28 = .ok (.iload 4, 2) := by decide +kernel
theorem dX7_find_30 : decode cX7_find 30 = .ok (.invokevirtual 227, 3) := by decide +kernel
theorem dX7_find_33 : decode cX7_find 33 = .ok (.lload_n 2, 1) := by decide +kernel
theorem dX7_find_34 : decode cX7_find 34 = .ok (.aload_n 0, 1) := by decide +kernel
theorem dX7_find_35 : decode cX7_find 35 = .ok (.invokevirtual 245, 3) := by decide +kernel
theorem dX7_find_38 : decode cX7_find 38 = .ok (.land, 1) := by decide +kernel
theorem dX7_find_39 : decode cX7_find 39 = .ok (.lcmp, 1) := by decide +kernel
theorem dX7_find_40 : decode cX7_find 40 = .ok (.ifCond .ne 6, 3) := by decide +kernel
theorem dX7_find_43 : decode cX7_find 43 = .ok (.iload 4, 2) := by decide +kernel
theorem dX7_find_45 : decode cX7_find 45 = .ok (.ireturn, 1) := by decide +kernel
theorem dX7_find_46 : decode cX7_find 46 = .ok (.iinc 4 1, 3) := by decide +kernel
theorem dX7_find_49 : decode cX7_find 49 = .ok (.goto (-32), 3) := by decide +kernel
theorem dX7_find_52 : decode cX7_find 52 = .ok (.iconst (-1), 1) := by decide +kernel
theorem dX7_find_53 : decode cX7_find 53 = .ok (.ireturn, 1) := by decide +kernel
theorem dX7_classesAhead_0 : decode cX7_classesAhead 0 = .ok (.iconst 0, 1) := by decide +kernel
theorem dX7_classesAhead_1 : decode cX7_classesAhead 1 = .ok (.istore_n 3, 1) := by decide +kernel
theorem dX7_classesAhead_2 : decode cX7_classesAhead 2 = .ok (.iconst 0, 1) := by decide +kernel
theorem dX7_classesAhead_3 : decode cX7_classesAhead 3 = .ok (.istore 4, 2) := by decide +kernel
theorem dX7_classesAhead_5 : decode cX7_classesAhead 5 = .ok (.iload 4, 2) := by decide +kernel
theorem dX7_classesAhead_7 : decode cX7_classesAhead 7 = .ok (.iload_n 2, 1) := by decide +kernel
theorem dX7_classesAhead_8 : decode cX7_classesAhead 8 = .ok (.if_icmp .ge 29, 3) := by decide +kernel
theorem dX7_classesAhead_11 : decode cX7_classesAhead 11 = .ok (.iload_n 3, 1) := by decide +kernel
theorem dX7_classesAhead_12 : decode cX7_classesAhead 12 = .ok (.aload_n 0, 1) := by decide +kernel
theorem dX7_classesAhead_13 : decode cX7_classesAhead 13 = .ok (.iload_n 1, 1) := by decide +kernel
theorem dX7_classesAhead_14 : decode cX7_classesAhead 14 = .ok (.iload 4, 2) := by decide +kernel
theorem dX7_classesAhead_16 : decode cX7_classesAhead 16 = .ok (.invokevirtual 242, 3) := by decide +kernel
theorem dX7_classesAhead_19 : decode cX7_classesAhead 19 = .ok (.iload 4, 2) := by decide +kernel
theorem dX7_classesAhead_21 : decode cX7_classesAhead 21 = .ok (.if_icmp .ne 7, 3) := by decide +kernel
theorem dX7_classesAhead_24 : decode cX7_classesAhead 24 = .ok (.iconst 1, 1) := by decide +kernel
theorem dX7_classesAhead_25 : decode cX7_classesAhead 25 = .ok (.goto 4, 3) := by decide +kernel
theorem dX7_classesAhead_28 : decode cX7_classesAhead 28 = .ok (.iconst 0, 1) := by decide +kernel
theorem dX7_classesAhead_29 : decode cX7_classesAhead 29 = .ok (.iadd, 1) := by decide +kernel
theorem dX7_classesAhead_30 : decode cX7_classesAhead 30 = .ok (.istore_n 3, 1) := by decide +kernel
theorem dX7_classesAhead_31 : decode cX7_classesAhead 31 = .ok (.iinc 4 1, 3) := by decide +kernel
theorem dX7_classesAhead_34 : decode cX7_classesAhead 34 = .ok (.goto (-29), 3) := by decide +kernel
theorem dX7_classesAhead_37 : decode cX7_classesAhead 37 = .ok (.iload_n 3, 1) := by decide +kernel
theorem dX7_classesAhead_38 : decode cX7_classesAhead 38 = .ok (.ireturn, 1) := by decide +kernel
theorem dX7_classes_0 : decode cX7_classes 0 = .ok (.aload_n 0, 1) := by decide +kernel
theorem dX7_classes_1 : decode cX7_classes 1 = .ok (.iload_n 1, 1) := by decide +kernel
theorem dX7_classes_2 : decode cX7_classes 2 = .ok (.invokestatic 216, 3) := by decide +kernel
theorem dX7_classes_5 : decode cX7_classes 5 = .ok (.iconst 1, 1) := by decide +kernel
theorem dX7_classes_6 : decode cX7_classes 6 = .ok (.invokevirtual 209, 3) := by decide +kernel
theorem dX7_classes_9 : decode cX7_classes 9 = .ok (.ifCond .eq 7, 3) := by decide +kernel
theorem dX7_classes_12 : decode cX7_classes 12 = .ok (.iconst 0, 1) := by decide +kernel
theorem dX7_classes_13 : decode cX7_classes 13 = .ok (.goto 12, 3) := by decide +kernel
theorem dX7_classes_16 : decode cX7_classes 16 = .ok (.aload_n 0, 1) := by decide +kernel
theorem dX7_classes_17 : decode cX7_classes 17 = .ok (.iload_n 1, 1) := by decide +kernel
theorem dX7_classes_18 : decode cX7_classes 18 = .ok (.aload_n 0, 1) := by decide +kernel
theorem dX7_classes_19 : decode cX7_classes 19 = .ok (.invokevirtual 71, 3) := by decide +kernel
theorem dX7_classes_22 : decode cX7_classes 22 = .ok (.invokevirtual 249, 3) := by decide +kernel
theorem dX7_classes_25 : decode cX7_classes 25 = .ok (.ireturn, 1) := by decide +kernel
theorem dX7_classOf_0 : decode cX7_classOf 0 = .ok (.aload_n 0, 1) := by decide +kernel
theorem dX7_classOf_1 : decode cX7_classOf 1 = .ok (.aload_n 0, 1) := by decide +kernel
theorem dX7_classOf_2 : decode cX7_classOf 2 = .ok (.iload_n 1, 1) := by decide +kernel
theorem dX7_classOf_3 : decode cX7_classOf 3 = .ok (.iload_n 2, 1) := by decide +kernel
theorem dX7_classOf_4 : decode cX7_classOf 4 = .ok (.invokevirtual 223, 3) := by decide +kernel
theorem dX7_classOf_7 : decode cX7_classOf 7 = .ok (.iconst 1, 1) := by decide +kernel
theorem dX7_classOf_8 : decode cX7_classOf 8 = .ok (.invokevirtual 209, 3) := by decide +kernel
theorem dX7_classOf_11 : decode cX7_classOf 11 = .ok (.ifCond .eq 7, 3) := by decide +kernel
theorem dX7_classOf_14 : decode cX7_classOf 14 = .ok (.iconst 0, 1) := by decide +kernel
theorem dX7_classOf_15 : decode cX7_classOf 15 = .ok (.goto 14, 3) := by decide +kernel
theorem dX7_classOf_18 : decode cX7_classOf 18 = .ok (.aload_n 0, 1) := by decide +kernel
theorem dX7_classOf_19 : decode cX7_classOf 19 = .ok (.iload_n 1, 1) := by decide +kernel
theorem dX7_classOf_20 : decode cX7_classOf 20 = .ok (.aload_n 0, 1) := by decide +kernel
theorem dX7_classOf_21 : decode cX7_classOf 21 = .ok (.iload_n 1, 1) := by decide +kernel
theorem dX7_classOf_22 : decode cX7_classOf 22 = .ok (.iload_n 2, 1) := by decide +kernel
theorem dX7_classOf_23 : decode cX7_classOf 23 = .ok (.invokevirtual 242, 3) := by decide +kernel
theorem dX7_classOf_26 : decode cX7_classOf 26 = .ok (.invokevirtual 249, 3) := by decide +kernel
theorem dX7_classOf_29 : decode cX7_classOf 29 = .ok (.ireturn, 1) := by decide +kernel
theorem dX7_nearest_0 : decode cX7_nearest 0 = .ok (.aload_n 0, 1) := by decide +kernel
theorem dX7_nearest_1 : decode cX7_nearest 1 = .ok (.aload_n 0, 1) := by decide +kernel
theorem dX7_nearest_2 : decode cX7_nearest 2 = .ok (.iload_n 1, 1) := by decide +kernel
theorem dX7_nearest_3 : decode cX7_nearest 3 = .ok (.iload_n 2, 1) := by decide +kernel
theorem dX7_nearest_4 : decode cX7_nearest 4 = .ok (.invokevirtual 223, 3) := by decide +kernel
theorem dX7_nearest_7 : decode cX7_nearest 7 = .ok (.iconst 1, 1) := by decide +kernel
theorem dX7_nearest_8 : decode cX7_nearest 8 = .ok (.invokevirtual 209, 3) := by decide +kernel
theorem dX7_nearest_11 : decode cX7_nearest 11 = .ok (.ifCond .eq 5, 3) := by decide +kernel
theorem dX7_nearest_14 : decode cX7_nearest 14 = .ok (.iconst 0, 1) := by decide +kernel
theorem dX7_nearest_15 : decode cX7_nearest 15 = .ok (.ireturn, 1) := by decide +kernel
theorem dX7_nearest_16 : decode cX7_nearest 16 = .ok (.iconst (-1), 1) := by decide +kernel
theorem dX7_nearest_17 : decode cX7_nearest 17 = .ok (.istore_n 3, 1) := by decide +kernel
theorem dX7_nearest_18 : decode cX7_nearest 18 = .ok (.bipush 33, 2) := by decide +kernel
theorem dX7_nearest_20 : decode cX7_nearest 20 = .ok (.istore 4, 2) := by decide +kernel
theorem dX7_nearest_22 : decode cX7_nearest 22 = .ok (.iconst 0, 1) := by decide +kernel
theorem dX7_nearest_23 : decode cX7_nearest 23 = .ok (.istore 5, 2) := by decide +kernel
theorem dX7_nearest_25 : decode cX7_nearest 25 = .ok (.iload 5, 2) := by decide +kernel
theorem dX7_nearest_27 : decode cX7_nearest 27 = .ok (.aload_n 0, 1) := by decide +kernel
theorem dX7_nearest_28 : decode cX7_nearest 28 = .ok (.invokevirtual 71, 3) := by decide +kernel
theorem dX7_nearest_31 : decode cX7_nearest 31 = .ok (.if_icmp .ge 48, 3) := by decide +kernel
theorem dX7_nearest_34 : decode cX7_nearest 34 = .ok (.aload_n 0, 1) := by decide +kernel
theorem dX7_nearest_35 : decode cX7_nearest 35 = .ok (.iload_n 1, 1) := by decide +kernel
theorem dX7_nearest_36 : decode cX7_nearest 36 = .ok (.iload 5, 2) := by decide +kernel
theorem dX7_nearest_38 : decode cX7_nearest 38 = .ok (.invokevirtual 227, 3) := by decide +kernel
theorem dX7_nearest_41 : decode cX7_nearest 41 = .ok (.aload_n 0, 1) := by decide +kernel
theorem dX7_nearest_42 : decode cX7_nearest 42 = .ok (.iload_n 1, 1) := by decide +kernel
theorem dX7_nearest_43 : decode cX7_nearest 43 = .ok (.iload_n 2, 1) := by decide +kernel
theorem dX7_nearest_44 : decode cX7_nearest 44 = .ok (.invokevirtual 227, 3) := by decide +kernel
theorem dX7_nearest_47 : decode cX7_nearest 47 = .ok (.lxor, 1) := by decide +kernel
theorem dX7_nearest_48 : decode cX7_nearest 48 = .ok (.invokestatic 234, 3) := by decide +kernel
theorem dX7_nearest_51 : decode cX7_nearest 51 = .ok (.istore 6, 2) := by decide +kernel
theorem dX7_nearest_53 : decode cX7_nearest 53 = .ok (.iload 5, 2) := by decide +kernel
theorem dX7_nearest_55 : decode cX7_nearest 55 = .ok (.iload_n 2, 1) := by decide +kernel
theorem dX7_nearest_56 : decode cX7_nearest 56 = .ok (.if_icmp .eq 17, 3) := by decide +kernel
theorem dX7_nearest_59 : decode cX7_nearest 59 = .ok (.iload 6, 2) := by decide +kernel
theorem dX7_nearest_61 : decode cX7_nearest 61 = .ok (.iload 4, 2) := by decide +kernel
theorem dX7_nearest_63 : decode cX7_nearest 63 = .ok (.if_icmp .ge 10, 3) := by decide +kernel
theorem dX7_nearest_66 : decode cX7_nearest 66 = .ok (.iload 5, 2) := by decide +kernel
theorem dX7_nearest_68 : decode cX7_nearest 68 = .ok (.istore_n 3, 1) := by decide +kernel
theorem dX7_nearest_69 : decode cX7_nearest 69 = .ok (.iload 6, 2) := by decide +kernel
theorem dX7_nearest_71 : decode cX7_nearest 71 = .ok (.istore 4, 2) := by decide +kernel
theorem dX7_nearest_73 : decode cX7_nearest 73 = .ok (.iinc 5 1, 3) := by decide +kernel
theorem dX7_nearest_76 : decode cX7_nearest 76 = .ok (.goto (-51), 3) := by decide +kernel
theorem dX7_nearest_79 : decode cX7_nearest 79 = .ok (.iload_n 3, 1) := by decide +kernel
theorem dX7_nearest_80 : decode cX7_nearest 80 = .ok (.ireturn, 1) := by decide +kernel
theorem dX7_density_0 : decode cX7_density 0 = .ok (.aload_n 0, 1) := by decide +kernel
theorem dX7_density_1 : decode cX7_density 1 = .ok (.iload_n 1, 1) := by decide +kernel
theorem dX7_density_2 : decode cX7_density 2 = .ok (.invokestatic 216, 3) := by decide +kernel
theorem dX7_density_5 : decode cX7_density 5 = .ok (.iconst 1, 1) := by decide +kernel
theorem dX7_density_6 : decode cX7_density 6 = .ok (.invokevirtual 209, 3) := by decide +kernel
theorem dX7_density_9 : decode cX7_density 9 = .ok (.ifCond .eq 7, 3) := by decide +kernel
theorem dX7_density_12 : decode cX7_density 12 = .ok (.dconst 0, 1) := by decide +kernel
theorem dX7_density_13 : decode cX7_density 13 = .ok (.goto 20, 3) := by decide +kernel
theorem dX7_density_16 : decode cX7_density 16 = .ok (.aload_n 0, 1) := by decide +kernel
theorem dX7_density_17 : decode cX7_density 17 = .ok (.iload_n 1, 1) := by decide +kernel
theorem dX7_density_18 : decode cX7_density 18 = .ok (.invokevirtual 238, 3) := by decide +kernel
theorem dX7_density_21 : decode cX7_density 21 = .ok (.i2d, 1) := by decide +kernel
theorem dX7_density_22 : decode cX7_density 22 = .ok (.aload_n 0, 1) := by decide +kernel
theorem dX7_density_23 : decode cX7_density 23 = .ok (.invokevirtual 71, 3) := by decide +kernel
theorem dX7_density_26 : decode cX7_density 26 = .ok (.aload_n 0, 1) := by decide +kernel
theorem dX7_density_27 : decode cX7_density 27 = .ok (.invokevirtual 71, 3) := by decide +kernel
theorem dX7_density_30 : decode cX7_density 30 = .ok (.imul, 1) := by decide +kernel
theorem dX7_density_31 : decode cX7_density 31 = .ok (.i2d, 1) := by decide +kernel
theorem dX7_density_32 : decode cX7_density 32 = .ok (.ddiv, 1) := by decide +kernel
theorem dX7_density_33 : decode cX7_density 33 = .ok (.dreturn, 1) := by decide +kernel
theorem dX7_isSymmetric_0 : decode cX7_isSymmetric 0 = .ok (.aload_n 0, 1) := by decide +kernel
theorem dX7_isSymmetric_1 : decode cX7_isSymmetric 1 = .ok (.iload_n 1, 1) := by decide +kernel
theorem dX7_isSymmetric_2 : decode cX7_isSymmetric 2 = .ok (.invokestatic 216, 3) := by decide +kernel
theorem dX7_isSymmetric_5 : decode cX7_isSymmetric 5 = .ok (.iconst 1, 1) := by decide +kernel
theorem dX7_isSymmetric_6 : decode cX7_isSymmetric 6 = .ok (.invokevirtual 209, 3) := by decide +kernel
theorem dX7_isSymmetric_9 : decode cX7_isSymmetric 9 = .ok (.ifCond .eq 5, 3) := by decide +kernel
theorem dX7_isSymmetric_12 : decode cX7_isSymmetric 12 = .ok (.iconst 0, 1) := by decide +kernel
theorem dX7_isSymmetric_13 : decode cX7_isSymmetric 13 = .ok (.ireturn, 1) := by decide +kernel
theorem dX7_isSymmetric_14 : decode cX7_isSymmetric 14 = .ok (.iconst 0, 1) := by decide +kernel
theorem dX7_isSymmetric_15 : decode cX7_isSymmetric 15 = .ok (.istore_n 2, 1) := by decide +kernel
theorem dX7_isSymmetric_16 : decode cX7_isSymmetric 16 = .ok (.iload_n 2, 1) := by decide +kernel
theorem dX7_isSymmetric_17 : decode cX7_isSymmetric 17 = .ok (.aload_n 0, 1) := by decide +kernel
theorem dX7_isSymmetric_18 : decode cX7_isSymmetric 18 = .ok (.invokevirtual 71, 3) := by decide +kernel
theorem dX7_isSymmetric_21 : decode cX7_isSymmetric 21 = .ok (.if_icmp .ge 47, 3) := by decide +kernel
theorem dX7_isSymmetric_24 : decode cX7_isSymmetric 24 = .ok (.iconst 0, 1) := by decide +kernel
theorem dX7_isSymmetric_25 : decode cX7_isSymmetric 25 = .ok (.istore_n 3, 1) := by decide +kernel
theorem dX7_isSymmetric_26 : decode cX7_isSymmetric 26 = .ok (.iload_n 3, 1) := by decide +kernel
theorem dX7_isSymmetric_27 : decode cX7_isSymmetric 27 = .ok (.iload_n 2, 1) := by decide +kernel
theorem dX7_isSymmetric_28 : decode cX7_isSymmetric 28 = .ok (.if_icmp .ge 34, 3) := by decide +kernel
theorem dX7_isSymmetric_31 : decode cX7_isSymmetric 31 = .ok (.aload_n 0, 1) := by decide +kernel
theorem dX7_isSymmetric_32 : decode cX7_isSymmetric 32 = .ok (.iload_n 1, 1) := by decide +kernel
theorem dX7_isSymmetric_33 : decode cX7_isSymmetric 33 = .ok (.iload_n 2, 1) := by decide +kernel
theorem dX7_isSymmetric_34 : decode cX7_isSymmetric 34 = .ok (.invokevirtual 227, 3) := by decide +kernel
theorem dX7_isSymmetric_37 : decode cX7_isSymmetric 37 = .ok (.iload_n 3, 1) := by decide +kernel
theorem dX7_isSymmetric_38 : decode cX7_isSymmetric 38 = .ok (.invokestatic 231, 3) := by decide +kernel
theorem dX7_isSymmetric_41 : decode cX7_isSymmetric 41 = .ok (.aload_n 0, 1) := by decide +kernel
theorem dX7_isSymmetric_42 : decode cX7_isSymmetric 42 = .ok (.iload_n 1, 1) := by decide +kernel
theorem dX7_isSymmetric_43 : decode cX7_isSymmetric 43 = .ok (.iload_n 3, 1) := by decide +kernel
theorem dX7_isSymmetric_44 : decode cX7_isSymmetric 44 = .ok (.invokevirtual 227, 3) := by decide +kernel
theorem dX7_isSymmetric_47 : decode cX7_isSymmetric 47 = .ok (.iload_n 2, 1) := by decide +kernel
theorem dX7_isSymmetric_48 : decode cX7_isSymmetric 48 = .ok (.invokestatic 231, 3) := by decide +kernel
theorem dX7_isSymmetric_51 : decode cX7_isSymmetric 51 = .ok (.if_icmp .eq 5, 3) := by decide +kernel
theorem dX7_isSymmetric_54 : decode cX7_isSymmetric 54 = .ok (.iconst 0, 1) := by decide +kernel
theorem dX7_isSymmetric_55 : decode cX7_isSymmetric 55 = .ok (.ireturn, 1) := by decide +kernel
theorem dX7_isSymmetric_56 : decode cX7_isSymmetric 56 = .ok (.iinc 3 1, 3) := by decide +kernel
theorem dX7_isSymmetric_59 : decode cX7_isSymmetric 59 = .ok (.goto (-33), 3) := by decide +kernel
theorem dX7_isSymmetric_62 : decode cX7_isSymmetric 62 = .ok (.iinc 2 1, 3) := by decide +kernel
theorem dX7_isSymmetric_65 : decode cX7_isSymmetric 65 = .ok (.goto (-49), 3) := by decide +kernel
theorem dX7_isSymmetric_68 : decode cX7_isSymmetric 68 = .ok (.iconst 1, 1) := by decide +kernel
theorem dX7_isSymmetric_69 : decode cX7_isSymmetric 69 = .ok (.ireturn, 1) := by decide +kernel
theorem dX7_takes_0 : decode cX7_takes 0 = .ok (.iconst 0, 1) := by decide +kernel
theorem dX7_takes_1 : decode cX7_takes 1 = .ok (.istore_n 3, 1) := by decide +kernel
theorem dX7_takes_2 : decode cX7_takes 2 = .ok (.iload_n 3, 1) := by decide +kernel
theorem dX7_takes_3 : decode cX7_takes 3 = .ok (.aload_n 0, 1) := by decide +kernel
theorem dX7_takes_4 : decode cX7_takes 4 = .ok (.invokevirtual 71, 3) := by decide +kernel
theorem dX7_takes_7 : decode cX7_takes 7 = .ok (.if_icmp .ge 18, 3) := by decide +kernel
theorem dX7_takes_10 : decode cX7_takes 10 = .ok (.aload_n 2, 1) := by decide +kernel
theorem dX7_takes_11 : decode cX7_takes 11 = .ok (.iload_n 3, 1) := by decide +kernel
theorem dX7_takes_12 : decode cX7_takes 12 = .ok (.aload_n 0, 1) := by decide +kernel
theorem dX7_takes_13 : decode cX7_takes 13 = .ok (.iload_n 1, 1) := by decide +kernel
theorem dX7_takes_14 : decode cX7_takes 14 = .ok (.iload_n 3, 1) := by decide +kernel
theorem dX7_takes_15 : decode cX7_takes 15 = .ok (.invokevirtual 227, 3) := by decide +kernel
theorem dX7_takes_18 : decode cX7_takes 18 = .ok (.lastore, 1) := by decide +kernel
theorem dX7_takes_19 : decode cX7_takes 19 = .ok (.iinc 3 1, 3) := by decide +kernel
theorem dX7_takes_22 : decode cX7_takes 22 = .ok (.goto (-20), 3) := by decide +kernel
theorem dX7_takes_25 : decode cX7_takes 25 = .ok (.return_, 1) := by decide +kernel
theorem dX7_closes_0 : decode cX7_closes 0 = .ok (.iconst 0, 1) := by decide +kernel
theorem dX7_closes_1 : decode cX7_closes 1 = .ok (.istore_n 2, 1) := by decide +kernel
theorem dX7_closes_2 : decode cX7_closes 2 = .ok (.iload_n 2, 1) := by decide +kernel
theorem dX7_closes_3 : decode cX7_closes 3 = .ok (.aload_n 0, 1) := by decide +kernel
theorem dX7_closes_4 : decode cX7_closes 4 = .ok (.invokevirtual 71, 3) := by decide +kernel
theorem dX7_closes_7 : decode cX7_closes 7 = .ok (.if_icmp .ge 49, 3) := by decide +kernel
theorem dX7_closes_10 : decode cX7_closes 10 = .ok (.iconst 0, 1) := by decide +kernel
theorem dX7_closes_11 : decode cX7_closes 11 = .ok (.istore_n 3, 1) := by decide +kernel
theorem dX7_closes_12 : decode cX7_closes 12 = .ok (.iload_n 3, 1) := by decide +kernel
theorem dX7_closes_13 : decode cX7_closes 13 = .ok (.aload_n 0, 1) := by decide +kernel
theorem dX7_closes_14 : decode cX7_closes 14 = .ok (.invokevirtual 71, 3) := by decide +kernel
theorem dX7_closes_17 : decode cX7_closes 17 = .ok (.if_icmp .ge 33, 3) := by decide +kernel
theorem dX7_closes_20 : decode cX7_closes 20 = .ok (.aload_n 1, 1) := by decide +kernel
theorem dX7_closes_21 : decode cX7_closes 21 = .ok (.iload_n 3, 1) := by decide +kernel
theorem dX7_closes_22 : decode cX7_closes 22 = .ok (.dup2, 1) := by decide +kernel
theorem dX7_closes_23 : decode cX7_closes 23 = .ok (.laload, 1) := by decide +kernel
theorem dX7_closes_24 : decode cX7_closes 24 = .ok (.aload_n 1, 1) := by decide +kernel
theorem dX7_closes_25 : decode cX7_closes 25 = .ok (.iload_n 3, 1) := by decide +kernel
theorem dX7_closes_26 : decode cX7_closes 26 = .ok (.laload, 1) := by decide +kernel
theorem dX7_closes_27 : decode cX7_closes 27 = .ok (.iload_n 2, 1) := by decide +kernel
theorem dX7_closes_28 : decode cX7_closes 28 = .ok (.invokestatic 231, 3) := by decide +kernel
theorem dX7_closes_31 : decode cX7_closes 31 = .ok (.iconst 1, 1) := by decide +kernel
theorem dX7_closes_32 : decode cX7_closes 32 = .ok (.if_icmp .ne 9, 3) := by decide +kernel
theorem dX7_closes_35 : decode cX7_closes 35 = .ok (.aload_n 1, 1) := by decide +kernel
theorem dX7_closes_36 : decode cX7_closes 36 = .ok (.iload_n 2, 1) := by decide +kernel
theorem dX7_closes_37 : decode cX7_closes 37 = .ok (.laload, 1) := by decide +kernel
theorem dX7_closes_38 : decode cX7_closes 38 = .ok (.goto 4, 3) := by decide +kernel
theorem dX7_closes_41 : decode cX7_closes 41 = .ok (.lconst 0, 1) := by decide +kernel
theorem dX7_closes_42 : decode cX7_closes 42 = .ok (.lor, 1) := by decide +kernel
theorem dX7_closes_43 : decode cX7_closes 43 = .ok (.lastore, 1) := by decide +kernel
theorem dX7_closes_44 : decode cX7_closes 44 = .ok (.iinc 3 1, 3) := by decide +kernel
theorem dX7_closes_47 : decode cX7_closes 47 = .ok (.goto (-35), 3) := by decide +kernel
theorem dX7_closes_50 : decode cX7_closes 50 = .ok (.iinc 2 1, 3) := by decide +kernel
theorem dX7_closes_53 : decode cX7_closes 53 = .ok (.goto (-51), 3) := by decide +kernel
theorem dX7_closes_56 : decode cX7_closes 56 = .ok (.return_, 1) := by decide +kernel
theorem dX7_closure_0 : decode cX7_closure 0 = .ok (.aload_n 0, 1) := by decide +kernel
theorem dX7_closure_1 : decode cX7_closure 1 = .ok (.iload_n 1, 1) := by decide +kernel
theorem dX7_closure_2 : decode cX7_closure 2 = .ok (.aload_n 0, 1) := by decide +kernel
theorem dX7_closure_3 : decode cX7_closure 3 = .ok (.getfield 34, 3) := by decide +kernel
theorem dX7_closure_6 : decode cX7_closure 6 = .ok (.invokevirtual 252, 3) := by decide +kernel
theorem dX7_closure_9 : decode cX7_closure 9 = .ok (.aload_n 0, 1) := by decide +kernel
theorem dX7_closure_10 : decode cX7_closure 10 = .ok (.aload_n 0, 1) := by decide +kernel
theorem dX7_closure_11 : decode cX7_closure 11 = .ok (.getfield 34, 3) := by decide +kernel
theorem dX7_closure_14 : decode cX7_closure 14 = .ok (.invokevirtual 256, 3) := by decide +kernel
theorem dX7_closure_17 : decode cX7_closure 17 = .ok (.return_, 1) := by decide +kernel
theorem dX7_sumOf_0 : decode cX7_sumOf 0 = .ok (.iconst 0, 1) := by decide +kernel
theorem dX7_sumOf_1 : decode cX7_sumOf 1 = .ok (.istore_n 2, 1) := by decide +kernel
theorem dX7_sumOf_2 : decode cX7_sumOf 2 = .ok (.iconst 0, 1) := by decide +kernel
theorem dX7_sumOf_3 : decode cX7_sumOf 3 = .ok (.istore_n 3, 1) := by decide +kernel
theorem dX7_sumOf_4 : decode cX7_sumOf 4 = .ok (.iload_n 3, 1) := by decide +kernel
theorem dX7_sumOf_5 : decode cX7_sumOf 5 = .ok (.aload_n 0, 1) := by decide +kernel
theorem dX7_sumOf_6 : decode cX7_sumOf 6 = .ok (.invokevirtual 71, 3) := by decide +kernel
theorem dX7_sumOf_9 : decode cX7_sumOf 9 = .ok (.if_icmp .ge 18, 3) := by decide +kernel
theorem dX7_sumOf_12 : decode cX7_sumOf 12 = .ok (.iload_n 2, 1) := by decide +kernel
theorem dX7_sumOf_13 : decode cX7_sumOf 13 = .ok (.aload_n 1, 1) := by decide +kernel
theorem dX7_sumOf_14 : decode cX7_sumOf 14 = .ok (.iload_n 3, 1) := by decide +kernel
theorem dX7_sumOf_15 : decode cX7_sumOf 15 = .ok (.laload, 1) := by decide +kernel
theorem dX7_sumOf_16 : decode cX7_sumOf 16 = .ok (.invokestatic 234, 3) := by decide +kernel
theorem dX7_sumOf_19 : decode cX7_sumOf 19 = .ok (.iadd, 1) := by decide +kernel
theorem dX7_sumOf_20 : decode cX7_sumOf 20 = .ok (.istore_n 2, 1) := by decide +kernel
theorem dX7_sumOf_21 : decode cX7_sumOf 21 = .ok (.iinc 3 1, 3) := by decide +kernel
theorem dX7_sumOf_24 : decode cX7_sumOf 24 = .ok (.goto (-20), 3) := by decide +kernel
theorem dX7_sumOf_27 : decode cX7_sumOf 27 = .ok (.iload_n 2, 1) := by decide +kernel
theorem dX7_sumOf_28 : decode cX7_sumOf 28 = .ok (.ireturn, 1) := by decide +kernel
theorem dX7_reaches_0 : decode cX7_reaches 0 = .ok (.aload_n 0, 1) := by decide +kernel
theorem dX7_reaches_1 : decode cX7_reaches 1 = .ok (.aload_n 0, 1) := by decide +kernel
theorem dX7_reaches_2 : decode cX7_reaches 2 = .ok (.iload_n 1, 1) := by decide +kernel
theorem dX7_reaches_3 : decode cX7_reaches 3 = .ok (.iload_n 2, 1) := by decide +kernel
theorem dX7_reaches_4 : decode cX7_reaches 4 = .ok (.invokevirtual 223, 3) := by decide +kernel
theorem dX7_reaches_7 : decode cX7_reaches 7 = .ok (.ifCond .eq 15, 3) := by decide +kernel
theorem dX7_reaches_10 : decode cX7_reaches 10 = .ok (.aload_n 0, 1) := by decide +kernel
theorem dX7_reaches_11 : decode cX7_reaches 11 = .ok (.iload_n 3, 1) := by decide +kernel
theorem dX7_reaches_12 : decode cX7_reaches 12 = .ok (.invokevirtual 220, 3) := by decide +kernel
theorem dX7_reaches_15 : decode cX7_reaches 15 = .ok (.ifCond .eq 7, 3) := by decide +kernel
theorem dX7_reaches_18 : decode cX7_reaches 18 = .ok (.iconst 1, 1) := by decide +kernel
theorem dX7_reaches_19 : decode cX7_reaches 19 = .ok (.goto 4, 3) := by decide +kernel
theorem dX7_reaches_22 : decode cX7_reaches 22 = .ok (.iconst 0, 1) := by decide +kernel
theorem dX7_reaches_23 : decode cX7_reaches 23 = .ok (.iconst 1, 1) := by decide +kernel
theorem dX7_reaches_24 : decode cX7_reaches 24 = .ok (.invokevirtual 209, 3) := by decide +kernel
theorem dX7_reaches_27 : decode cX7_reaches 27 = .ok (.ifCond .eq 5, 3) := by decide +kernel
theorem dX7_reaches_30 : decode cX7_reaches 30 = .ok (.iconst 0, 1) := by decide +kernel
theorem dX7_reaches_31 : decode cX7_reaches 31 = .ok (.ireturn, 1) := by decide +kernel
theorem dX7_reaches_32 : decode cX7_reaches 32 = .ok (.aload_n 0, 1) := by decide +kernel
theorem dX7_reaches_33 : decode cX7_reaches 33 = .ok (.iload_n 1, 1) := by decide +kernel
theorem dX7_reaches_34 : decode cX7_reaches 34 = .ok (.invokevirtual 260, 3) := by decide +kernel
theorem dX7_reaches_37 : decode cX7_reaches 37 = .ok (.aload_n 0, 1) := by decide +kernel
theorem dX7_reaches_38 : decode cX7_reaches 38 = .ok (.getfield 34, 3) := by decide +kernel
theorem dX7_reaches_41 : decode cX7_reaches 41 = .ok (.iload_n 2, 1) := by decide +kernel
theorem dX7_reaches_42 : decode cX7_reaches 42 = .ok (.laload, 1) := by decide +kernel
theorem dX7_reaches_43 : decode cX7_reaches 43 = .ok (.iload_n 3, 1) := by decide +kernel
theorem dX7_reaches_44 : decode cX7_reaches 44 = .ok (.invokestatic 231, 3) := by decide +kernel
theorem dX7_reaches_47 : decode cX7_reaches 47 = .ok (.ireturn, 1) := by decide +kernel
theorem dX7_reached_0 : decode cX7_reached 0 = .ok (.aload_n 0, 1) := by decide +kernel
theorem dX7_reached_1 : decode cX7_reached 1 = .ok (.aload_n 0, 1) := by decide +kernel
theorem dX7_reached_2 : decode cX7_reached 2 = .ok (.iload_n 1, 1) := by decide +kernel
theorem dX7_reached_3 : decode cX7_reached 3 = .ok (.iload_n 2, 1) := by decide +kernel
theorem dX7_reached_4 : decode cX7_reached 4 = .ok (.invokevirtual 223, 3) := by decide +kernel
theorem dX7_reached_7 : decode cX7_reached 7 = .ok (.iconst 1, 1) := by decide +kernel
theorem dX7_reached_8 : decode cX7_reached 8 = .ok (.invokevirtual 209, 3) := by decide +kernel
theorem dX7_reached_11 : decode cX7_reached 11 = .ok (.ifCond .eq 5, 3) := by decide +kernel
theorem dX7_reached_14 : decode cX7_reached 14 = .ok (.iconst 0, 1) := by decide +kernel
theorem dX7_reached_15 : decode cX7_reached 15 = .ok (.ireturn, 1) := by decide +kernel
theorem dX7_reached_16 : decode cX7_reached 16 = .ok (.aload_n 0, 1) := by decide +kernel
theorem dX7_reached_17 : decode cX7_reached 17 = .ok (.iload_n 1, 1) := by decide +kernel
theorem dX7_reached_18 : decode cX7_reached 18 = .ok (.invokevirtual 260, 3) := by decide +kernel
theorem dX7_reached_21 : decode cX7_reached 21 = .ok (.aload_n 0, 1) := by decide +kernel
theorem dX7_reached_22 : decode cX7_reached 22 = .ok (.getfield 34, 3) := by decide +kernel
theorem dX7_reached_25 : decode cX7_reached 25 = .ok (.iload_n 2, 1) := by decide +kernel
theorem dX7_reached_26 : decode cX7_reached 26 = .ok (.laload, 1) := by decide +kernel
theorem dX7_reached_27 : decode cX7_reached 27 = .ok (.invokestatic 234, 3) := by decide +kernel
theorem dX7_reached_30 : decode cX7_reached 30 = .ok (.ireturn, 1) := by decide +kernel
theorem dX7_pairsOf_0 : decode cX7_pairsOf 0 = .ok (.aload_n 0, 1) := by decide +kernel
theorem dX7_pairsOf_1 : decode cX7_pairsOf 1 = .ok (.iload_n 1, 1) := by decide +kernel
theorem dX7_pairsOf_2 : decode cX7_pairsOf 2 = .ok (.invokevirtual 260, 3) := by decide +kernel
theorem dX7_pairsOf_5 : decode cX7_pairsOf 5 = .ok (.aload_n 0, 1) := by decide +kernel
theorem dX7_pairsOf_6 : decode cX7_pairsOf 6 = .ok (.aload_n 0, 1) := by decide +kernel
theorem dX7_pairsOf_7 : decode cX7_pairsOf 7 = .ok (.getfield 34, 3) := by decide +kernel
theorem dX7_pairsOf_10 : decode cX7_pairsOf 10 = .ok (.invokevirtual 263, 3) := by decide +kernel
theorem dX7_pairsOf_13 : decode cX7_pairsOf 13 = .ok (.ireturn, 1) := by decide +kernel
theorem dX7_pairs_0 : decode cX7_pairs 0 = .ok (.aload_n 0, 1) := by decide +kernel
theorem dX7_pairs_1 : decode cX7_pairs 1 = .ok (.iload_n 1, 1) := by decide +kernel
theorem dX7_pairs_2 : decode cX7_pairs 2 = .ok (.invokestatic 216, 3) := by decide +kernel
theorem dX7_pairs_5 : decode cX7_pairs 5 = .ok (.iconst 1, 1) := by decide +kernel
theorem dX7_pairs_6 : decode cX7_pairs 6 = .ok (.invokevirtual 209, 3) := by decide +kernel
theorem dX7_pairs_9 : decode cX7_pairs 9 = .ok (.ifCond .eq 7, 3) := by decide +kernel
theorem dX7_pairs_12 : decode cX7_pairs 12 = .ok (.iconst 0, 1) := by decide +kernel
theorem dX7_pairs_13 : decode cX7_pairs 13 = .ok (.goto 8, 3) := by decide +kernel
theorem dX7_pairs_16 : decode cX7_pairs 16 = .ok (.aload_n 0, 1) := by decide +kernel
theorem dX7_pairs_17 : decode cX7_pairs 17 = .ok (.iload_n 1, 1) := by decide +kernel
theorem dX7_pairs_18 : decode cX7_pairs 18 = .ok (.invokevirtual 267, 3) := by decide +kernel
theorem dX7_pairs_21 : decode cX7_pairs 21 = .ok (.ireturn, 1) := by decide +kernel
theorem dX7_meanReach_0 : decode cX7_meanReach 0 = .ok (.aload_n 0, 1) := by decide +kernel
theorem dX7_meanReach_1 : decode cX7_meanReach 1 = .ok (.iload_n 1, 1) := by decide +kernel
theorem dX7_meanReach_2 : decode cX7_meanReach 2 = .ok (.invokestatic 216, 3) := by decide +kernel
theorem dX7_meanReach_5 : decode cX7_meanReach 5 = .ok (.iconst 1, 1) := by decide +kernel
theorem dX7_meanReach_6 : decode cX7_meanReach 6 = .ok (.invokevirtual 209, 3) := by decide +kernel
theorem dX7_meanReach_9 : decode cX7_meanReach 9 = .ok (.ifCond .eq 7, 3) := by decide +kernel
theorem dX7_meanReach_12 : decode cX7_meanReach 12 = .ok (.fconst 0, 1) := by decide +kernel
theorem dX7_meanReach_13 : decode cX7_meanReach 13 = .ok (.goto 15, 3) := by decide +kernel
theorem dX7_meanReach_16 : decode cX7_meanReach 16 = .ok (.aload_n 0, 1) := by decide +kernel
theorem dX7_meanReach_17 : decode cX7_meanReach 17 = .ok (.iload_n 1, 1) := by decide +kernel
theorem dX7_meanReach_18 : decode cX7_meanReach 18 = .ok (.invokevirtual 267, 3) := by decide +kernel
theorem dX7_meanReach_21 : decode cX7_meanReach 21 = .ok (.i2f, 1) := by decide +kernel
theorem dX7_meanReach_22 : decode cX7_meanReach 22 = .ok (.aload_n 0, 1) := by decide +kernel
theorem dX7_meanReach_23 : decode cX7_meanReach 23 = .ok (.invokevirtual 71, 3) := by decide +kernel
theorem dX7_meanReach_26 : decode cX7_meanReach 26 = .ok (.i2f, 1) := by decide +kernel
theorem dX7_meanReach_27 : decode cX7_meanReach 27 = .ok (.fdiv, 1) := by decide +kernel
theorem dX7_meanReach_28 : decode cX7_meanReach 28 = .ok (.freturn, 1) := by decide +kernel
theorem dX7_componentOf_0 : decode cX7_componentOf 0 = .ok (.iconst 0, 1) := by decide +kernel
theorem dX7_componentOf_1 : decode cX7_componentOf 1 = .ok (.istore_n 2, 1) := by decide +kernel
theorem dX7_componentOf_2 : decode cX7_componentOf 2 = .ok (.iload_n 2, 1) := by decide +kernel
theorem dX7_componentOf_3 : decode cX7_componentOf 3 = .ok (.iload_n 1, 1) := by decide +kernel
theorem dX7_componentOf_4 : decode cX7_componentOf 4 = .ok (.if_icmp .ge 39, 3) := by decide +kernel
theorem dX7_componentOf_7 : decode cX7_componentOf 7 = .ok (.aload_n 0, 1) := by decide +kernel
theorem dX7_componentOf_8 : decode cX7_componentOf 8 = .ok (.getfield 34, 3) := by decide +kernel
theorem dX7_componentOf_11 : decode cX7_componentOf 11 = .ok (.iload_n 1, 1) := by decide +kernel
theorem dX7_componentOf_12 : decode cX7_componentOf 12 = .ok (.laload, 1) := by decide +kernel
theorem dX7_componentOf_13 : decode cX7_componentOf 13 = .ok (.iload_n 2, 1) := by decide +kernel
theorem dX7_componentOf_14 : decode cX7_componentOf 14 = .ok (.invokestatic 231, 3) := by decide +kernel
theorem dX7_componentOf_17 : decode cX7_componentOf 17 = .ok (.iconst 1, 1) := by decide +kernel
theorem dX7_componentOf_18 : decode cX7_componentOf 18 = .ok (.if_icmp .ne 19, 3) := by decide +kernel
theorem dX7_componentOf_21 : decode cX7_componentOf 21 = .ok (.aload_n 0, 1) := by decide +kernel
theorem dX7_componentOf_22 : decode cX7_componentOf 22 = .ok (.getfield 34, 3) := by decide +kernel
theorem dX7_componentOf_25 : decode cX7_componentOf 25 = .ok (.iload_n 2, 1) := by decide +kernel
theorem dX7_componentOf_26 : decode cX7_componentOf 26 = .ok (.laload, 1) := by decide +kernel
theorem dX7_componentOf_27 : decode cX7_componentOf 27 = .ok (.iload_n 1, 1) := by decide +kernel
theorem dX7_componentOf_28 : decode cX7_componentOf 28 = .ok (.invokestatic 231, 3) := by decide +kernel
theorem dX7_componentOf_31 : decode cX7_componentOf 31 = .ok (.iconst 1, 1) := by decide +kernel
theorem dX7_componentOf_32 : decode cX7_componentOf 32 = .ok (.if_icmp .ne 5, 3) := by decide +kernel
theorem dX7_componentOf_35 : decode cX7_componentOf 35 = .ok (.iload_n 2, 1) := by decide +kernel
theorem dX7_componentOf_36 : decode cX7_componentOf 36 = .ok (.ireturn, 1) := by decide +kernel
theorem dX7_componentOf_37 : decode cX7_componentOf 37 = .ok (.iinc 2 1, 3) := by decide +kernel
theorem dX7_componentOf_40 : decode cX7_componentOf 40 = .ok (.goto (-38), 3) := by decide +kernel
theorem dX7_componentOf_43 : decode cX7_componentOf 43 = .ok (.iload_n 1, 1) := by decide +kernel
theorem dX7_componentOf_44 : decode cX7_componentOf 44 = .ok (.ireturn, 1) := by decide +kernel
theorem dX7_component_0 : decode cX7_component 0 = .ok (.aload_n 0, 1) := by decide +kernel
theorem dX7_component_1 : decode cX7_component 1 = .ok (.aload_n 0, 1) := by decide +kernel
theorem dX7_component_2 : decode cX7_component 2 = .ok (.iload_n 1, 1) := by decide +kernel
theorem dX7_component_3 : decode cX7_component 3 = .ok (.iload_n 2, 1) := by decide +kernel
theorem dX7_component_4 : decode cX7_component 4 = .ok (.invokevirtual 223, 3) := by decide +kernel
theorem dX7_component_7 : decode cX7_component 7 = .ok (.iconst 1, 1) := by decide +kernel
theorem dX7_component_8 : decode cX7_component 8 = .ok (.invokevirtual 209, 3) := by decide +kernel
theorem dX7_component_11 : decode cX7_component 11 = .ok (.ifCond .eq 5, 3) := by decide +kernel
theorem dX7_component_14 : decode cX7_component 14 = .ok (.iconst 0, 1) := by decide +kernel
theorem dX7_component_15 : decode cX7_component 15 = .ok (.ireturn, 1) := by decide +kernel
theorem dX7_component_16 : decode cX7_component 16 = .ok (.aload_n 0, 1) := by decide +kernel
theorem dX7_component_17 : decode cX7_component 17 = .ok (.iload_n 1, 1) := by decide +kernel
theorem dX7_component_18 : decode cX7_component 18 = .ok (.invokevirtual 260, 3) := by decide +kernel
theorem dX7_component_21 : decode cX7_component 21 = .ok (.aload_n 0, 1) := by decide +kernel
theorem dX7_component_22 : decode cX7_component 22 = .ok (.iload_n 2, 1) := by decide +kernel
theorem dX7_component_23 : decode cX7_component 23 = .ok (.invokevirtual 270, 3) := by decide +kernel
theorem dX7_component_26 : decode cX7_component 26 = .ok (.ireturn, 1) := by decide +kernel
theorem dX7_components_0 : decode cX7_components 0 = .ok (.aload_n 0, 1) := by decide +kernel
theorem dX7_components_1 : decode cX7_components 1 = .ok (.iload_n 1, 1) := by decide +kernel
theorem dX7_components_2 : decode cX7_components 2 = .ok (.invokestatic 216, 3) := by decide +kernel
theorem dX7_components_5 : decode cX7_components 5 = .ok (.iconst 1, 1) := by decide +kernel
theorem dX7_components_6 : decode cX7_components 6 = .ok (.invokevirtual 209, 3) := by decide +kernel
theorem dX7_components_9 : decode cX7_components 9 = .ok (.ifCond .eq 5, 3) := by decide +kernel
theorem dX7_components_12 : decode cX7_components 12 = .ok (.iconst 0, 1) := by decide +kernel
theorem dX7_components_13 : decode cX7_components 13 = .ok (.ireturn, 1) := by decide +kernel
theorem dX7_components_14 : decode cX7_components 14 = .ok (.aload_n 0, 1) := by decide +kernel
theorem dX7_components_15 : decode cX7_components 15 = .ok (.iload_n 1, 1) := by decide +kernel
theorem dX7_components_16 : decode cX7_components 16 = .ok (.invokevirtual 260, 3) := by decide +kernel
theorem dX7_components_19 : decode cX7_components 19 = .ok (.iconst 0, 1) := by decide +kernel
theorem dX7_components_20 : decode cX7_components 20 = .ok (.istore_n 2, 1) := by decide +kernel
theorem dX7_components_21 : decode cX7_components 21 = .ok (.iconst 0, 1) := by decide +kernel
theorem dX7_components_22 : decode cX7_components 22 = .ok (.istore_n 3, 1) := by decide +kernel
theorem dX7_components_23 : decode cX7_components 23 = .ok (.iload_n 3, 1) := by decide +kernel
theorem dX7_components_24 : decode cX7_components 24 = .ok (.aload_n 0, 1) := by decide +kernel
theorem dX7_components_25 : decode cX7_components 25 = .ok (.invokevirtual 71, 3) := by decide +kernel
theorem dX7_components_28 : decode cX7_components 28 = .ok (.if_icmp .ge 26, 3) := by decide +kernel
theorem dX7_components_31 : decode cX7_components 31 = .ok (.iload_n 2, 1) := by decide +kernel
theorem dX7_components_32 : decode cX7_components 32 = .ok (.aload_n 0, 1) := by decide +kernel
theorem dX7_components_33 : decode cX7_components 33 = .ok (.iload_n 3, 1) := by decide +kernel
theorem dX7_components_34 : decode cX7_components 34 = .ok (.invokevirtual 270, 3) := by decide +kernel
theorem dX7_components_37 : decode cX7_components 37 = .ok (.iload_n 3, 1) := by decide +kernel
theorem dX7_components_38 : decode cX7_components 38 = .ok (.if_icmp .ne 7, 3) := by decide +kernel
theorem dX7_components_41 : decode cX7_components 41 = .ok (.iconst 1, 1) := by decide +kernel
theorem dX7_components_42 : decode cX7_components 42 = .ok (.goto 4, 3) := by decide +kernel
theorem dX7_components_45 : decode cX7_components 45 = .ok (.iconst 0, 1) := by decide +kernel
theorem dX7_components_46 : decode cX7_components 46 = .ok (.iadd, 1) := by decide +kernel
theorem dX7_components_47 : decode cX7_components 47 = .ok (.istore_n 2, 1) := by decide +kernel
theorem dX7_components_48 : decode cX7_components 48 = .ok (.iinc 3 1, 3) := by decide +kernel
theorem dX7_components_51 : decode cX7_components 51 = .ok (.goto (-28), 3) := by decide +kernel
theorem dX7_components_54 : decode cX7_components 54 = .ok (.iload_n 2, 1) := by decide +kernel
theorem dX7_components_55 : decode cX7_components 55 = .ok (.ireturn, 1) := by decide +kernel
theorem dX7_measures_0 : decode cX7_measures 0 = .ok (.iconst 0, 1) := by decide +kernel
theorem dX7_measures_1 : decode cX7_measures 1 = .ok (.istore_n 3, 1) := by decide +kernel
theorem dX7_measures_2 : decode cX7_measures 2 = .ok (.iload_n 3, 1) := by decide +kernel
theorem dX7_measures_3 : decode cX7_measures 3 = .ok (.aload_n 0, 1) := by decide +kernel
theorem dX7_measures_4 : decode cX7_measures 4 = .ok (.invokevirtual 71, 3) := by decide +kernel
theorem dX7_measures_7 : decode cX7_measures 7 = .ok (.if_icmp .ge 25, 3) := by decide +kernel
theorem dX7_measures_10 : decode cX7_measures 10 = .ok (.aload_n 0, 1) := by decide +kernel
theorem dX7_measures_11 : decode cX7_measures 11 = .ok (.getfield 43, 3) := by decide +kernel
theorem dX7_measures_14 : decode cX7_measures 14 = .ok (.iload_n 3, 1) := by decide +kernel
theorem dX7_measures_15 : decode cX7_measures 15 = .ok (.iload_n 3, 1) := by decide +kernel
theorem dX7_measures_16 : decode cX7_measures 16 = .ok (.iload_n 2, 1) := by decide +kernel
theorem dX7_measures_17 : decode cX7_measures 17 = .ok (.if_icmp .ne 7, 3) := by decide +kernel
theorem dX7_measures_20 : decode cX7_measures 20 = .ok (.iconst 0, 1) := by decide +kernel
theorem dX7_measures_21 : decode cX7_measures 21 = .ok (.goto 4, 3) := by decide +kernel
theorem dX7_measures_24 : decode cX7_measures 24 = .ok (.iconst (-1), 1) := by decide +kernel
theorem dX7_measures_25 : decode cX7_measures 25 = .ok (.iastore, 1) := by decide +kernel
theorem dX7_measures_26 : decode cX7_measures 26 = .ok (.iinc 3 1, 3) := by decide +kernel
theorem dX7_measures_29 : decode cX7_measures 29 = .ok (.goto (-27), 3) := by decide +kernel
theorem dX7_measures_32 : decode cX7_measures 32 = .ok (.iconst 1, 1) := by decide +kernel
theorem dX7_measures_33 : decode cX7_measures 33 = .ok (.istore_n 3, 1) := by decide +kernel
theorem dX7_measures_34 : decode cX7_measures 34 = .ok (.iload_n 3, 1) := by decide +kernel
theorem dX7_measures_35 : decode cX7_measures 35 = .ok (.aload_n 0, 1) := by decide +kernel
theorem dX7_measures_36 : decode cX7_measures 36 = .ok (.invokevirtual 71, 3) := by decide +kernel
theorem dX7_measures_39 : decode cX7_measures 39 = .ok (.if_icmp .ge 97, 3) := by decide +kernel
theorem dX7_measures_42 : decode cX7_measures 42 = .ok (.iconst 0, 1) := by decide +kernel
theorem dX7_measures_43 : decode cX7_measures 43 = .ok (.istore 4, 2) := by decide +kernel
theorem dX7_measures_45 : decode cX7_measures 45 = .ok (.iload 4, 2) := by decide +kernel
theorem dX7_measures_47 : decode cX7_measures 47 = .ok (.aload_n 0, 1) := by decide +kernel
theorem dX7_measures_48 : decode cX7_measures 48 = .ok (.invokevirtual 71, 3) := by decide +kernel
theorem dX7_measures_51 : decode cX7_measures 51 = .ok (.if_icmp .ge 79, 3) := by decide +kernel
theorem dX7_measures_54 : decode cX7_measures 54 = .ok (.iconst 0, 1) := by decide +kernel
theorem dX7_measures_55 : decode cX7_measures 55 = .ok (.istore 5, 2) := by decide +kernel
theorem dX7_measures_57 : decode cX7_measures 57 = .ok (.iload 5, 2) := by decide +kernel
theorem dX7_measures_59 : decode cX7_measures 59 = .ok (.aload_n 0, 1) := by decide +kernel
theorem dX7_measures_60 : decode cX7_measures 60 = .ok (.invokevirtual 71, 3) := by decide +kernel
theorem dX7_measures_63 : decode cX7_measures 63 = .ok (.if_icmp .ge 61, 3) := by decide +kernel
theorem dX7_measures_66 : decode cX7_measures 66 = .ok (.aload_n 0, 1) := by decide +kernel
theorem dX7_measures_67 : decode cX7_measures 67 = .ok (.getfield 43, 3) := by decide +kernel
theorem dX7_measures_70 : decode cX7_measures 70 = .ok (.iload 4, 2) := by decide +kernel
theorem dX7_measures_72 : decode cX7_measures 72 = .ok (.iaload, 1) := by decide +kernel
theorem dX7_measures_73 : decode cX7_measures 73 = .ok (.iconst (-1), 1) := by decide +kernel
theorem dX7_measures_74 : decode cX7_measures 74 = .ok (.if_icmp .ne 50, 3) := by decide +kernel
theorem dX7_measures_77 : decode cX7_measures 77 = .ok (.aload_n 0, 1) := by decide +kernel
theorem dX7_measures_78 : decode cX7_measures 78 = .ok (.getfield 43, 3) := by decide +kernel
theorem dX7_measures_81 : decode cX7_measures 81 = .ok (.iload 4, 2) := by decide +kernel
theorem dX7_measures_83 : decode cX7_measures 83 = .ok (.aload_n 0, 1) := by decide +kernel
theorem dX7_measures_84 : decode cX7_measures 84 = .ok (.iload_n 1, 1) := by decide +kernel
theorem dX7_measures_85 : decode cX7_measures 85 = .ok (.iload 4, 2) := by decide +kernel
theorem dX7_measures_87 : decode cX7_measures 87 = .ok (.invokevirtual 227, 3) := by decide +kernel
theorem dX7_measures_90 : decode cX7_measures 90 = .ok (.iload 5, 2) := by decide +kernel
theorem dX7_measures_92 : decode cX7_measures 92 = .ok (.invokestatic 231, 3) := by decide +kernel
theorem dX7_measures_95 : decode cX7_measures 95 = .ok (.iconst 1, 1) := by decide +kernel
theorem dX7_measures_96 : decode cX7_measures 96 = .ok (.if_icmp .ne 20, 3) := by decide +kernel
theorem dX7_measures_99 : decode cX7_measures 99 = .ok (.aload_n 0, 1) := by decide +kernel
theorem dX7_measures_100 : decode cX7_measures 100 = .ok (.getfield 43, 3) := by decide +kernel
theorem dX7_measures_103 : decode cX7_measures 103 = .ok (.iload 5, 2) := by decide +kernel
theorem dX7_measures_105 : decode cX7_measures 105 = .ok (.iaload, 1) := by decide +kernel
theorem dX7_measures_106 : decode cX7_measures 106 = .ok (.iload_n 3, 1) := by decide +kernel
theorem dX7_measures_107 : decode cX7_measures 107 = .ok (.iconst 1, 1) := by decide +kernel
theorem dX7_measures_108 : decode cX7_measures 108 = .ok (.isub, 1) := by decide +kernel
theorem dX7_measures_109 : decode cX7_measures 109 = .ok (.if_icmp .ne 7, 3) := by decide +kernel
theorem dX7_measures_112 : decode cX7_measures 112 = .ok (.iload_n 3, 1) := by decide +kernel
theorem dX7_measures_113 : decode cX7_measures 113 = .ok (.goto 4, 3) := by decide +kernel
theorem dX7_measures_116 : decode cX7_measures 116 = .ok (.iconst (-1), 1) := by decide +kernel
theorem dX7_measures_117 : decode cX7_measures 117 = .ok (.iastore, 1) := by decide +kernel
theorem dX7_measures_118 : decode cX7_measures 118 = .ok (.iinc 5 1, 3) := by decide +kernel
theorem dX7_measures_121 : decode cX7_measures 121 = .ok (.goto (-64), 3) := by decide +kernel
theorem dX7_measures_124 : decode cX7_measures 124 = .ok (.iinc 4 1, 3) := by decide +kernel
theorem dX7_measures_127 : decode cX7_measures 127 = .ok (.goto (-82), 3) := by decide +kernel
theorem dX7_measures_130 : decode cX7_measures 130 = .ok (.iinc 3 1, 3) := by decide +kernel
theorem dX7_measures_133 : decode cX7_measures 133 = .ok (.goto (-99), 3) := by decide +kernel
theorem dX7_measures_136 : decode cX7_measures 136 = .ok (.return_, 1) := by decide +kernel
theorem dX7_distance_0 : decode cX7_distance 0 = .ok (.aload_n 0, 1) := by decide +kernel
theorem dX7_distance_1 : decode cX7_distance 1 = .ok (.aload_n 0, 1) := by decide +kernel
theorem dX7_distance_2 : decode cX7_distance 2 = .ok (.iload_n 1, 1) := by decide +kernel
theorem dX7_distance_3 : decode cX7_distance 3 = .ok (.iload_n 2, 1) := by decide +kernel
theorem dX7_distance_4 : decode cX7_distance 4 = .ok (.invokevirtual 223, 3) := by decide +kernel
theorem dX7_distance_7 : decode cX7_distance 7 = .ok (.ifCond .eq 15, 3) := by decide +kernel
theorem dX7_distance_10 : decode cX7_distance 10 = .ok (.aload_n 0, 1) := by decide +kernel
theorem dX7_distance_11 : decode cX7_distance 11 = .ok (.iload_n 3, 1) := by decide +kernel
theorem dX7_distance_12 : decode cX7_distance 12 = .ok (.invokevirtual 220, 3) := by decide +kernel
theorem dX7_distance_15 : decode cX7_distance 15 = .ok (.ifCond .eq 7, 3) := by decide +kernel
theorem dX7_distance_18 : decode cX7_distance 18 = .ok (.iconst 1, 1) := by decide +kernel
theorem dX7_distance_19 : decode cX7_distance 19 = .ok (.goto 4, 3) := by decide +kernel
theorem dX7_distance_22 : decode cX7_distance 22 = .ok (.iconst 0, 1) := by decide +kernel
theorem dX7_distance_23 : decode cX7_distance 23 = .ok (.iconst 1, 1) := by decide +kernel
theorem dX7_distance_24 : decode cX7_distance 24 = .ok (.invokevirtual 209, 3) := by decide +kernel
theorem dX7_distance_27 : decode cX7_distance 27 = .ok (.ifCond .eq 5, 3) := by decide +kernel
theorem dX7_distance_30 : decode cX7_distance 30 = .ok (.iconst 0, 1) := by decide +kernel
theorem dX7_distance_31 : decode cX7_distance 31 = .ok (.ireturn, 1) := by decide +kernel
theorem dX7_distance_32 : decode cX7_distance 32 = .ok (.aload_n 0, 1) := by decide +kernel
theorem dX7_distance_33 : decode cX7_distance 33 = .ok (.iload_n 1, 1) := by decide +kernel
theorem dX7_distance_34 : decode cX7_distance 34 = .ok (.iload_n 3, 1) := by decide +kernel
theorem dX7_distance_35 : decode cX7_distance 35 = .ok (.invokevirtual 273, 3) := by decide +kernel
theorem dX7_distance_38 : decode cX7_distance 38 = .ok (.aload_n 0, 1) := by decide +kernel
theorem dX7_distance_39 : decode cX7_distance 39 = .ok (.getfield 43, 3) := by decide +kernel
theorem dX7_distance_42 : decode cX7_distance 42 = .ok (.iload_n 2, 1) := by decide +kernel
theorem dX7_distance_43 : decode cX7_distance 43 = .ok (.iaload, 1) := by decide +kernel
theorem dX7_distance_44 : decode cX7_distance 44 = .ok (.ireturn, 1) := by decide +kernel
theorem dX7_stepAt_0 : decode cX7_stepAt 0 = .ok (.aload_n 0, 1) := by decide +kernel
theorem dX7_stepAt_1 : decode cX7_stepAt 1 = .ok (.aload_n 0, 1) := by decide +kernel
theorem dX7_stepAt_2 : decode cX7_stepAt 2 = .ok (.iload_n 1, 1) := by decide +kernel
theorem dX7_stepAt_3 : decode cX7_stepAt 3 = .ok (.iload_n 2, 1) := by decide +kernel
theorem dX7_stepAt_4 : decode cX7_stepAt 4 = .ok (.invokevirtual 223, 3) := by decide +kernel
theorem dX7_stepAt_7 : decode cX7_stepAt 7 = .ok (.ifCond .eq 15, 3) := by decide +kernel
theorem dX7_stepAt_10 : decode cX7_stepAt 10 = .ok (.aload_n 0, 1) := by decide +kernel
theorem dX7_stepAt_11 : decode cX7_stepAt 11 = .ok (.iload_n 3, 1) := by decide +kernel
theorem dX7_stepAt_12 : decode cX7_stepAt 12 = .ok (.invokevirtual 220, 3) := by decide +kernel
theorem dX7_stepAt_15 : decode cX7_stepAt 15 = .ok (.ifCond .eq 7, 3) := by decide +kernel
theorem dX7_stepAt_18 : decode cX7_stepAt 18 = .ok (.iconst 1, 1) := by decide +kernel
theorem dX7_stepAt_19 : decode cX7_stepAt 19 = .ok (.goto 4, 3) := by decide +kernel
theorem dX7_stepAt_22 : decode cX7_stepAt 22 = .ok (.iconst 0, 1) := by decide +kernel
theorem dX7_stepAt_23 : decode cX7_stepAt 23 = .ok (.iconst 1, 1) := by decide +kernel
theorem dX7_stepAt_24 : decode cX7_stepAt 24 = .ok (.invokevirtual 209, 3) := by decide +kernel
theorem dX7_stepAt_27 : decode cX7_stepAt 27 = .ok (.ifCond .eq 5, 3) := by decide +kernel
theorem dX7_stepAt_30 : decode cX7_stepAt 30 = .ok (.iconst 0, 1) := by decide +kernel
theorem dX7_stepAt_31 : decode cX7_stepAt 31 = .ok (.ireturn, 1) := by decide +kernel
theorem dX7_stepAt_32 : decode cX7_stepAt 32 = .ok (.aload_n 0, 1) := by decide +kernel
theorem dX7_stepAt_33 : decode cX7_stepAt 33 = .ok (.iload_n 1, 1) := by decide +kernel
theorem dX7_stepAt_34 : decode cX7_stepAt 34 = .ok (.iload_n 3, 1) := by decide +kernel
theorem dX7_stepAt_35 : decode cX7_stepAt 35 = .ok (.invokevirtual 273, 3) := by decide +kernel
theorem dX7_stepAt_38 : decode cX7_stepAt 38 = .ok (.iload 4, 2) := by decide +kernel
theorem dX7_stepAt_40 : decode cX7_stepAt 40 = .ok (.i2l, 1) := by decide +kernel
theorem dX7_stepAt_41 : decode cX7_stepAt 41 = .ok (.lconst 0, 1) := by decide +kernel
theorem dX7_stepAt_42 : decode cX7_stepAt 42 = .ok (.aload_n 0, 1) := by decide +kernel
theorem dX7_stepAt_43 : decode cX7_stepAt 43 = .ok (.getfield 43, 3) := by decide +kernel
theorem dX7_stepAt_46 : decode cX7_stepAt 46 = .ok (.iload_n 2, 1) := by decide +kernel
theorem dX7_stepAt_47 : decode cX7_stepAt 47 = .ok (.iaload, 1) := by decide +kernel
theorem dX7_stepAt_48 : decode cX7_stepAt 48 = .ok (.i2l, 1) := by decide +kernel
theorem dX7_stepAt_49 : decode cX7_stepAt 49 = .ok (.invokestatic 67, 3) := by decide +kernel
theorem dX7_stepAt_52 : decode cX7_stepAt 52 = .ok (.ifCond .ne 5, 3) := by decide +kernel
theorem dX7_stepAt_55 : decode cX7_stepAt 55 = .ok (.iconst (-1), 1) := by decide +kernel
theorem dX7_stepAt_56 : decode cX7_stepAt 56 = .ok (.ireturn, 1) := by decide +kernel
theorem dX7_stepAt_57 : decode cX7_stepAt 57 = .ok (.iload_n 2, 1) := by decide +kernel
theorem dX7_stepAt_58 : decode cX7_stepAt 58 = .ok (.istore 5, 2) := by decide +kernel
theorem dX7_stepAt_60 : decode cX7_stepAt 60 = .ok (.iconst 0, 1) := by decide +kernel
theorem dX7_stepAt_61 : decode cX7_stepAt 61 = .ok (.istore 6, 2) := by decide +kernel
theorem dX7_stepAt_63 : decode cX7_stepAt 63 = .ok (.iload 6, 2) := by decide +kernel
theorem dX7_stepAt_65 : decode cX7_stepAt 65 = .ok (.iload 4, 2) := by decide +kernel
theorem dX7_stepAt_67 : decode cX7_stepAt 67 = .ok (.if_icmp .ge 56, 3) := by decide +kernel
theorem dX7_stepAt_70 : decode cX7_stepAt 70 = .ok (.iconst 0, 1) := by decide +kernel
theorem dX7_stepAt_71 : decode cX7_stepAt 71 = .ok (.istore 7, 2) := by decide +kernel
theorem dX7_stepAt_73 : decode cX7_stepAt 73 = .ok (.aload_n 0, 1) := by decide +kernel
theorem dX7_stepAt_74 : decode cX7_stepAt 74 = .ok (.iload_n 1, 1) := by decide +kernel
theorem dX7_stepAt_75 : decode cX7_stepAt 75 = .ok (.iload 5, 2) := by decide +kernel
theorem dX7_stepAt_77 : decode cX7_stepAt 77 = .ok (.invokevirtual 227, 3) := by decide +kernel
theorem dX7_stepAt_80 : decode cX7_stepAt 80 = .ok (.iload 7, 2) := by decide +kernel
theorem dX7_stepAt_82 : decode cX7_stepAt 82 = .ok (.invokestatic 231, 3) := by decide +kernel
theorem dX7_stepAt_85 : decode cX7_stepAt 85 = .ok (.ifCond .eq 22, 3) := by decide +kernel
theorem dX7_stepAt_88 : decode cX7_stepAt 88 = .ok (.aload_n 0, 1) := by decide +kernel
theorem dX7_stepAt_89 : decode cX7_stepAt 89 = .ok (.getfield 43, 3) := by decide +kernel
theorem dX7_stepAt_92 : decode cX7_stepAt 92 = .ok (.iload 7, 2) := by decide +kernel
theorem dX7_stepAt_94 : decode cX7_stepAt 94 = .ok (.iaload, 1) := by decide +kernel
theorem dX7_stepAt_95 : decode cX7_stepAt 95 = .ok (.aload_n 0, 1) := by decide +kernel
theorem dX7_stepAt_96 : decode cX7_stepAt 96 = .ok (.getfield 43, 3) := by decide +kernel
theorem dX7_stepAt_99 : decode cX7_stepAt 99 = .ok (.iload 5, 2) := by decide +kernel
theorem dX7_stepAt_101 : decode cX7_stepAt 101 = .ok (.iaload, 1) := by decide +kernel
theorem dX7_stepAt_102 : decode cX7_stepAt 102 = .ok (.iconst 1, 1) := by decide +kernel
theorem dX7_stepAt_103 : decode cX7_stepAt 103 = .ok (.isub, 1) := by decide +kernel
theorem dX7_stepAt_104 : decode cX7_stepAt 104 = .ok (.if_icmp .eq 9, 3) := by decide +kernel
theorem dX7_stepAt_107 : decode cX7_stepAt 107 = .ok (.iinc 7 1, 3) := by decide +kernel
theorem dX7_stepAt_110 : decode cX7_stepAt 110 = .ok (.goto (-37), 3) := by decide +kernel
theorem dX7_stepAt_113 : decode cX7_stepAt 113 = .ok (.iload 7, 2) := by decide +kernel
theorem dX7_stepAt_115 : decode cX7_stepAt 115 = .ok (.istore 5, 2) := by decide +kernel
theorem dX7_stepAt_117 : decode cX7_stepAt 117 = .ok (.iinc 6 1, 3) := by decide +kernel
theorem dX7_stepAt_120 : decode cX7_stepAt 120 = .ok (.goto (-57), 3) := by decide +kernel
theorem dX7_stepAt_123 : decode cX7_stepAt 123 = .ok (.iload 5, 2) := by decide +kernel
theorem dX7_stepAt_125 : decode cX7_stepAt 125 = .ok (.ireturn, 1) := by decide +kernel
theorem dX7_aroundOf_0 : decode cX7_aroundOf 0 = .ok (.aload_n 0, 1) := by decide +kernel
theorem dX7_aroundOf_1 : decode cX7_aroundOf 1 = .ok (.iload_n 1, 1) := by decide +kernel
theorem dX7_aroundOf_2 : decode cX7_aroundOf 2 = .ok (.iload_n 2, 1) := by decide +kernel
theorem dX7_aroundOf_3 : decode cX7_aroundOf 3 = .ok (.invokevirtual 273, 3) := by decide +kernel
theorem dX7_aroundOf_6 : decode cX7_aroundOf 6 = .ok (.iconst (-1), 1) := by decide +kernel
theorem dX7_aroundOf_7 : decode cX7_aroundOf 7 = .ok (.istore_n 3, 1) := by decide +kernel
theorem dX7_aroundOf_8 : decode cX7_aroundOf 8 = .ok (.iconst 0, 1) := by decide +kernel
theorem dX7_aroundOf_9 : decode cX7_aroundOf 9 = .ok (.istore 4, 2) := by decide +kernel
theorem dX7_aroundOf_11 : decode cX7_aroundOf 11 = .ok (.iload 4, 2) := by decide +kernel
theorem dX7_aroundOf_13 : decode cX7_aroundOf 13 = .ok (.aload_n 0, 1) := by decide +kernel
theorem dX7_aroundOf_14 : decode cX7_aroundOf 14 = .ok (.invokevirtual 71, 3) := by decide +kernel
theorem dX7_aroundOf_17 : decode cX7_aroundOf 17 = .ok (.if_icmp .ge 63, 3) := by decide +kernel
theorem dX7_aroundOf_20 : decode cX7_aroundOf 20 = .ok (.aload_n 0, 1) := by decide +kernel
theorem dX7_aroundOf_21 : decode cX7_aroundOf 21 = .ok (.iload_n 1, 1) := by decide +kernel
theorem dX7_aroundOf_22 : decode cX7_aroundOf 22 = .ok (.iload_n 2, 1) := by decide +kernel
theorem dX7_aroundOf_23 : decode cX7_aroundOf 23 = .ok (.invokevirtual 227, 3) := by decide +kernel
theorem dX7_aroundOf_26 : decode cX7_aroundOf 26 = .ok (.iload 4, 2) := by decide +kernel
theorem dX7_aroundOf_28 : decode cX7_aroundOf 28 = .ok (.invokestatic 231, 3) := by decide +kernel
theorem dX7_aroundOf_31 : decode cX7_aroundOf 31 = .ok (.iconst 1, 1) := by decide +kernel
theorem dX7_aroundOf_32 : decode cX7_aroundOf 32 = .ok (.if_icmp .ne 42, 3) := by decide +kernel
theorem dX7_aroundOf_35 : decode cX7_aroundOf 35 = .ok (.aload_n 0, 1) := by decide +kernel
theorem dX7_aroundOf_36 : decode cX7_aroundOf 36 = .ok (.getfield 43, 3) := by decide +kernel
theorem dX7_aroundOf_39 : decode cX7_aroundOf 39 = .ok (.iload 4, 2) := by decide +kernel
theorem dX7_aroundOf_41 : decode cX7_aroundOf 41 = .ok (.iaload, 1) := by decide +kernel
theorem dX7_aroundOf_42 : decode cX7_aroundOf 42 = .ok (.iconst (-1), 1) := by decide +kernel
theorem dX7_aroundOf_43 : decode cX7_aroundOf 43 = .ok (.if_icmp .eq 31, 3) := by decide +kernel
theorem dX7_aroundOf_46 : decode cX7_aroundOf 46 = .ok (.iload_n 3, 1) := by decide +kernel
theorem dX7_aroundOf_47 : decode cX7_aroundOf 47 = .ok (.iconst (-1), 1) := by decide +kernel
theorem dX7_aroundOf_48 : decode cX7_aroundOf 48 = .ok (.if_icmp .eq 16, 3) := by decide +kernel
theorem dX7_aroundOf_51 : decode cX7_aroundOf 51 = .ok (.aload_n 0, 1) := by decide +kernel
theorem dX7_aroundOf_52 : decode cX7_aroundOf 52 = .ok (.getfield 43, 3) := by decide +kernel
theorem dX7_aroundOf_55 : decode cX7_aroundOf 55 = .ok (.iload 4, 2) := by decide +kernel
theorem dX7_aroundOf_57 : decode cX7_aroundOf 57 = .ok (.iaload, 1) := by decide +kernel
theorem dX7_aroundOf_58 : decode cX7_aroundOf 58 = .ok (.iconst 1, 1) := by decide +kernel
theorem dX7_aroundOf_59 : decode cX7_aroundOf 59 = .ok (.iadd, 1) := by decide +kernel
theorem dX7_aroundOf_60 : decode cX7_aroundOf 60 = .ok (.iload_n 3, 1) := by decide +kernel
theorem dX7_aroundOf_61 : decode cX7_aroundOf 61 = .ok (.if_icmp .ge 13, 3) := by decide +kernel
theorem dX7_aroundOf_64 : decode cX7_aroundOf 64 = .ok (.aload_n 0, 1) := by decide +kernel
theorem dX7_aroundOf_65 : decode cX7_aroundOf 65 = .ok (.getfield 43, 3) := by decide +kernel
theorem dX7_aroundOf_68 : decode cX7_aroundOf 68 = .ok (.iload 4, 2) := by decide +kernel
theorem dX7_aroundOf_70 : decode cX7_aroundOf 70 = .ok (.iaload, 1) := by decide +kernel
theorem dX7_aroundOf_71 : decode cX7_aroundOf 71 = .ok (.iconst 1, 1) := by decide +kernel
theorem dX7_aroundOf_72 : decode cX7_aroundOf 72 = .ok (.iadd, 1) := by decide +kernel
theorem dX7_aroundOf_73 : decode cX7_aroundOf 73 = .ok (.istore_n 3, 1) := by decide +kernel
theorem dX7_aroundOf_74 : decode cX7_aroundOf 74 = .ok (.iinc 4 1, 3) := by decide +kernel
theorem dX7_aroundOf_77 : decode cX7_aroundOf 77 = .ok (.goto (-66), 3) := by decide +kernel
theorem dX7_aroundOf_80 : decode cX7_aroundOf 80 = .ok (.iload_n 3, 1) := by decide +kernel
theorem dX7_aroundOf_81 : decode cX7_aroundOf 81 = .ok (.ireturn, 1) := by decide +kernel
theorem dX7_around_0 : decode cX7_around 0 = .ok (.aload_n 0, 1) := by decide +kernel
theorem dX7_around_1 : decode cX7_around 1 = .ok (.aload_n 0, 1) := by decide +kernel
theorem dX7_around_2 : decode cX7_around 2 = .ok (.iload_n 1, 1) := by decide +kernel
theorem dX7_around_3 : decode cX7_around 3 = .ok (.iload_n 2, 1) := by decide +kernel
theorem dX7_around_4 : decode cX7_around 4 = .ok (.invokevirtual 223, 3) := by decide +kernel
theorem dX7_around_7 : decode cX7_around 7 = .ok (.iconst 1, 1) := by decide +kernel
theorem dX7_around_8 : decode cX7_around 8 = .ok (.invokevirtual 209, 3) := by decide +kernel
theorem dX7_around_11 : decode cX7_around 11 = .ok (.ifCond .eq 7, 3) := by decide +kernel
theorem dX7_around_14 : decode cX7_around 14 = .ok (.iconst 0, 1) := by decide +kernel
theorem dX7_around_15 : decode cX7_around 15 = .ok (.goto 9, 3) := by decide +kernel
theorem dX7_around_18 : decode cX7_around 18 = .ok (.aload_n 0, 1) := by decide +kernel
theorem dX7_around_19 : decode cX7_around 19 = .ok (.iload_n 1, 1) := by decide +kernel
theorem dX7_around_20 : decode cX7_around 20 = .ok (.iload_n 2, 1) := by decide +kernel
theorem dX7_around_21 : decode cX7_around 21 = .ok (.invokevirtual 277, 3) := by decide +kernel
theorem dX7_around_24 : decode cX7_around 24 = .ok (.ireturn, 1) := by decide +kernel
theorem dX7_girth_0 : decode cX7_girth 0 = .ok (.aload_n 0, 1) := by decide +kernel
theorem dX7_girth_1 : decode cX7_girth 1 = .ok (.iload_n 1, 1) := by decide +kernel
theorem dX7_girth_2 : decode cX7_girth 2 = .ok (.invokestatic 216, 3) := by decide +kernel
theorem dX7_girth_5 : decode cX7_girth 5 = .ok (.iconst 1, 1) := by decide +kernel
theorem dX7_girth_6 : decode cX7_girth 6 = .ok (.invokevirtual 209, 3) := by decide +kernel
theorem dX7_girth_9 : decode cX7_girth 9 = .ok (.ifCond .eq 5, 3) := by decide +kernel
theorem dX7_girth_12 : decode cX7_girth 12 = .ok (.iconst 0, 1) := by decide +kernel
theorem dX7_girth_13 : decode cX7_girth 13 = .ok (.ireturn, 1) := by decide +kernel
theorem dX7_girth_14 : decode cX7_girth 14 = .ok (.iconst (-1), 1) := by decide +kernel
theorem dX7_girth_15 : decode cX7_girth 15 = .ok (.istore_n 2, 1) := by decide +kernel
theorem dX7_girth_16 : decode cX7_girth 16 = .ok (.iconst 0, 1) := by decide +kernel
theorem dX7_girth_17 : decode cX7_girth 17 = .ok (.istore_n 3, 1) := by decide +kernel
theorem dX7_girth_18 : decode cX7_girth 18 = .ok (.iload_n 3, 1) := by decide +kernel
theorem dX7_girth_19 : decode cX7_girth 19 = .ok (.aload_n 0, 1) := by decide +kernel
theorem dX7_girth_20 : decode cX7_girth 20 = .ok (.invokevirtual 71, 3) := by decide +kernel
theorem dX7_girth_23 : decode cX7_girth 23 = .ok (.if_icmp .ge 41, 3) := by decide +kernel
theorem dX7_girth_26 : decode cX7_girth 26 = .ok (.aload_n 0, 1) := by decide +kernel
theorem dX7_girth_27 : decode cX7_girth 27 = .ok (.iload_n 1, 1) := by decide +kernel
theorem dX7_girth_28 : decode cX7_girth 28 = .ok (.iload_n 3, 1) := by decide +kernel
theorem dX7_girth_29 : decode cX7_girth 29 = .ok (.invokevirtual 277, 3) := by decide +kernel
theorem dX7_girth_32 : decode cX7_girth 32 = .ok (.istore 4, 2) := by decide +kernel
theorem dX7_girth_34 : decode cX7_girth 34 = .ok (.iload 4, 2) := by decide +kernel
theorem dX7_girth_36 : decode cX7_girth 36 = .ok (.iconst (-1), 1) := by decide +kernel
theorem dX7_girth_37 : decode cX7_girth 37 = .ok (.if_icmp .eq 14, 3) := by decide +kernel
theorem dX7_girth_40 : decode cX7_girth 40 = .ok (.iload_n 2, 1) := by decide +kernel
theorem dX7_girth_41 : decode cX7_girth 41 = .ok (.iconst (-1), 1) := by decide +kernel
theorem dX7_girth_42 : decode cX7_girth 42 = .ok (.if_icmp .eq 13, 3) := by decide +kernel
theorem dX7_girth_45 : decode cX7_girth 45 = .ok (.iload_n 2, 1) := by decide +kernel
theorem dX7_girth_46 : decode cX7_girth 46 = .ok (.iload 4, 2) := by decide +kernel
theorem dX7_girth_48 : decode cX7_girth 48 = .ok (.if_icmp .gt 7, 3) := by decide +kernel
theorem dX7_girth_51 : decode cX7_girth 51 = .ok (.iload_n 2, 1) := by decide +kernel
theorem dX7_girth_52 : decode cX7_girth 52 = .ok (.goto 5, 3) := by decide +kernel
theorem dX7_girth_55 : decode cX7_girth 55 = .ok (.iload 4, 2) := by decide +kernel
theorem dX7_girth_57 : decode cX7_girth 57 = .ok (.istore_n 2, 1) := by decide +kernel
theorem dX7_girth_58 : decode cX7_girth 58 = .ok (.iinc 3 1, 3) := by decide +kernel
theorem dX7_girth_61 : decode cX7_girth 61 = .ok (.goto (-43), 3) := by decide +kernel
theorem dX7_girth_64 : decode cX7_girth 64 = .ok (.iload_n 2, 1) := by decide +kernel
theorem dX7_girth_65 : decode cX7_girth 65 = .ok (.ireturn, 1) := by decide +kernel
theorem dX7_free_0 : decode cX7_free 0 = .ok (.iconst 0, 1) := by decide +kernel
theorem dX7_free_1 : decode cX7_free 1 = .ok (.istore 4, 2) := by decide +kernel
theorem dX7_free_3 : decode cX7_free 3 = .ok (.iload 4, 2) := by decide +kernel
theorem dX7_free_5 : decode cX7_free 5 = .ok (.aload_n 0, 1) := by decide +kernel
theorem dX7_free_6 : decode cX7_free 6 = .ok (.invokevirtual 71, 3) := by decide +kernel
theorem dX7_free_9 : decode cX7_free 9 = .ok (.if_icmp .ge 88, 3) := by decide +kernel
theorem dX7_free_12 : decode cX7_free 12 = .ok (.lload_n 2, 1) := by decide +kernel
theorem dX7_free_13 : decode cX7_free 13 = .ok (.iload 4, 2) := by decide +kernel
theorem dX7_free_15 : decode cX7_free 15 = .ok (.invokestatic 231, 3) := by decide +kernel
theorem dX7_free_18 : decode cX7_free 18 = .ok (.iconst 1, 1) := by decide +kernel
theorem dX7_free_19 : decode cX7_free 19 = .ok (.if_icmp .ne 7, 3) := by decide +kernel
theorem dX7_free_22 : decode cX7_free 22 = .ok (.iconst 1, 1) := by decide +kernel
theorem dX7_free_23 : decode cX7_free 23 = .ok (.goto 4, 3) := by decide +kernel
theorem dX7_free_26 : decode cX7_free 26 = .ok (.iconst 0, 1) := by decide +kernel
theorem dX7_free_27 : decode cX7_free 27 = .ok (.istore 5, 2) := by decide +kernel
theorem dX7_free_29 : decode cX7_free 29 = .ok (.iconst 0, 1) := by decide +kernel
theorem dX7_free_30 : decode cX7_free 30 = .ok (.istore 6, 2) := by decide +kernel
theorem dX7_free_32 : decode cX7_free 32 = .ok (.iload 6, 2) := by decide +kernel
theorem dX7_free_34 : decode cX7_free 34 = .ok (.aload_n 0, 1) := by decide +kernel
theorem dX7_free_35 : decode cX7_free 35 = .ok (.invokevirtual 71, 3) := by decide +kernel
theorem dX7_free_38 : decode cX7_free 38 = .ok (.if_icmp .ge 45, 3) := by decide +kernel
theorem dX7_free_41 : decode cX7_free 41 = .ok (.iload 5, 2) := by decide +kernel
theorem dX7_free_43 : decode cX7_free 43 = .ok (.ifCond .eq 40, 3) := by decide +kernel
theorem dX7_free_46 : decode cX7_free 46 = .ok (.lload_n 2, 1) := by decide +kernel
theorem dX7_free_47 : decode cX7_free 47 = .ok (.iload 6, 2) := by decide +kernel
theorem dX7_free_49 : decode cX7_free 49 = .ok (.invokestatic 231, 3) := by decide +kernel
theorem dX7_free_52 : decode cX7_free 52 = .ok (.ifCond .eq 18, 3) := by decide +kernel
theorem dX7_free_55 : decode cX7_free 55 = .ok (.aload_n 0, 1) := by decide +kernel
theorem dX7_free_56 : decode cX7_free 56 = .ok (.iload_n 1, 1) := by decide +kernel
theorem dX7_free_57 : decode cX7_free 57 = .ok (.iload 6, 2) := by decide +kernel
theorem dX7_free_59 : decode cX7_free 59 = .ok (.invokevirtual 227, 3) := by decide +kernel
theorem dX7_free_62 : decode cX7_free 62 = .ok (.iload 4, 2) := by decide +kernel
theorem dX7_free_64 : decode cX7_free 64 = .ok (.invokestatic 231, 3) := by decide +kernel
theorem dX7_free_67 : decode cX7_free 67 = .ok (.ifCond .ne 7, 3) := by decide +kernel
theorem dX7_free_70 : decode cX7_free 70 = .ok (.iconst 1, 1) := by decide +kernel
theorem dX7_free_71 : decode cX7_free 71 = .ok (.goto 4, 3) := by decide +kernel
theorem dX7_free_74 : decode cX7_free 74 = .ok (.iconst 0, 1) := by decide +kernel
theorem dX7_free_75 : decode cX7_free 75 = .ok (.istore 5, 2) := by decide +kernel
theorem dX7_free_77 : decode cX7_free 77 = .ok (.iinc 6 1, 3) := by decide +kernel
theorem dX7_free_80 : decode cX7_free 80 = .ok (.goto (-48), 3) := by decide +kernel
theorem dX7_free_83 : decode cX7_free 83 = .ok (.iload 5, 2) := by decide +kernel
theorem dX7_free_85 : decode cX7_free 85 = .ok (.ifCond .eq 6, 3) := by decide +kernel
theorem dX7_free_88 : decode cX7_free 88 = .ok (.iload 4, 2) := by decide +kernel
theorem dX7_free_90 : decode cX7_free 90 = .ok (.ireturn, 1) := by decide +kernel
theorem dX7_free_91 : decode cX7_free 91 = .ok (.iinc 4 1, 3) := by decide +kernel
theorem dX7_free_94 : decode cX7_free 94 = .ok (.goto (-91), 3) := by decide +kernel
theorem dX7_free_97 : decode cX7_free 97 = .ok (.iconst (-1), 1) := by decide +kernel
theorem dX7_free_98 : decode cX7_free 98 = .ok (.ireturn, 1) := by decide +kernel
theorem dX7_order_0 : decode cX7_order 0 = .ok (.aload_n 0, 1) := by decide +kernel
theorem dX7_order_1 : decode cX7_order 1 = .ok (.iload_n 1, 1) := by decide +kernel
theorem dX7_order_2 : decode cX7_order 2 = .ok (.invokestatic 216, 3) := by decide +kernel
theorem dX7_order_5 : decode cX7_order 5 = .ok (.iconst 1, 1) := by decide +kernel
theorem dX7_order_6 : decode cX7_order 6 = .ok (.invokevirtual 209, 3) := by decide +kernel
theorem dX7_order_9 : decode cX7_order 9 = .ok (.ifCond .eq 5, 3) := by decide +kernel
theorem dX7_order_12 : decode cX7_order 12 = .ok (.iconst 0, 1) := by decide +kernel
theorem dX7_order_13 : decode cX7_order 13 = .ok (.ireturn, 1) := by decide +kernel
theorem dX7_order_14 : decode cX7_order 14 = .ok (.aload_n 0, 1) := by decide +kernel
theorem dX7_order_15 : decode cX7_order 15 = .ok (.invokevirtual 245, 3) := by decide +kernel
theorem dX7_order_18 : decode cX7_order 18 = .ok (.lstore_n 3, 1) := by decide +kernel
theorem dX7_order_19 : decode cX7_order 19 = .ok (.iconst (-1), 1) := by decide +kernel
theorem dX7_order_20 : decode cX7_order 20 = .ok (.istore 5, 2) := by decide +kernel
theorem dX7_order_22 : decode cX7_order 22 = .ok (.iconst 0, 1) := by decide +kernel
theorem dX7_order_23 : decode cX7_order 23 = .ok (.istore 6, 2) := by decide +kernel
theorem dX7_order_25 : decode cX7_order 25 = .ok (.iload 6, 2) := by decide +kernel
theorem dX7_order_27 : decode cX7_order 27 = .ok (.iload_n 2, 1) := by decide +kernel
theorem dX7_order_28 : decode cX7_order 28 = .ok (.if_icmp .gt 32, 3) := by decide +kernel
theorem dX7_order_31 : decode cX7_order 31 = .ok (.aload_n 0, 1) := by decide +kernel
theorem dX7_order_32 : decode cX7_order 32 = .ok (.iload_n 1, 1) := by decide +kernel
theorem dX7_order_33 : decode cX7_order 33 = .ok (.lload_n 3, 1) := by decide +kernel
theorem dX7_order_34 : decode cX7_order 34 = .ok (.invokevirtual 280, 3) := by decide +kernel
theorem dX7_order_37 : decode cX7_order 37 = .ok (.istore 5, 2) := by decide +kernel
theorem dX7_order_39 : decode cX7_order 39 = .ok (.iload 5, 2) := by decide +kernel
theorem dX7_order_41 : decode cX7_order 41 = .ok (.iconst (-1), 1) := by decide +kernel
theorem dX7_order_42 : decode cX7_order 42 = .ok (.if_icmp .ne 5, 3) := by decide +kernel
theorem dX7_order_45 : decode cX7_order 45 = .ok (.iconst (-1), 1) := by decide +kernel
theorem dX7_order_46 : decode cX7_order 46 = .ok (.ireturn, 1) := by decide +kernel
theorem dX7_order_47 : decode cX7_order 47 = .ok (.lload_n 3, 1) := by decide +kernel
theorem dX7_order_48 : decode cX7_order 48 = .ok (.lconst 1, 1) := by decide +kernel
theorem dX7_order_49 : decode cX7_order 49 = .ok (.iload 5, 2) := by decide +kernel
theorem dX7_order_51 : decode cX7_order 51 = .ok (.lshl, 1) := by decide +kernel
theorem dX7_order_52 : decode cX7_order 52 = .ok (.lxor, 1) := by decide +kernel
theorem dX7_order_53 : decode cX7_order 53 = .ok (.lstore_n 3, 1) := by decide +kernel
theorem dX7_order_54 : decode cX7_order 54 = .ok (.iinc 6 1, 3) := by decide +kernel
theorem dX7_order_57 : decode cX7_order 57 = .ok (.goto (-32), 3) := by decide +kernel
theorem dX7_order_60 : decode cX7_order 60 = .ok (.iload 5, 2) := by decide +kernel
theorem dX7_order_62 : decode cX7_order 62 = .ok (.ireturn, 1) := by decide +kernel
theorem dX7_pairsTurned_0 : decode cX7_pairsTurned 0 = .ok (.aload_n 0, 1) := by decide +kernel
theorem dX7_pairsTurned_1 : decode cX7_pairsTurned 1 = .ok (.iload_n 1, 1) := by decide +kernel
theorem dX7_pairsTurned_2 : decode cX7_pairsTurned 2 = .ok (.aload_n 0, 1) := by decide +kernel
theorem dX7_pairsTurned_3 : decode cX7_pairsTurned 3 = .ok (.getfield 34, 3) := by decide +kernel
theorem dX7_pairsTurned_6 : decode cX7_pairsTurned 6 = .ok (.invokevirtual 252, 3) := by decide +kernel
theorem dX7_pairsTurned_9 : decode cX7_pairsTurned 9 = .ok (.aload_n 0, 1) := by decide +kernel
theorem dX7_pairsTurned_10 : decode cX7_pairsTurned 10 = .ok (.getfield 34, 3) := by decide +kernel
theorem dX7_pairsTurned_13 : decode cX7_pairsTurned 13 = .ok (.iload_n 2, 1) := by decide +kernel
theorem dX7_pairsTurned_14 : decode cX7_pairsTurned 14 = .ok (.dup2, 1) := by decide +kernel
theorem dX7_pairsTurned_15 : decode cX7_pairsTurned 15 = .ok (.laload, 1) := by decide +kernel
theorem dX7_pairsTurned_16 : decode cX7_pairsTurned 16 = .ok (.lconst 1, 1) := by decide +kernel
theorem dX7_pairsTurned_17 : decode cX7_pairsTurned 17 = .ok (.iload_n 3, 1) := by decide +kernel
theorem dX7_pairsTurned_18 : decode cX7_pairsTurned 18 = .ok (.lshl, 1) := by decide +kernel
theorem dX7_pairsTurned_19 : decode cX7_pairsTurned 19 = .ok (.lxor, 1) := by decide +kernel
theorem dX7_pairsTurned_20 : decode cX7_pairsTurned 20 = .ok (.lastore, 1) := by decide +kernel
theorem dX7_pairsTurned_21 : decode cX7_pairsTurned 21 = .ok (.aload_n 0, 1) := by decide +kernel
theorem dX7_pairsTurned_22 : decode cX7_pairsTurned 22 = .ok (.aload_n 0, 1) := by decide +kernel
theorem dX7_pairsTurned_23 : decode cX7_pairsTurned 23 = .ok (.getfield 34, 3) := by decide +kernel
theorem dX7_pairsTurned_26 : decode cX7_pairsTurned 26 = .ok (.invokevirtual 256, 3) := by decide +kernel
theorem dX7_pairsTurned_29 : decode cX7_pairsTurned 29 = .ok (.aload_n 0, 1) := by decide +kernel
theorem dX7_pairsTurned_30 : decode cX7_pairsTurned 30 = .ok (.aload_n 0, 1) := by decide +kernel
theorem dX7_pairsTurned_31 : decode cX7_pairsTurned 31 = .ok (.getfield 34, 3) := by decide +kernel
theorem dX7_pairsTurned_34 : decode cX7_pairsTurned 34 = .ok (.invokevirtual 263, 3) := by decide +kernel
theorem dX7_pairsTurned_37 : decode cX7_pairsTurned 37 = .ok (.ireturn, 1) := by decide +kernel
theorem dX7_gained_0 : decode cX7_gained 0 = .ok (.aload_n 0, 1) := by decide +kernel
theorem dX7_gained_1 : decode cX7_gained 1 = .ok (.aload_n 0, 1) := by decide +kernel
theorem dX7_gained_2 : decode cX7_gained 2 = .ok (.iload_n 1, 1) := by decide +kernel
theorem dX7_gained_3 : decode cX7_gained 3 = .ok (.iload_n 2, 1) := by decide +kernel
theorem dX7_gained_4 : decode cX7_gained 4 = .ok (.invokevirtual 223, 3) := by decide +kernel
theorem dX7_gained_7 : decode cX7_gained 7 = .ok (.ifCond .eq 15, 3) := by decide +kernel
theorem dX7_gained_10 : decode cX7_gained 10 = .ok (.aload_n 0, 1) := by decide +kernel
theorem dX7_gained_11 : decode cX7_gained 11 = .ok (.iload_n 3, 1) := by decide +kernel
theorem dX7_gained_12 : decode cX7_gained 12 = .ok (.invokevirtual 220, 3) := by decide +kernel
theorem dX7_gained_15 : decode cX7_gained 15 = .ok (.ifCond .eq 7, 3) := by decide +kernel
theorem dX7_gained_18 : decode cX7_gained 18 = .ok (.iconst 1, 1) := by decide +kernel
theorem dX7_gained_19 : decode cX7_gained 19 = .ok (.goto 4, 3) := by decide +kernel
theorem dX7_gained_22 : decode cX7_gained 22 = .ok (.iconst 0, 1) := by decide +kernel
theorem dX7_gained_23 : decode cX7_gained 23 = .ok (.iconst 1, 1) := by decide +kernel
theorem dX7_gained_24 : decode cX7_gained 24 = .ok (.invokevirtual 209, 3) := by decide +kernel
theorem dX7_gained_27 : decode cX7_gained 27 = .ok (.ifCond .eq 5, 3) := by decide +kernel
theorem dX7_gained_30 : decode cX7_gained 30 = .ok (.iconst 0, 1) := by decide +kernel
theorem dX7_gained_31 : decode cX7_gained 31 = .ok (.ireturn, 1) := by decide +kernel
theorem dX7_gained_32 : decode cX7_gained 32 = .ok (.aload_n 0, 1) := by decide +kernel
theorem dX7_gained_33 : decode cX7_gained 33 = .ok (.iload_n 1, 1) := by decide +kernel
theorem dX7_gained_34 : decode cX7_gained 34 = .ok (.iload_n 2, 1) := by decide +kernel
theorem dX7_gained_35 : decode cX7_gained 35 = .ok (.invokevirtual 227, 3) := by decide +kernel
theorem dX7_gained_38 : decode cX7_gained 38 = .ok (.iload_n 3, 1) := by decide +kernel
theorem dX7_gained_39 : decode cX7_gained 39 = .ok (.invokestatic 231, 3) := by decide +kernel
theorem dX7_gained_42 : decode cX7_gained 42 = .ok (.iconst 1, 1) := by decide +kernel
theorem dX7_gained_43 : decode cX7_gained 43 = .ok (.if_icmp .ne 7, 3) := by decide +kernel
theorem dX7_gained_46 : decode cX7_gained 46 = .ok (.iconst 0, 1) := by decide +kernel
theorem dX7_gained_47 : decode cX7_gained 47 = .ok (.goto 16, 3) := by decide +kernel
theorem dX7_gained_50 : decode cX7_gained 50 = .ok (.aload_n 0, 1) := by decide +kernel
theorem dX7_gained_51 : decode cX7_gained 51 = .ok (.iload_n 1, 1) := by decide +kernel
theorem dX7_gained_52 : decode cX7_gained 52 = .ok (.iload_n 2, 1) := by decide +kernel
theorem dX7_gained_53 : decode cX7_gained 53 = .ok (.iload_n 3, 1) := by decide +kernel
theorem dX7_gained_54 : decode cX7_gained 54 = .ok (.invokevirtual 284, 3) := by decide +kernel
theorem dX7_gained_57 : decode cX7_gained 57 = .ok (.aload_n 0, 1) := by decide +kernel
theorem dX7_gained_58 : decode cX7_gained 58 = .ok (.iload_n 1, 1) := by decide +kernel
theorem dX7_gained_59 : decode cX7_gained 59 = .ok (.invokevirtual 267, 3) := by decide +kernel
theorem dX7_gained_62 : decode cX7_gained 62 = .ok (.isub, 1) := by decide +kernel
theorem dX7_gained_63 : decode cX7_gained 63 = .ok (.ireturn, 1) := by decide +kernel
theorem dX7_lost_0 : decode cX7_lost 0 = .ok (.aload_n 0, 1) := by decide +kernel
theorem dX7_lost_1 : decode cX7_lost 1 = .ok (.aload_n 0, 1) := by decide +kernel
theorem dX7_lost_2 : decode cX7_lost 2 = .ok (.iload_n 1, 1) := by decide +kernel
theorem dX7_lost_3 : decode cX7_lost 3 = .ok (.iload_n 2, 1) := by decide +kernel
theorem dX7_lost_4 : decode cX7_lost 4 = .ok (.invokevirtual 223, 3) := by decide +kernel
theorem dX7_lost_7 : decode cX7_lost 7 = .ok (.ifCond .eq 15, 3) := by decide +kernel
theorem dX7_lost_10 : decode cX7_lost 10 = .ok (.aload_n 0, 1) := by decide +kernel
theorem dX7_lost_11 : decode cX7_lost 11 = .ok (.iload_n 3, 1) := by decide +kernel
theorem dX7_lost_12 : decode cX7_lost 12 = .ok (.invokevirtual 220, 3) := by decide +kernel
theorem dX7_lost_15 : decode cX7_lost 15 = .ok (.ifCond .eq 7, 3) := by decide +kernel
theorem dX7_lost_18 : decode cX7_lost 18 = .ok (.iconst 1, 1) := by decide +kernel
theorem dX7_lost_19 : decode cX7_lost 19 = .ok (.goto 4, 3) := by decide +kernel
theorem dX7_lost_22 : decode cX7_lost 22 = .ok (.iconst 0, 1) := by decide +kernel
theorem dX7_lost_23 : decode cX7_lost 23 = .ok (.iconst 1, 1) := by decide +kernel
theorem dX7_lost_24 : decode cX7_lost 24 = .ok (.invokevirtual 209, 3) := by decide +kernel
theorem dX7_lost_27 : decode cX7_lost 27 = .ok (.ifCond .eq 5, 3) := by decide +kernel
theorem dX7_lost_30 : decode cX7_lost 30 = .ok (.iconst 0, 1) := by decide +kernel
theorem dX7_lost_31 : decode cX7_lost 31 = .ok (.ireturn, 1) := by decide +kernel
theorem dX7_lost_32 : decode cX7_lost 32 = .ok (.aload_n 0, 1) := by decide +kernel
theorem dX7_lost_33 : decode cX7_lost 33 = .ok (.iload_n 1, 1) := by decide +kernel
theorem dX7_lost_34 : decode cX7_lost 34 = .ok (.iload_n 2, 1) := by decide +kernel
theorem dX7_lost_35 : decode cX7_lost 35 = .ok (.invokevirtual 227, 3) := by decide +kernel
theorem dX7_lost_38 : decode cX7_lost 38 = .ok (.iload_n 3, 1) := by decide +kernel
theorem dX7_lost_39 : decode cX7_lost 39 = .ok (.invokestatic 231, 3) := by decide +kernel
theorem dX7_lost_42 : decode cX7_lost 42 = .ok (.ifCond .ne 7, 3) := by decide +kernel
theorem dX7_lost_45 : decode cX7_lost 45 = .ok (.iconst (-1), 1) := by decide +kernel
theorem dX7_lost_46 : decode cX7_lost 46 = .ok (.goto 16, 3) := by decide +kernel
theorem dX7_lost_49 : decode cX7_lost 49 = .ok (.aload_n 0, 1) := by decide +kernel
theorem dX7_lost_50 : decode cX7_lost 50 = .ok (.iload_n 1, 1) := by decide +kernel
theorem dX7_lost_51 : decode cX7_lost 51 = .ok (.invokevirtual 267, 3) := by decide +kernel
theorem dX7_lost_54 : decode cX7_lost 54 = .ok (.aload_n 0, 1) := by decide +kernel
theorem dX7_lost_55 : decode cX7_lost 55 = .ok (.iload_n 1, 1) := by decide +kernel
theorem dX7_lost_56 : decode cX7_lost 56 = .ok (.iload_n 2, 1) := by decide +kernel
theorem dX7_lost_57 : decode cX7_lost 57 = .ok (.iload_n 3, 1) := by decide +kernel
theorem dX7_lost_58 : decode cX7_lost 58 = .ok (.invokevirtual 284, 3) := by decide +kernel
theorem dX7_lost_61 : decode cX7_lost 61 = .ok (.isub, 1) := by decide +kernel
theorem dX7_lost_62 : decode cX7_lost 62 = .ok (.ireturn, 1) := by decide +kernel
theorem dX7_mostTurned_0 : decode cX7_mostTurned 0 = .ok (.aload_n 0, 1) := by decide +kernel
theorem dX7_mostTurned_1 : decode cX7_mostTurned 1 = .ok (.iload_n 1, 1) := by decide +kernel
theorem dX7_mostTurned_2 : decode cX7_mostTurned 2 = .ok (.invokevirtual 267, 3) := by decide +kernel
theorem dX7_mostTurned_5 : decode cX7_mostTurned 5 = .ok (.istore_n 3, 1) := by decide +kernel
theorem dX7_mostTurned_6 : decode cX7_mostTurned 6 = .ok (.iconst (-1), 1) := by decide +kernel
theorem dX7_mostTurned_7 : decode cX7_mostTurned 7 = .ok (.istore 4, 2) := by decide +kernel
theorem dX7_mostTurned_9 : decode cX7_mostTurned 9 = .ok (.iconst (-1), 1) := by decide +kernel
theorem dX7_mostTurned_10 : decode cX7_mostTurned 10 = .ok (.istore 5, 2) := by decide +kernel
theorem dX7_mostTurned_12 : decode cX7_mostTurned 12 = .ok (.iconst 0, 1) := by decide +kernel
theorem dX7_mostTurned_13 : decode cX7_mostTurned 13 = .ok (.istore 6, 2) := by decide +kernel
theorem dX7_mostTurned_15 : decode cX7_mostTurned 15 = .ok (.iload 6, 2) := by decide +kernel
theorem dX7_mostTurned_17 : decode cX7_mostTurned 17 = .ok (.bipush 32, 2) := by decide +kernel
theorem dX7_mostTurned_19 : decode cX7_mostTurned 19 = .ok (.aload_n 0, 1) := by decide +kernel
theorem dX7_mostTurned_20 : decode cX7_mostTurned 20 = .ok (.invokevirtual 71, 3) := by decide +kernel
theorem dX7_mostTurned_23 : decode cX7_mostTurned 23 = .ok (.imul, 1) := by decide +kernel
theorem dX7_mostTurned_24 : decode cX7_mostTurned 24 = .ok (.if_icmp .ge 93, 3) := by decide +kernel
theorem dX7_mostTurned_27 : decode cX7_mostTurned 27 = .ok (.iload 6, 2) := by decide +kernel
theorem dX7_mostTurned_29 : decode cX7_mostTurned 29 = .ok (.bipush 32, 2) := by decide +kernel
theorem dX7_mostTurned_31 : decode cX7_mostTurned 31 = .ok (.irem, 1) := by decide +kernel
theorem dX7_mostTurned_32 : decode cX7_mostTurned 32 = .ok (.aload_n 0, 1) := by decide +kernel
theorem dX7_mostTurned_33 : decode cX7_mostTurned 33 = .ok (.invokevirtual 71, 3) := by decide +kernel
theorem dX7_mostTurned_36 : decode cX7_mostTurned 36 = .ok (.if_icmp .ge 75, 3) := by decide +kernel
theorem dX7_mostTurned_39 : decode cX7_mostTurned 39 = .ok (.aload_n 0, 1) := by decide +kernel
theorem dX7_mostTurned_40 : decode cX7_mostTurned 40 = .ok (.iload_n 1, 1) := by decide +kernel
theorem dX7_mostTurned_41 : decode cX7_mostTurned 41 = .ok (.iload 6, 2) := by decide +kernel
theorem dX7_mostTurned_43 : decode cX7_mostTurned 43 = .ok (.bipush 32, 2) := by decide +kernel
theorem dX7_mostTurned_45 : decode cX7_mostTurned 45 = .ok (.idiv, 1) := by decide +kernel
theorem dX7_mostTurned_46 : decode cX7_mostTurned 46 = .ok (.invokevirtual 227, 3) := by decide +kernel
theorem dX7_mostTurned_49 : decode cX7_mostTurned 49 = .ok (.iload 6, 2) := by decide +kernel
theorem dX7_mostTurned_51 : decode cX7_mostTurned 51 = .ok (.bipush 32, 2) := by decide +kernel
theorem dX7_mostTurned_53 : decode cX7_mostTurned 53 = .ok (.irem, 1) := by decide +kernel
theorem dX7_mostTurned_54 : decode cX7_mostTurned 54 = .ok (.invokestatic 231, 3) := by decide +kernel
theorem dX7_mostTurned_57 : decode cX7_mostTurned 57 = .ok (.iload_n 2, 1) := by decide +kernel
theorem dX7_mostTurned_58 : decode cX7_mostTurned 58 = .ok (.if_icmp .eq 6, 3) := by decide +kernel
theorem dX7_mostTurned_61 : decode cX7_mostTurned 61 = .ok (.goto 50, 3) := by decide +kernel
theorem dX7_mostTurned_64 : decode cX7_mostTurned 64 = .ok (.aload_n 0, 1) := by decide +kernel
theorem dX7_mostTurned_65 : decode cX7_mostTurned 65 = .ok (.iload_n 1, 1) := by decide +kernel
theorem dX7_mostTurned_66 : decode cX7_mostTurned 66 = .ok (.iload 6, 2) := by decide +kernel
theorem dX7_mostTurned_68 : decode cX7_mostTurned 68 = .ok (.bipush 32, 2) := by decide +kernel
theorem dX7_mostTurned_70 : decode cX7_mostTurned 70 = .ok (.idiv, 1) := by decide +kernel
theorem dX7_mostTurned_71 : decode cX7_mostTurned 71 = .ok (.iload 6, 2) := by decide +kernel
theorem dX7_mostTurned_73 : decode cX7_mostTurned 73 = .ok (.bipush 32, 2) := by decide +kernel
theorem dX7_mostTurned_75 : decode cX7_mostTurned 75 = .ok (.irem, 1) := by decide +kernel
theorem dX7_mostTurned_76 : decode cX7_mostTurned 76 = .ok (.invokevirtual 284, 3) := by decide +kernel
theorem dX7_mostTurned_79 : decode cX7_mostTurned 79 = .ok (.iload_n 3, 1) := by decide +kernel
theorem dX7_mostTurned_80 : decode cX7_mostTurned 80 = .ok (.isub, 1) := by decide +kernel
theorem dX7_mostTurned_81 : decode cX7_mostTurned 81 = .ok (.invokestatic 288, 3) := by decide +kernel
theorem dX7_mostTurned_84 : decode cX7_mostTurned 84 = .ok (.istore 7, 2) := by decide +kernel
theorem dX7_mostTurned_86 : decode cX7_mostTurned 86 = .ok (.iload 7, 2) := by decide +kernel
theorem dX7_mostTurned_88 : decode cX7_mostTurned 88 = .ok (.iload 5, 2) := by decide +kernel
theorem dX7_mostTurned_90 : decode cX7_mostTurned 90 = .ok (.if_icmp .le 8, 3) := by decide +kernel
theorem dX7_mostTurned_93 : decode cX7_mostTurned 93 = .ok (.iload 6, 2) := by decide +kernel
theorem dX7_mostTurned_95 : decode cX7_mostTurned 95 = .ok (.goto 5, 3) := by decide +kernel
theorem dX7_mostTurned_98 : decode cX7_mostTurned 98 = .ok (.iload 4, 2) := by decide +kernel
theorem dX7_mostTurned_100 : decode cX7_mostTurned 100 = .ok (.istore 4, 2) := by decide +kernel
theorem dX7_mostTurned_102 : decode cX7_mostTurned 102 = .ok (.iload 5, 2) := by decide +kernel
theorem dX7_mostTurned_104 : decode cX7_mostTurned 104 = .ok (.iload 7, 2) := by decide +kernel
theorem dX7_mostTurned_106 : decode cX7_mostTurned 106 = .ok (.invokestatic 291, 3) := by decide +kernel
theorem dX7_mostTurned_109 : decode cX7_mostTurned 109 = .ok (.istore 5, 2) := by decide +kernel
theorem dX7_mostTurned_111 : decode cX7_mostTurned 111 = .ok (.iinc 6 1, 3) := by decide +kernel
theorem dX7_mostTurned_114 : decode cX7_mostTurned 114 = .ok (.goto (-99), 3) := by decide +kernel
theorem dX7_mostTurned_117 : decode cX7_mostTurned 117 = .ok (.iload 4, 2) := by decide +kernel
theorem dX7_mostTurned_119 : decode cX7_mostTurned 119 = .ok (.ireturn, 1) := by decide +kernel
theorem dX7_bestEdge_0 : decode cX7_bestEdge 0 = .ok (.aload_n 0, 1) := by decide +kernel
theorem dX7_bestEdge_1 : decode cX7_bestEdge 1 = .ok (.iload_n 1, 1) := by decide +kernel
theorem dX7_bestEdge_2 : decode cX7_bestEdge 2 = .ok (.invokestatic 216, 3) := by decide +kernel
theorem dX7_bestEdge_5 : decode cX7_bestEdge 5 = .ok (.iconst 1, 1) := by decide +kernel
theorem dX7_bestEdge_6 : decode cX7_bestEdge 6 = .ok (.invokevirtual 209, 3) := by decide +kernel
theorem dX7_bestEdge_9 : decode cX7_bestEdge 9 = .ok (.ifCond .eq 7, 3) := by decide +kernel
theorem dX7_bestEdge_12 : decode cX7_bestEdge 12 = .ok (.iconst 0, 1) := by decide +kernel
theorem dX7_bestEdge_13 : decode cX7_bestEdge 13 = .ok (.goto 9, 3) := by decide +kernel
theorem dX7_bestEdge_16 : decode cX7_bestEdge 16 = .ok (.aload_n 0, 1) := by decide +kernel
theorem dX7_bestEdge_17 : decode cX7_bestEdge 17 = .ok (.iload_n 1, 1) := by decide +kernel
theorem dX7_bestEdge_18 : decode cX7_bestEdge 18 = .ok (.iconst 0, 1) := by decide +kernel
theorem dX7_bestEdge_19 : decode cX7_bestEdge 19 = .ok (.invokevirtual 294, 3) := by decide +kernel
theorem dX7_bestEdge_22 : decode cX7_bestEdge 22 = .ok (.ireturn, 1) := by decide +kernel
theorem dX7_weakest_0 : decode cX7_weakest 0 = .ok (.aload_n 0, 1) := by decide +kernel
theorem dX7_weakest_1 : decode cX7_weakest 1 = .ok (.iload_n 1, 1) := by decide +kernel
theorem dX7_weakest_2 : decode cX7_weakest 2 = .ok (.invokestatic 216, 3) := by decide +kernel
theorem dX7_weakest_5 : decode cX7_weakest 5 = .ok (.iconst 1, 1) := by decide +kernel
theorem dX7_weakest_6 : decode cX7_weakest 6 = .ok (.invokevirtual 209, 3) := by decide +kernel
theorem dX7_weakest_9 : decode cX7_weakest 9 = .ok (.ifCond .eq 7, 3) := by decide +kernel
theorem dX7_weakest_12 : decode cX7_weakest 12 = .ok (.iconst 0, 1) := by decide +kernel
theorem dX7_weakest_13 : decode cX7_weakest 13 = .ok (.goto 9, 3) := by decide +kernel
theorem dX7_weakest_16 : decode cX7_weakest 16 = .ok (.aload_n 0, 1) := by decide +kernel
theorem dX7_weakest_17 : decode cX7_weakest 17 = .ok (.iload_n 1, 1) := by decide +kernel
theorem dX7_weakest_18 : decode cX7_weakest 18 = .ok (.iconst 1, 1) := by decide +kernel
theorem dX7_weakest_19 : decode cX7_weakest 19 = .ok (.invokevirtual 294, 3) := by decide +kernel
theorem dX7_weakest_22 : decode cX7_weakest 22 = .ok (.ireturn, 1) := by decide +kernel
theorem dX7_triangles_0 : decode cX7_triangles 0 = .ok (.aload_n 0, 1) := by decide +kernel
theorem dX7_triangles_1 : decode cX7_triangles 1 = .ok (.iload_n 1, 1) := by decide +kernel
theorem dX7_triangles_2 : decode cX7_triangles 2 = .ok (.invokestatic 216, 3) := by decide +kernel
theorem dX7_triangles_5 : decode cX7_triangles 5 = .ok (.iconst 1, 1) := by decide +kernel
theorem dX7_triangles_6 : decode cX7_triangles 6 = .ok (.invokevirtual 209, 3) := by decide +kernel
theorem dX7_triangles_9 : decode cX7_triangles 9 = .ok (.ifCond .eq 5, 3) := by decide +kernel
theorem dX7_triangles_12 : decode cX7_triangles 12 = .ok (.iconst 0, 1) := by decide +kernel
theorem dX7_triangles_13 : decode cX7_triangles 13 = .ok (.ireturn, 1) := by decide +kernel
theorem dX7_triangles_14 : decode cX7_triangles 14 = .ok (.iconst 0, 1) := by decide +kernel
theorem dX7_triangles_15 : decode cX7_triangles 15 = .ok (.istore_n 2, 1) := by decide +kernel
theorem dX7_triangles_16 : decode cX7_triangles 16 = .ok (.iconst 0, 1) := by decide +kernel
theorem dX7_triangles_17 : decode cX7_triangles 17 = .ok (.istore_n 3, 1) := by decide +kernel
theorem dX7_triangles_18 : decode cX7_triangles 18 = .ok (.iload_n 3, 1) := by decide +kernel
theorem dX7_triangles_19 : decode cX7_triangles 19 = .ok (.aload_n 0, 1) := by decide +kernel
theorem dX7_triangles_20 : decode cX7_triangles 20 = .ok (.invokevirtual 71, 3) := by decide +kernel
theorem dX7_triangles_23 : decode cX7_triangles 23 = .ok (.if_icmp .ge 118, 3) := by decide +kernel
theorem dX7_triangles_26 : decode cX7_triangles 26 = .ok (.iconst 0, 1) := by decide +kernel
theorem dX7_triangles_27 : decode cX7_triangles 27 = .ok (.istore 4, 2) := by decide +kernel
theorem dX7_triangles_29 : decode cX7_triangles 29 = .ok (.iload 4, 2) := by decide +kernel
theorem dX7_triangles_31 : decode cX7_triangles 31 = .ok (.aload_n 0, 1) := by decide +kernel
theorem dX7_triangles_32 : decode cX7_triangles 32 = .ok (.invokevirtual 71, 3) := by decide +kernel
theorem dX7_triangles_35 : decode cX7_triangles 35 = .ok (.if_icmp .ge 100, 3) := by decide +kernel
theorem dX7_triangles_38 : decode cX7_triangles 38 = .ok (.iconst 0, 1) := by decide +kernel
theorem dX7_triangles_39 : decode cX7_triangles 39 = .ok (.istore 5, 2) := by decide +kernel
theorem dX7_triangles_41 : decode cX7_triangles 41 = .ok (.iload 5, 2) := by decide +kernel
theorem dX7_triangles_43 : decode cX7_triangles 43 = .ok (.aload_n 0, 1) := by decide +kernel
theorem dX7_triangles_44 : decode cX7_triangles 44 = .ok (.invokevirtual 71, 3) := by decide +kernel
theorem dX7_triangles_47 : decode cX7_triangles 47 = .ok (.if_icmp .ge 82, 3) := by decide +kernel
theorem dX7_triangles_50 : decode cX7_triangles 50 = .ok (.iload_n 3, 1) := by decide +kernel
theorem dX7_triangles_51 : decode cX7_triangles 51 = .ok (.iload 4, 2) := by decide +kernel
theorem dX7_triangles_53 : decode cX7_triangles 53 = .ok (.if_icmp .eq 76, 3) := by decide +kernel
theorem dX7_triangles_56 : decode cX7_triangles 56 = .ok (.aload_n 0, 1) := by decide +kernel
theorem dX7_triangles_57 : decode cX7_triangles 57 = .ok (.iload_n 1, 1) := by decide +kernel
theorem dX7_triangles_58 : decode cX7_triangles 58 = .ok (.iload_n 3, 1) := by decide +kernel
theorem dX7_triangles_59 : decode cX7_triangles 59 = .ok (.invokevirtual 227, 3) := by decide +kernel
theorem dX7_triangles_62 : decode cX7_triangles 62 = .ok (.iload 4, 2) := by decide +kernel
theorem dX7_triangles_64 : decode cX7_triangles 64 = .ok (.invokestatic 231, 3) := by decide +kernel
theorem dX7_triangles_67 : decode cX7_triangles 67 = .ok (.iconst 1, 1) := by decide +kernel
theorem dX7_triangles_68 : decode cX7_triangles 68 = .ok (.if_icmp .ne 61, 3) := by decide +kernel
theorem dX7_triangles_71 : decode cX7_triangles 71 = .ok (.iload_n 2, 1) := by decide +kernel
theorem dX7_triangles_72 : decode cX7_triangles 72 = .ok (.iload 5, 2) := by decide +kernel
theorem dX7_triangles_74 : decode cX7_triangles 74 = .ok (.iload_n 3, 1) := by decide +kernel
theorem dX7_triangles_75 : decode cX7_triangles 75 = .ok (.if_icmp .eq 45, 3) := by decide +kernel
theorem dX7_triangles_78 : decode cX7_triangles 78 = .ok (.iload 5, 2) := by decide +kernel
theorem dX7_triangles_80 : decode cX7_triangles 80 = .ok (.iload 4, 2) := by decide +kernel
theorem dX7_triangles_82 : decode cX7_triangles 82 = .ok (.if_icmp .eq 38, 3) := by decide +kernel
theorem dX7_triangles_85 : decode cX7_triangles 85 = .ok (.aload_n 0, 1) := by decide +kernel
theorem dX7_triangles_86 : decode cX7_triangles 86 = .ok (.iload_n 1, 1) := by decide +kernel
theorem dX7_triangles_87 : decode cX7_triangles 87 = .ok (.iload 4, 2) := by decide +kernel
theorem dX7_triangles_89 : decode cX7_triangles 89 = .ok (.invokevirtual 227, 3) := by decide +kernel
theorem dX7_triangles_92 : decode cX7_triangles 92 = .ok (.iload 5, 2) := by decide +kernel
theorem dX7_triangles_94 : decode cX7_triangles 94 = .ok (.invokestatic 231, 3) := by decide +kernel
theorem dX7_triangles_97 : decode cX7_triangles 97 = .ok (.iconst 1, 1) := by decide +kernel
theorem dX7_triangles_98 : decode cX7_triangles 98 = .ok (.if_icmp .ne 22, 3) := by decide +kernel
theorem dX7_triangles_101 : decode cX7_triangles 101 = .ok (.aload_n 0, 1) := by decide +kernel
theorem dX7_triangles_102 : decode cX7_triangles 102 = .ok (.iload_n 1, 1) := by decide +kernel
theorem dX7_triangles_103 : decode cX7_triangles 103 = .ok (.iload 5, 2) := by decide +kernel
theorem dX7_triangles_105 : decode cX7_triangles 105 = .ok (.invokevirtual 227, 3) := by decide +kernel
theorem dX7_triangles_108 : decode cX7_triangles 108 = .ok (.iload_n 3, 1) := by decide +kernel
theorem dX7_triangles_109 : decode cX7_triangles 109 = .ok (.invokestatic 231, 3) := by decide +kernel
theorem dX7_triangles_112 : decode cX7_triangles 112 = .ok (.iconst 1, 1) := by decide +kernel
theorem dX7_triangles_113 : decode cX7_triangles 113 = .ok (.if_icmp .ne 7, 3) := by decide +kernel
theorem dX7_triangles_116 : decode cX7_triangles 116 = .ok (.iconst 1, 1) := by decide +kernel
theorem dX7_triangles_117 : decode cX7_triangles 117 = .ok (.goto 4, 3) := by decide +kernel
theorem dX7_triangles_120 : decode cX7_triangles 120 = .ok (.iconst 0, 1) := by decide +kernel
theorem dX7_triangles_121 : decode cX7_triangles 121 = .ok (.iadd, 1) := by decide +kernel
theorem dX7_triangles_122 : decode cX7_triangles 122 = .ok (.istore_n 2, 1) := by decide +kernel
theorem dX7_triangles_123 : decode cX7_triangles 123 = .ok (.iinc 5 1, 3) := by decide +kernel
theorem dX7_triangles_126 : decode cX7_triangles 126 = .ok (.goto (-85), 3) := by decide +kernel
theorem dX7_triangles_129 : decode cX7_triangles 129 = .ok (.iinc 4 1, 3) := by decide +kernel
theorem dX7_triangles_132 : decode cX7_triangles 132 = .ok (.goto (-103), 3) := by decide +kernel
theorem dX7_triangles_135 : decode cX7_triangles 135 = .ok (.iinc 3 1, 3) := by decide +kernel
theorem dX7_triangles_138 : decode cX7_triangles 138 = .ok (.goto (-120), 3) := by decide +kernel
theorem dX7_triangles_141 : decode cX7_triangles 141 = .ok (.iload_n 2, 1) := by decide +kernel
theorem dX7_triangles_142 : decode cX7_triangles 142 = .ok (.ireturn, 1) := by decide +kernel
theorem dX7_changes_0 : decode cX7_changes 0 = .ok (.aload_n 0, 1) := by decide +kernel
theorem dX7_changes_1 : decode cX7_changes 1 = .ok (.getfield 34, 3) := by decide +kernel
theorem dX7_changes_4 : decode cX7_changes 4 = .ok (.iload_n 1, 1) := by decide +kernel
theorem dX7_changes_5 : decode cX7_changes 5 = .ok (.laload, 1) := by decide +kernel
theorem dX7_changes_6 : decode cX7_changes 6 = .ok (.lstore_n 3, 1) := by decide +kernel
theorem dX7_changes_7 : decode cX7_changes 7 = .ok (.aload_n 0, 1) := by decide +kernel
theorem dX7_changes_8 : decode cX7_changes 8 = .ok (.getfield 47, 3) := by decide +kernel
theorem dX7_changes_11 : decode cX7_changes 11 = .ok (.iload_n 1, 1) := by decide +kernel
theorem dX7_changes_12 : decode cX7_changes 12 = .ok (.laload, 1) := by decide +kernel
theorem dX7_changes_13 : decode cX7_changes 13 = .ok (.lstore 5, 2) := by decide +kernel
theorem dX7_changes_15 : decode cX7_changes 15 = .ok (.aload_n 0, 1) := by decide +kernel
theorem dX7_changes_16 : decode cX7_changes 16 = .ok (.getfield 34, 3) := by decide +kernel
theorem dX7_changes_19 : decode cX7_changes 19 = .ok (.iload_n 1, 1) := by decide +kernel
theorem dX7_changes_20 : decode cX7_changes 20 = .ok (.aload_n 0, 1) := by decide +kernel
theorem dX7_changes_21 : decode cX7_changes 21 = .ok (.getfield 34, 3) := by decide +kernel
theorem dX7_changes_24 : decode cX7_changes 24 = .ok (.iload_n 2, 1) := by decide +kernel
theorem dX7_changes_25 : decode cX7_changes 25 = .ok (.laload, 1) := by decide +kernel
theorem dX7_changes_26 : decode cX7_changes 26 = .ok (.lastore, 1) := by decide +kernel
theorem dX7_changes_27 : decode cX7_changes 27 = .ok (.aload_n 0, 1) := by decide +kernel
theorem dX7_changes_28 : decode cX7_changes 28 = .ok (.getfield 47, 3) := by decide +kernel
theorem dX7_changes_31 : decode cX7_changes 31 = .ok (.iload_n 1, 1) := by decide +kernel
theorem dX7_changes_32 : decode cX7_changes 32 = .ok (.aload_n 0, 1) := by decide +kernel
theorem dX7_changes_33 : decode cX7_changes 33 = .ok (.getfield 47, 3) := by decide +kernel
theorem dX7_changes_36 : decode cX7_changes 36 = .ok (.iload_n 2, 1) := by decide +kernel
theorem dX7_changes_37 : decode cX7_changes 37 = .ok (.laload, 1) := by decide +kernel
theorem dX7_changes_38 : decode cX7_changes 38 = .ok (.lastore, 1) := by decide +kernel
theorem dX7_changes_39 : decode cX7_changes 39 = .ok (.aload_n 0, 1) := by decide +kernel
theorem dX7_changes_40 : decode cX7_changes 40 = .ok (.getfield 34, 3) := by decide +kernel
theorem dX7_changes_43 : decode cX7_changes 43 = .ok (.iload_n 2, 1) := by decide +kernel
theorem dX7_changes_44 : decode cX7_changes 44 = .ok (.lload_n 3, 1) := by decide +kernel
theorem dX7_changes_45 : decode cX7_changes 45 = .ok (.lastore, 1) := by decide +kernel
theorem dX7_changes_46 : decode cX7_changes 46 = .ok (.aload_n 0, 1) := by decide +kernel
theorem dX7_changes_47 : decode cX7_changes 47 = .ok (.getfield 47, 3) := by decide +kernel
theorem dX7_changes_50 : decode cX7_changes 50 = .ok (.iload_n 2, 1) := by decide +kernel
theorem dX7_changes_51 : decode cX7_changes 51 = .ok (.lload 5, 2) := by decide +kernel
theorem dX7_changes_53 : decode cX7_changes 53 = .ok (.lastore, 1) := by decide +kernel
theorem dX7_changes_54 : decode cX7_changes 54 = .ok (.return_, 1) := by decide +kernel
theorem dX7_reduces_0 : decode cX7_reduces 0 = .ok (.aload_n 0, 1) := by decide +kernel
theorem dX7_reduces_1 : decode cX7_reduces 1 = .ok (.iload_n 1, 1) := by decide +kernel
theorem dX7_reduces_2 : decode cX7_reduces 2 = .ok (.aload_n 0, 1) := by decide +kernel
theorem dX7_reduces_3 : decode cX7_reduces 3 = .ok (.getfield 34, 3) := by decide +kernel
theorem dX7_reduces_6 : decode cX7_reduces 6 = .ok (.invokevirtual 252, 3) := by decide +kernel
theorem dX7_reduces_9 : decode cX7_reduces 9 = .ok (.aload_n 0, 1) := by decide +kernel
theorem dX7_reduces_10 : decode cX7_reduces 10 = .ok (.iconst 0, 1) := by decide +kernel
theorem dX7_reduces_11 : decode cX7_reduces 11 = .ok (.putfield 297, 3) := by decide +kernel
theorem dX7_reduces_14 : decode cX7_reduces 14 = .ok (.iconst 0, 1) := by decide +kernel
theorem dX7_reduces_15 : decode cX7_reduces 15 = .ok (.istore_n 2, 1) := by decide +kernel
theorem dX7_reduces_16 : decode cX7_reduces 16 = .ok (.iload_n 2, 1) := by decide +kernel
theorem dX7_reduces_17 : decode cX7_reduces 17 = .ok (.aload_n 0, 1) := by decide +kernel
theorem dX7_reduces_18 : decode cX7_reduces 18 = .ok (.invokevirtual 71, 3) := by decide +kernel
theorem dX7_reduces_21 : decode cX7_reduces 21 = .ok (.if_icmp .ge 161, 3) := by decide +kernel
theorem dX7_reduces_24 : decode cX7_reduces 24 = .ok (.aload_n 0, 1) := by decide +kernel
theorem dX7_reduces_25 : decode cX7_reduces 25 = .ok (.getfield 297, 3) := by decide +kernel
theorem dX7_reduces_28 : decode cX7_reduces 28 = .ok (.istore_n 3, 1) := by decide +kernel
theorem dX7_reduces_29 : decode cX7_reduces 29 = .ok (.iload_n 3, 1) := by decide +kernel
theorem dX7_reduces_30 : decode cX7_reduces 30 = .ok (.aload_n 0, 1) := by decide +kernel
theorem dX7_reduces_31 : decode cX7_reduces 31 = .ok (.invokevirtual 71, 3) := by decide +kernel
theorem dX7_reduces_34 : decode cX7_reduces 34 = .ok (.if_icmp .ge 22, 3) := by decide +kernel
theorem dX7_reduces_37 : decode cX7_reduces 37 = .ok (.aload_n 0, 1) := by decide +kernel
theorem dX7_reduces_38 : decode cX7_reduces 38 = .ok (.getfield 34, 3) := by decide +kernel
theorem dX7_reduces_41 : decode cX7_reduces 41 = .ok (.iload_n 3, 1) := by decide +kernel
theorem dX7_reduces_42 : decode cX7_reduces 42 = .ok (.laload, 1) := by decide +kernel
theorem dX7_reduces_43 : decode cX7_reduces 43 = .ok (.iload_n 2, 1) := by decide +kernel
theorem dX7_reduces_44 : decode cX7_reduces 44 = .ok (.invokestatic 231, 3) := by decide +kernel
theorem dX7_reduces_47 : decode cX7_reduces 47 = .ok (.ifCond .ne 9, 3) := by decide +kernel
theorem dX7_reduces_50 : decode cX7_reduces 50 = .ok (.iinc 3 1, 3) := by decide +kernel
theorem dX7_reduces_53 : decode cX7_reduces 53 = .ok (.goto (-24), 3) := by decide +kernel
theorem dX7_reduces_56 : decode cX7_reduces 56 = .ok (.iload_n 3, 1) := by decide +kernel
theorem dX7_reduces_57 : decode cX7_reduces 57 = .ok (.aload_n 0, 1) := by decide +kernel
theorem dX7_reduces_58 : decode cX7_reduces 58 = .ok (.invokevirtual 71, 3) := by decide +kernel
theorem dX7_reduces_61 : decode cX7_reduces 61 = .ok (.if_icmp .ne 6, 3) := by decide +kernel
theorem dX7_reduces_64 : decode cX7_reduces 64 = .ok (.goto 112, 3) := by decide +kernel
theorem dX7_reduces_67 : decode cX7_reduces 67 = .ok (.aload_n 0, 1) := by decide +kernel
theorem dX7_reduces_68 : decode cX7_reduces 68 = .ok (.aload_n 0, 1) := by decide +kernel
theorem dX7_reduces_69 : decode cX7_reduces 69 = .ok (.getfield 297, 3) := by decide +kernel
theorem dX7_reduces_72 : decode cX7_reduces 72 = .ok (.iload_n 3, 1) := by decide +kernel
theorem dX7_reduces_73 : decode cX7_reduces 73 = .ok (.invokevirtual 300, 3) := by decide +kernel
theorem dX7_reduces_76 : decode cX7_reduces 76 = .ok (.iconst 0, 1) := by decide +kernel
theorem dX7_reduces_77 : decode cX7_reduces 77 = .ok (.istore 4, 2) := by decide +kernel
theorem dX7_reduces_79 : decode cX7_reduces 79 = .ok (.iload 4, 2) := by decide +kernel
theorem dX7_reduces_81 : decode cX7_reduces 81 = .ok (.aload_n 0, 1) := by decide +kernel
theorem dX7_reduces_82 : decode cX7_reduces 82 = .ok (.invokevirtual 71, 3) := by decide +kernel
theorem dX7_reduces_85 : decode cX7_reduces 85 = .ok (.if_icmp .ge 71, 3) := by decide +kernel
theorem dX7_reduces_88 : decode cX7_reduces 88 = .ok (.iload 4, 2) := by decide +kernel
theorem dX7_reduces_90 : decode cX7_reduces 90 = .ok (.aload_n 0, 1) := by decide +kernel
theorem dX7_reduces_91 : decode cX7_reduces 91 = .ok (.getfield 297, 3) := by decide +kernel
theorem dX7_reduces_94 : decode cX7_reduces 94 = .ok (.if_icmp .eq 56, 3) := by decide +kernel
theorem dX7_reduces_97 : decode cX7_reduces 97 = .ok (.aload_n 0, 1) := by decide +kernel
theorem dX7_reduces_98 : decode cX7_reduces 98 = .ok (.getfield 34, 3) := by decide +kernel
theorem dX7_reduces_101 : decode cX7_reduces 101 = .ok (.iload 4, 2) := by decide +kernel
theorem dX7_reduces_103 : decode cX7_reduces 103 = .ok (.laload, 1) := by decide +kernel
theorem dX7_reduces_104 : decode cX7_reduces 104 = .ok (.iload_n 2, 1) := by decide +kernel
theorem dX7_reduces_105 : decode cX7_reduces 105 = .ok (.invokestatic 231, 3) := by decide +kernel
theorem dX7_reduces_108 : decode cX7_reduces 108 = .ok (.iconst 1, 1) := by decide +kernel
theorem dX7_reduces_109 : decode cX7_reduces 109 = .ok (.if_icmp .ne 41, 3) := by decide +kernel
theorem dX7_reduces_112 : decode cX7_reduces 112 = .ok (.aload_n 0, 1) := by decide +kernel
theorem dX7_reduces_113 : decode cX7_reduces 113 = .ok (.getfield 34, 3) := by decide +kernel
theorem dX7_reduces_116 : decode cX7_reduces 116 = .ok (.iload 4, 2) := by decide +kernel
theorem dX7_reduces_118 : decode cX7_reduces 118 = .ok (.dup2, 1) := by decide +kernel
theorem dX7_reduces_119 : decode cX7_reduces 119 = .ok (.laload, 1) := by decide +kernel
theorem dX7_reduces_120 : decode cX7_reduces 120 = .ok (.aload_n 0, 1) := by decide +kernel
theorem dX7_reduces_121 : decode cX7_reduces 121 = .ok (.getfield 34, 3) := by decide +kernel
theorem dX7_reduces_124 : decode cX7_reduces 124 = .ok (.aload_n 0, 1) := by decide +kernel
theorem dX7_reduces_125 : decode cX7_reduces 125 = .ok (.getfield 297, 3) := by decide +kernel
theorem dX7_reduces_128 : decode cX7_reduces 128 = .ok (.laload, 1) := by decide +kernel
theorem dX7_reduces_129 : decode cX7_reduces 129 = .ok (.lxor, 1) := by decide +kernel
theorem dX7_reduces_130 : decode cX7_reduces 130 = .ok (.lastore, 1) := by decide +kernel
theorem dX7_reduces_131 : decode cX7_reduces 131 = .ok (.aload_n 0, 1) := by decide +kernel
theorem dX7_reduces_132 : decode cX7_reduces 132 = .ok (.getfield 47, 3) := by decide +kernel
theorem dX7_reduces_135 : decode cX7_reduces 135 = .ok (.iload 4, 2) := by decide +kernel
theorem dX7_reduces_137 : decode cX7_reduces 137 = .ok (.dup2, 1) := by decide +kernel
theorem dX7_reduces_138 : decode cX7_reduces 138 = .ok (.laload, 1) := by decide +kernel
theorem dX7_reduces_139 : decode cX7_reduces 139 = .ok (.aload_n 0, 1) := by decide +kernel
theorem dX7_reduces_140 : decode cX7_reduces 140 = .ok (.getfield 47, 3) := by decide +kernel
theorem dX7_reduces_143 : decode cX7_reduces 143 = .ok (.aload_n 0, 1) := by decide +kernel
theorem dX7_reduces_144 : decode cX7_reduces 144 = .ok (.getfield 297, 3) := by decide +kernel
theorem dX7_reduces_147 : decode cX7_reduces 147 = .ok (.laload, 1) := by decide +kernel
theorem dX7_reduces_148 : decode cX7_reduces 148 = .ok (.lxor, 1) := by decide +kernel
theorem dX7_reduces_149 : decode cX7_reduces 149 = .ok (.lastore, 1) := by decide +kernel
theorem dX7_reduces_150 : decode cX7_reduces 150 = .ok (.iinc 4 1, 3) := by decide +kernel
theorem dX7_reduces_153 : decode cX7_reduces 153 = .ok (.goto (-74), 3) := by decide +kernel
theorem dX7_reduces_156 : decode cX7_reduces 156 = .ok (.aload_n 0, 1) := by decide +kernel
theorem dX7_reduces_157 : decode cX7_reduces 157 = .ok (.getfield 50, 3) := by decide +kernel
theorem dX7_reduces_160 : decode cX7_reduces 160 = .ok (.aload_n 0, 1) := by decide +kernel
theorem dX7_reduces_161 : decode cX7_reduces 161 = .ok (.getfield 297, 3) := by decide +kernel
theorem dX7_reduces_164 : decode cX7_reduces 164 = .ok (.iload_n 2, 1) := by decide +kernel
theorem dX7_reduces_165 : decode cX7_reduces 165 = .ok (.iastore, 1) := by decide +kernel
theorem dX7_reduces_166 : decode cX7_reduces 166 = .ok (.aload_n 0, 1) := by decide +kernel
theorem dX7_reduces_167 : decode cX7_reduces 167 = .ok (.dup, 1) := by decide +kernel
theorem dX7_reduces_168 : decode cX7_reduces 168 = .ok (.getfield 297, 3) := by decide +kernel
theorem dX7_reduces_171 : decode cX7_reduces 171 = .ok (.iconst 1, 1) := by decide +kernel
theorem dX7_reduces_172 : decode cX7_reduces 172 = .ok (.iadd, 1) := by decide +kernel
theorem dX7_reduces_173 : decode cX7_reduces 173 = .ok (.putfield 297, 3) := by decide +kernel
theorem dX7_reduces_176 : decode cX7_reduces 176 = .ok (.iinc 2 1, 3) := by decide +kernel
theorem dX7_reduces_179 : decode cX7_reduces 179 = .ok (.goto (-163), 3) := by decide +kernel
theorem dX7_reduces_182 : decode cX7_reduces 182 = .ok (.return_, 1) := by decide +kernel
theorem dX7_fieldRank_0 : decode cX7_fieldRank 0 = .ok (.aload_n 0, 1) := by decide +kernel
theorem dX7_fieldRank_1 : decode cX7_fieldRank 1 = .ok (.iload_n 1, 1) := by decide +kernel
theorem dX7_fieldRank_2 : decode cX7_fieldRank 2 = .ok (.invokestatic 216, 3) := by decide +kernel
theorem dX7_fieldRank_5 : decode cX7_fieldRank 5 = .ok (.iconst 1, 1) := by decide +kernel
theorem dX7_fieldRank_6 : decode cX7_fieldRank 6 = .ok (.invokevirtual 209, 3) := by decide +kernel
theorem dX7_fieldRank_9 : decode cX7_fieldRank 9 = .ok (.ifCond .eq 5, 3) := by decide +kernel
theorem dX7_fieldRank_12 : decode cX7_fieldRank 12 = .ok (.iconst 0, 1) := by decide +kernel
theorem dX7_fieldRank_13 : decode cX7_fieldRank 13 = .ok (.ireturn, 1) := by decide +kernel
theorem dX7_fieldRank_14 : decode cX7_fieldRank 14 = .ok (.aload_n 0, 1) := by decide +kernel
theorem dX7_fieldRank_15 : decode cX7_fieldRank 15 = .ok (.iload_n 1, 1) := by decide +kernel
theorem dX7_fieldRank_16 : decode cX7_fieldRank 16 = .ok (.invokevirtual 303, 3) := by decide +kernel
theorem dX7_fieldRank_19 : decode cX7_fieldRank 19 = .ok (.aload_n 0, 1) := by decide +kernel
theorem dX7_fieldRank_20 : decode cX7_fieldRank 20 = .ok (.getfield 297, 3) := by decide +kernel
theorem dX7_fieldRank_23 : decode cX7_fieldRank 23 = .ok (.ireturn, 1) := by decide +kernel
theorem dX7_solved_0 : decode cX7_solved 0 = .ok (.iconst 0, 1) := by decide +kernel
theorem dX7_solved_1 : decode cX7_solved 1 = .ok (.istore 4, 2) := by decide +kernel
theorem dX7_solved_3 : decode cX7_solved 3 = .ok (.iload 4, 2) := by decide +kernel
theorem dX7_solved_5 : decode cX7_solved 5 = .ok (.aload_n 0, 1) := by decide +kernel
theorem dX7_solved_6 : decode cX7_solved 6 = .ok (.invokevirtual 71, 3) := by decide +kernel
theorem dX7_solved_9 : decode cX7_solved 9 = .ok (.if_icmp .ge 22, 3) := by decide +kernel
theorem dX7_solved_12 : decode cX7_solved 12 = .ok (.aload_n 0, 1) := by decide +kernel
theorem dX7_solved_13 : decode cX7_solved 13 = .ok (.getfield 47, 3) := by decide +kernel
theorem dX7_solved_16 : decode cX7_solved 16 = .ok (.iload 4, 2) := by decide +kernel
theorem dX7_solved_18 : decode cX7_solved 18 = .ok (.lload_n 2, 1) := by decide +kernel
theorem dX7_solved_19 : decode cX7_solved 19 = .ok (.iload 4, 2) := by decide +kernel
theorem dX7_solved_21 : decode cX7_solved 21 = .ok (.lshr, 1) := by decide +kernel
theorem dX7_solved_22 : decode cX7_solved 22 = .ok (.lconst 1, 1) := by decide +kernel
theorem dX7_solved_23 : decode cX7_solved 23 = .ok (.land, 1) := by decide +kernel
theorem dX7_solved_24 : decode cX7_solved 24 = .ok (.lastore, 1) := by decide +kernel
theorem dX7_solved_25 : decode cX7_solved 25 = .ok (.iinc 4 1, 3) := by decide +kernel
theorem dX7_solved_28 : decode cX7_solved 28 = .ok (.goto (-25), 3) := by decide +kernel
theorem dX7_solved_31 : decode cX7_solved 31 = .ok (.aload_n 0, 1) := by decide +kernel
theorem dX7_solved_32 : decode cX7_solved 32 = .ok (.iload_n 1, 1) := by decide +kernel
theorem dX7_solved_33 : decode cX7_solved 33 = .ok (.invokevirtual 303, 3) := by decide +kernel
theorem dX7_solved_36 : decode cX7_solved 36 = .ok (.lconst 0, 1) := by decide +kernel
theorem dX7_solved_37 : decode cX7_solved 37 = .ok (.lstore 4, 2) := by decide +kernel
theorem dX7_solved_39 : decode cX7_solved 39 = .ok (.iconst 0, 1) := by decide +kernel
theorem dX7_solved_40 : decode cX7_solved 40 = .ok (.istore 6, 2) := by decide +kernel
theorem dX7_solved_42 : decode cX7_solved 42 = .ok (.iload 6, 2) := by decide +kernel
theorem dX7_solved_44 : decode cX7_solved 44 = .ok (.aload_n 0, 1) := by decide +kernel
theorem dX7_solved_45 : decode cX7_solved 45 = .ok (.invokevirtual 71, 3) := by decide +kernel
theorem dX7_solved_48 : decode cX7_solved 48 = .ok (.if_icmp .ge 57, 3) := by decide +kernel
theorem dX7_solved_51 : decode cX7_solved 51 = .ok (.iload 6, 2) := by decide +kernel
theorem dX7_solved_53 : decode cX7_solved 53 = .ok (.aload_n 0, 1) := by decide +kernel
theorem dX7_solved_54 : decode cX7_solved 54 = .ok (.getfield 297, 3) := by decide +kernel
theorem dX7_solved_57 : decode cX7_solved 57 = .ok (.if_icmp .ge 26, 3) := by decide +kernel
theorem dX7_solved_60 : decode cX7_solved 60 = .ok (.lload 4, 2) := by decide +kernel
theorem dX7_solved_62 : decode cX7_solved 62 = .ok (.aload_n 0, 1) := by decide +kernel
theorem dX7_solved_63 : decode cX7_solved 63 = .ok (.getfield 47, 3) := by decide +kernel
theorem dX7_solved_66 : decode cX7_solved 66 = .ok (.iload 6, 2) := by decide +kernel
theorem dX7_solved_68 : decode cX7_solved 68 = .ok (.laload, 1) := by decide +kernel
theorem dX7_solved_69 : decode cX7_solved 69 = .ok (.aload_n 0, 1) := by decide +kernel
theorem dX7_solved_70 : decode cX7_solved 70 = .ok (.getfield 50, 3) := by decide +kernel
theorem dX7_solved_73 : decode cX7_solved 73 = .ok (.iload 6, 2) := by decide +kernel
theorem dX7_solved_75 : decode cX7_solved 75 = .ok (.iaload, 1) := by decide +kernel
theorem dX7_solved_76 : decode cX7_solved 76 = .ok (.lshl, 1) := by decide +kernel
theorem dX7_solved_77 : decode cX7_solved 77 = .ok (.lor, 1) := by decide +kernel
theorem dX7_solved_78 : decode cX7_solved 78 = .ok (.lstore 4, 2) := by decide +kernel
theorem dX7_solved_80 : decode cX7_solved 80 = .ok (.goto 19, 3) := by decide +kernel
theorem dX7_solved_83 : decode cX7_solved 83 = .ok (.aload_n 0, 1) := by decide +kernel
theorem dX7_solved_84 : decode cX7_solved 84 = .ok (.getfield 47, 3) := by decide +kernel
theorem dX7_solved_87 : decode cX7_solved 87 = .ok (.iload 6, 2) := by decide +kernel
theorem dX7_solved_89 : decode cX7_solved 89 = .ok (.laload, 1) := by decide +kernel
theorem dX7_solved_90 : decode cX7_solved 90 = .ok (.lconst 1, 1) := by decide +kernel
theorem dX7_solved_91 : decode cX7_solved 91 = .ok (.lcmp, 1) := by decide +kernel
theorem dX7_solved_92 : decode cX7_solved 92 = .ok (.ifCond .ne 7, 3) := by decide +kernel
theorem dX7_solved_95 : decode cX7_solved 95 = .ok (.ldc2_w 306, 3) := by decide +kernel
theorem dX7_solved_98 : decode cX7_solved 98 = .ok (.lreturn, 1) := by decide +kernel
theorem dX7_solved_99 : decode cX7_solved 99 = .ok (.iinc 6 1, 3) := by decide +kernel
theorem dX7_solved_102 : decode cX7_solved 102 = .ok (.goto (-60), 3) := by decide +kernel
theorem dX7_solved_105 : decode cX7_solved 105 = .ok (.lload 4, 2) := by decide +kernel
theorem dX7_solved_107 : decode cX7_solved 107 = .ok (.lreturn, 1) := by decide +kernel
theorem dX7_solve_0 : decode cX7_solve 0 = .ok (.aload_n 0, 1) := by decide +kernel
theorem dX7_solve_1 : decode cX7_solve 1 = .ok (.iload_n 1, 1) := by decide +kernel
theorem dX7_solve_2 : decode cX7_solve 2 = .ok (.invokestatic 216, 3) := by decide +kernel
theorem dX7_solve_5 : decode cX7_solve 5 = .ok (.iconst 1, 1) := by decide +kernel
theorem dX7_solve_6 : decode cX7_solve 6 = .ok (.invokevirtual 209, 3) := by decide +kernel
theorem dX7_solve_9 : decode cX7_solve 9 = .ok (.ifCond .eq 7, 3) := by decide +kernel
theorem dX7_solve_12 : decode cX7_solve 12 = .ok (.lconst 0, 1) := by decide +kernel
theorem dX7_solve_13 : decode cX7_solve 13 = .ok (.goto 9, 3) := by decide +kernel
theorem dX7_solve_16 : decode cX7_solve 16 = .ok (.aload_n 0, 1) := by decide +kernel
theorem dX7_solve_17 : decode cX7_solve 17 = .ok (.iload_n 1, 1) := by decide +kernel
theorem dX7_solve_18 : decode cX7_solve 18 = .ok (.lload_n 2, 1) := by decide +kernel
theorem dX7_solve_19 : decode cX7_solve 19 = .ok (.invokevirtual 308, 3) := by decide +kernel
theorem dX7_solve_22 : decode cX7_solve 22 = .ok (.lreturn, 1) := by decide +kernel
theorem dX7_freedom_0 : decode cX7_freedom 0 = .ok (.aload_n 0, 1) := by decide +kernel
theorem dX7_freedom_1 : decode cX7_freedom 1 = .ok (.iload_n 1, 1) := by decide +kernel
theorem dX7_freedom_2 : decode cX7_freedom 2 = .ok (.invokestatic 216, 3) := by decide +kernel
theorem dX7_freedom_5 : decode cX7_freedom 5 = .ok (.iconst 1, 1) := by decide +kernel
theorem dX7_freedom_6 : decode cX7_freedom 6 = .ok (.invokevirtual 209, 3) := by decide +kernel
theorem dX7_freedom_9 : decode cX7_freedom 9 = .ok (.ifCond .eq 5, 3) := by decide +kernel
theorem dX7_freedom_12 : decode cX7_freedom 12 = .ok (.iconst 0, 1) := by decide +kernel
theorem dX7_freedom_13 : decode cX7_freedom 13 = .ok (.ireturn, 1) := by decide +kernel
theorem dX7_freedom_14 : decode cX7_freedom 14 = .ok (.aload_n 0, 1) := by decide +kernel
theorem dX7_freedom_15 : decode cX7_freedom 15 = .ok (.iload_n 1, 1) := by decide +kernel
theorem dX7_freedom_16 : decode cX7_freedom 16 = .ok (.lload_n 2, 1) := by decide +kernel
theorem dX7_freedom_17 : decode cX7_freedom 17 = .ok (.invokevirtual 308, 3) := by decide +kernel
theorem dX7_freedom_20 : decode cX7_freedom 20 = .ok (.ldc2_w 306, 3) := by decide +kernel
theorem dX7_freedom_23 : decode cX7_freedom 23 = .ok (.lcmp, 1) := by decide +kernel
theorem dX7_freedom_24 : decode cX7_freedom 24 = .ok (.ifCond .ne 7, 3) := by decide +kernel
theorem dX7_freedom_27 : decode cX7_freedom 27 = .ok (.iconst (-1), 1) := by decide +kernel
theorem dX7_freedom_28 : decode cX7_freedom 28 = .ok (.goto 12, 3) := by decide +kernel
theorem dX7_freedom_31 : decode cX7_freedom 31 = .ok (.aload_n 0, 1) := by decide +kernel
theorem dX7_freedom_32 : decode cX7_freedom 32 = .ok (.invokevirtual 71, 3) := by decide +kernel
theorem dX7_freedom_35 : decode cX7_freedom 35 = .ok (.aload_n 0, 1) := by decide +kernel
theorem dX7_freedom_36 : decode cX7_freedom 36 = .ok (.getfield 297, 3) := by decide +kernel
theorem dX7_freedom_39 : decode cX7_freedom 39 = .ok (.isub, 1) := by decide +kernel
theorem dX7_freedom_40 : decode cX7_freedom 40 = .ok (.ireturn, 1) := by decide +kernel
theorem dX7_pivot_0 : decode cX7_pivot 0 = .ok (.aload_n 0, 1) := by decide +kernel
theorem dX7_pivot_1 : decode cX7_pivot 1 = .ok (.iload_n 1, 1) := by decide +kernel
theorem dX7_pivot_2 : decode cX7_pivot 2 = .ok (.invokestatic 216, 3) := by decide +kernel
theorem dX7_pivot_5 : decode cX7_pivot 5 = .ok (.iconst 1, 1) := by decide +kernel
theorem dX7_pivot_6 : decode cX7_pivot 6 = .ok (.invokevirtual 209, 3) := by decide +kernel
theorem dX7_pivot_9 : decode cX7_pivot 9 = .ok (.ifCond .eq 5, 3) := by decide +kernel
theorem dX7_pivot_12 : decode cX7_pivot 12 = .ok (.iconst 0, 1) := by decide +kernel
theorem dX7_pivot_13 : decode cX7_pivot 13 = .ok (.ireturn, 1) := by decide +kernel
theorem dX7_pivot_14 : decode cX7_pivot 14 = .ok (.aload_n 0, 1) := by decide +kernel
theorem dX7_pivot_15 : decode cX7_pivot 15 = .ok (.iload_n 1, 1) := by decide +kernel
theorem dX7_pivot_16 : decode cX7_pivot 16 = .ok (.invokevirtual 303, 3) := by decide +kernel
theorem dX7_pivot_19 : decode cX7_pivot 19 = .ok (.iload_n 2, 1) := by decide +kernel
theorem dX7_pivot_20 : decode cX7_pivot 20 = .ok (.i2l, 1) := by decide +kernel
theorem dX7_pivot_21 : decode cX7_pivot 21 = .ok (.lconst 0, 1) := by decide +kernel
theorem dX7_pivot_22 : decode cX7_pivot 22 = .ok (.aload_n 0, 1) := by decide +kernel
theorem dX7_pivot_23 : decode cX7_pivot 23 = .ok (.getfield 297, 3) := by decide +kernel
theorem dX7_pivot_26 : decode cX7_pivot 26 = .ok (.iconst 1, 1) := by decide +kernel
theorem dX7_pivot_27 : decode cX7_pivot 27 = .ok (.isub, 1) := by decide +kernel
theorem dX7_pivot_28 : decode cX7_pivot 28 = .ok (.i2l, 1) := by decide +kernel
theorem dX7_pivot_29 : decode cX7_pivot 29 = .ok (.invokestatic 67, 3) := by decide +kernel
theorem dX7_pivot_32 : decode cX7_pivot 32 = .ok (.ifCond .eq 12, 3) := by decide +kernel
theorem dX7_pivot_35 : decode cX7_pivot 35 = .ok (.aload_n 0, 1) := by decide +kernel
theorem dX7_pivot_36 : decode cX7_pivot 36 = .ok (.getfield 50, 3) := by decide +kernel
theorem dX7_pivot_39 : decode cX7_pivot 39 = .ok (.iload_n 2, 1) := by decide +kernel
theorem dX7_pivot_40 : decode cX7_pivot 40 = .ok (.iaload, 1) := by decide +kernel
theorem dX7_pivot_41 : decode cX7_pivot 41 = .ok (.goto 4, 3) := by decide +kernel
theorem dX7_pivot_44 : decode cX7_pivot 44 = .ok (.iconst (-1), 1) := by decide +kernel
theorem dX7_pivot_45 : decode cX7_pivot 45 = .ok (.ireturn, 1) := by decide +kernel
theorem dX7_keeps_0 : decode cX7_keeps 0 = .ok (.aload_n 0, 1) := by decide +kernel
theorem dX7_keeps_1 : decode cX7_keeps 1 = .ok (.getfield 201, 3) := by decide +kernel
theorem dX7_keeps_4 : decode cX7_keeps 4 = .ok (.bipush 8, 2) := by decide +kernel
theorem dX7_keeps_6 : decode cX7_keeps 6 = .ok (.if_icmp .ne 44, 3) := by decide +kernel
theorem dX7_keeps_9 : decode cX7_keeps 9 = .ok (.iconst 0, 1) := by decide +kernel
theorem dX7_keeps_10 : decode cX7_keeps 10 = .ok (.istore_n 1, 1) := by decide +kernel
theorem dX7_keeps_11 : decode cX7_keeps 11 = .ok (.iload_n 1, 1) := by decide +kernel
theorem dX7_keeps_12 : decode cX7_keeps 12 = .ok (.sipush 1540, 3) := by decide +kernel
theorem dX7_keeps_15 : decode cX7_keeps 15 = .ok (.if_icmp .ge 25, 3) := by decide +kernel
theorem dX7_keeps_18 : decode cX7_keeps 18 = .ok (.aload_n 0, 1) := by decide +kernel
theorem dX7_keeps_19 : decode cX7_keeps 19 = .ok (.getfield 16, 3) := by decide +kernel
theorem dX7_keeps_22 : decode cX7_keeps 22 = .ok (.iload_n 1, 1) := by decide +kernel
theorem dX7_keeps_23 : decode cX7_keeps 23 = .ok (.aload_n 0, 1) := by decide +kernel
theorem dX7_keeps_24 : decode cX7_keeps 24 = .ok (.getfield 16, 3) := by decide +kernel
theorem dX7_keeps_27 : decode cX7_keeps 27 = .ok (.iload_n 1, 1) := by decide +kernel
theorem dX7_keeps_28 : decode cX7_keeps 28 = .ok (.sipush 220, 3) := by decide +kernel
theorem dX7_keeps_31 : decode cX7_keeps 31 = .ok (.iadd, 1) := by decide +kernel
theorem dX7_keeps_32 : decode cX7_keeps 32 = .ok (.laload, 1) := by decide +kernel
theorem dX7_keeps_33 : decode cX7_keeps 33 = .ok (.lastore, 1) := by decide +kernel
theorem dX7_keeps_34 : decode cX7_keeps 34 = .ok (.iinc 1 1, 3) := by decide +kernel
theorem dX7_keeps_37 : decode cX7_keeps 37 = .ok (.goto (-26), 3) := by decide +kernel
theorem dX7_keeps_40 : decode cX7_keeps 40 = .ok (.aload_n 0, 1) := by decide +kernel
theorem dX7_keeps_41 : decode cX7_keeps 41 = .ok (.dup, 1) := by decide +kernel
theorem dX7_keeps_42 : decode cX7_keeps 42 = .ok (.getfield 201, 3) := by decide +kernel
theorem dX7_keeps_45 : decode cX7_keeps 45 = .ok (.iconst 1, 1) := by decide +kernel
theorem dX7_keeps_46 : decode cX7_keeps 46 = .ok (.isub, 1) := by decide +kernel
theorem dX7_keeps_47 : decode cX7_keeps 47 = .ok (.putfield 201, 3) := by decide +kernel
theorem dX7_keeps_50 : decode cX7_keeps 50 = .ok (.aload_n 0, 1) := by decide +kernel
theorem dX7_keeps_51 : decode cX7_keeps 51 = .ok (.getfield 9, 3) := by decide +kernel
theorem dX7_keeps_54 : decode cX7_keeps 54 = .ok (.iconst 0, 1) := by decide +kernel
theorem dX7_keeps_55 : decode cX7_keeps 55 = .ok (.aload_n 0, 1) := by decide +kernel
theorem dX7_keeps_56 : decode cX7_keeps 56 = .ok (.getfield 16, 3) := by decide +kernel
theorem dX7_keeps_59 : decode cX7_keeps 59 = .ok (.aload_n 0, 1) := by decide +kernel
theorem dX7_keeps_60 : decode cX7_keeps 60 = .ok (.getfield 201, 3) := by decide +kernel
theorem dX7_keeps_63 : decode cX7_keeps 63 = .ok (.invokestatic 198, 3) := by decide +kernel
theorem dX7_keeps_66 : decode cX7_keeps 66 = .ok (.aload_n 0, 1) := by decide +kernel
theorem dX7_keeps_67 : decode cX7_keeps 67 = .ok (.dup, 1) := by decide +kernel
theorem dX7_keeps_68 : decode cX7_keeps 68 = .ok (.getfield 201, 3) := by decide +kernel
theorem dX7_keeps_71 : decode cX7_keeps 71 = .ok (.iconst 1, 1) := by decide +kernel
theorem dX7_keeps_72 : decode cX7_keeps 72 = .ok (.iadd, 1) := by decide +kernel
theorem dX7_keeps_73 : decode cX7_keeps 73 = .ok (.putfield 201, 3) := by decide +kernel
theorem dX7_keeps_76 : decode cX7_keeps 76 = .ok (.return_, 1) := by decide +kernel
theorem dX7_undo_0 : decode cX7_undo 0 = .ok (.aload_n 0, 1) := by decide +kernel
theorem dX7_undo_1 : decode cX7_undo 1 = .ok (.iconst 0, 1) := by decide +kernel
theorem dX7_undo_2 : decode cX7_undo 2 = .ok (.putfield 60, 3) := by decide +kernel
theorem dX7_undo_5 : decode cX7_undo 5 = .ok (.aload_n 0, 1) := by decide +kernel
theorem dX7_undo_6 : decode cX7_undo 6 = .ok (.getfield 201, 3) := by decide +kernel
theorem dX7_undo_9 : decode cX7_undo 9 = .ok (.ifCond .ne 5, 3) := by decide +kernel
theorem dX7_undo_12 : decode cX7_undo 12 = .ok (.iconst (-1), 1) := by decide +kernel
theorem dX7_undo_13 : decode cX7_undo 13 = .ok (.ireturn, 1) := by decide +kernel
theorem dX7_undo_14 : decode cX7_undo 14 = .ok (.aload_n 0, 1) := by decide +kernel
theorem dX7_undo_15 : decode cX7_undo 15 = .ok (.dup, 1) := by decide +kernel
theorem dX7_undo_16 : decode cX7_undo 16 = .ok (.getfield 201, 3) := by decide +kernel
theorem dX7_undo_19 : decode cX7_undo 19 = .ok (.iconst 1, 1) := by decide +kernel
theorem dX7_undo_20 : decode cX7_undo 20 = .ok (.isub, 1) := by decide +kernel
theorem dX7_undo_21 : decode cX7_undo 21 = .ok (.putfield 201, 3) := by decide +kernel
theorem dX7_undo_24 : decode cX7_undo 24 = .ok (.aload_n 0, 1) := by decide +kernel
theorem dX7_undo_25 : decode cX7_undo 25 = .ok (.getfield 16, 3) := by decide +kernel
theorem dX7_undo_28 : decode cX7_undo 28 = .ok (.aload_n 0, 1) := by decide +kernel
theorem dX7_undo_29 : decode cX7_undo 29 = .ok (.getfield 201, 3) := by decide +kernel
theorem dX7_undo_32 : decode cX7_undo 32 = .ok (.aload_n 0, 1) := by decide +kernel
theorem dX7_undo_33 : decode cX7_undo 33 = .ok (.getfield 9, 3) := by decide +kernel
theorem dX7_undo_36 : decode cX7_undo 36 = .ok (.iconst 0, 1) := by decide +kernel
theorem dX7_undo_37 : decode cX7_undo 37 = .ok (.invokestatic 198, 3) := by decide +kernel
theorem dX7_undo_40 : decode cX7_undo 40 = .ok (.aload_n 0, 1) := by decide +kernel
theorem dX7_undo_41 : decode cX7_undo 41 = .ok (.getfield 201, 3) := by decide +kernel
theorem dX7_undo_44 : decode cX7_undo 44 = .ok (.ireturn, 1) := by decide +kernel
theorem dX7_looks_0 : decode cX7_looks 0 = .ok (.aload_n 0, 1) := by decide +kernel
theorem dX7_looks_1 : decode cX7_looks 1 = .ok (.getfield 9, 3) := by decide +kernel
theorem dX7_looks_4 : decode cX7_looks 4 = .ok (.iconst 4, 1) := by decide +kernel
theorem dX7_looks_5 : decode cX7_looks 5 = .ok (.iload_n 1, 1) := by decide +kernel
theorem dX7_looks_6 : decode cX7_looks 6 = .ok (.iadd, 1) := by decide +kernel
theorem dX7_looks_7 : decode cX7_looks 7 = .ok (.laload, 1) := by decide +kernel
theorem dX7_looks_8 : decode cX7_looks 8 = .ok (.lconst 1, 1) := by decide +kernel
theorem dX7_looks_9 : decode cX7_looks 9 = .ok (.lcmp, 1) := by decide +kernel
theorem dX7_looks_10 : decode cX7_looks 10 = .ok (.ifCond .ne 28, 3) := by decide +kernel
theorem dX7_looks_13 : decode cX7_looks 13 = .ok (.aload_n 0, 1) := by decide +kernel
theorem dX7_looks_14 : decode cX7_looks 14 = .ok (.getfield 9, 3) := by decide +kernel
theorem dX7_looks_17 : decode cX7_looks 17 = .ok (.bipush 10, 2) := by decide +kernel
theorem dX7_looks_19 : decode cX7_looks 19 = .ok (.iload_n 1, 1) := by decide +kernel
theorem dX7_looks_20 : decode cX7_looks 20 = .ok (.iadd, 1) := by decide +kernel
theorem dX7_looks_21 : decode cX7_looks 21 = .ok (.iload_n 2, 1) := by decide +kernel
theorem dX7_looks_22 : decode cX7_looks 22 = .ok (.i2l, 1) := by decide +kernel
theorem dX7_looks_23 : decode cX7_looks 23 = .ok (.lastore, 1) := by decide +kernel
theorem dX7_looks_24 : decode cX7_looks 24 = .ok (.aload_n 0, 1) := by decide +kernel
theorem dX7_looks_25 : decode cX7_looks 25 = .ok (.getfield 9, 3) := by decide +kernel
theorem dX7_looks_28 : decode cX7_looks 28 = .ok (.bipush 16, 2) := by decide +kernel
theorem dX7_looks_30 : decode cX7_looks 30 = .ok (.iload_n 1, 1) := by decide +kernel
theorem dX7_looks_31 : decode cX7_looks 31 = .ok (.iadd, 1) := by decide +kernel
theorem dX7_looks_32 : decode cX7_looks 32 = .ok (.dup2, 1) := by decide +kernel
theorem dX7_looks_33 : decode cX7_looks 33 = .ok (.laload, 1) := by decide +kernel
theorem dX7_looks_34 : decode cX7_looks 34 = .ok (.iload_n 2, 1) := by decide +kernel
theorem dX7_looks_35 : decode cX7_looks 35 = .ok (.i2l, 1) := by decide +kernel
theorem dX7_looks_36 : decode cX7_looks 36 = .ok (.ladd, 1) := by decide +kernel
theorem dX7_looks_37 : decode cX7_looks 37 = .ok (.lastore, 1) := by decide +kernel
theorem dX7_looks_38 : decode cX7_looks 38 = .ok (.return_, 1) := by decide +kernel
theorem dX7_madeAnew_0 : decode cX7_madeAnew 0 = .ok (.aload_n 0, 1) := by decide +kernel
theorem dX7_madeAnew_1 : decode cX7_madeAnew 1 = .ok (.iload_n 1, 1) := by decide +kernel
theorem dX7_madeAnew_2 : decode cX7_madeAnew 2 = .ok (.aload_n 0, 1) := by decide +kernel
theorem dX7_madeAnew_3 : decode cX7_madeAnew 3 = .ok (.invokevirtual 71, 3) := by decide +kernel
theorem dX7_madeAnew_6 : decode cX7_madeAnew 6 = .ok (.invokevirtual 312, 3) := by decide +kernel
theorem dX7_madeAnew_9 : decode cX7_madeAnew 9 = .ok (.aload_n 0, 1) := by decide +kernel
theorem dX7_madeAnew_10 : decode cX7_madeAnew 10 = .ok (.getfield 9, 3) := by decide +kernel
theorem dX7_madeAnew_13 : decode cX7_madeAnew 13 = .ok (.bipush 22, 2) := by decide +kernel
theorem dX7_madeAnew_15 : decode cX7_madeAnew 15 = .ok (.iload_n 1, 1) := by decide +kernel
theorem dX7_madeAnew_16 : decode cX7_madeAnew 16 = .ok (.iadd, 1) := by decide +kernel
theorem dX7_madeAnew_17 : decode cX7_madeAnew 17 = .ok (.dup2, 1) := by decide +kernel
theorem dX7_madeAnew_18 : decode cX7_madeAnew 18 = .ok (.laload, 1) := by decide +kernel
theorem dX7_madeAnew_19 : decode cX7_madeAnew 19 = .ok (.aload_n 0, 1) := by decide +kernel
theorem dX7_madeAnew_20 : decode cX7_madeAnew 20 = .ok (.getfield 9, 3) := by decide +kernel
theorem dX7_madeAnew_23 : decode cX7_madeAnew 23 = .ok (.iconst 4, 1) := by decide +kernel
theorem dX7_madeAnew_24 : decode cX7_madeAnew 24 = .ok (.iload_n 1, 1) := by decide +kernel
theorem dX7_madeAnew_25 : decode cX7_madeAnew 25 = .ok (.iadd, 1) := by decide +kernel
theorem dX7_madeAnew_26 : decode cX7_madeAnew 26 = .ok (.laload, 1) := by decide +kernel
theorem dX7_madeAnew_27 : decode cX7_madeAnew 27 = .ok (.ladd, 1) := by decide +kernel
theorem dX7_madeAnew_28 : decode cX7_madeAnew 28 = .ok (.lastore, 1) := by decide +kernel
theorem dX7_madeAnew_29 : decode cX7_madeAnew 29 = .ok (.return_, 1) := by decide +kernel
theorem dX7_put_0 : decode cX7_put 0 = .ok (.aload_n 0, 1) := by decide +kernel
theorem dX7_put_1 : decode cX7_put 1 = .ok (.aload_n 0, 1) := by decide +kernel
theorem dX7_put_2 : decode cX7_put 2 = .ok (.iload_n 1, 1) := by decide +kernel
theorem dX7_put_3 : decode cX7_put 3 = .ok (.iload_n 2, 1) := by decide +kernel
theorem dX7_put_4 : decode cX7_put 4 = .ok (.invokevirtual 223, 3) := by decide +kernel
theorem dX7_put_7 : decode cX7_put 7 = .ok (.ifCond .eq 15, 3) := by decide +kernel
theorem dX7_put_10 : decode cX7_put 10 = .ok (.aload_n 0, 1) := by decide +kernel
theorem dX7_put_11 : decode cX7_put 11 = .ok (.iload_n 3, 1) := by decide +kernel
theorem dX7_put_12 : decode cX7_put 12 = .ok (.invokevirtual 220, 3) := by decide +kernel
theorem dX7_put_15 : decode cX7_put 15 = .ok (.ifCond .eq 7, 3) := by decide +kernel
theorem dX7_put_18 : decode cX7_put 18 = .ok (.iconst 1, 1) := by decide +kernel
theorem dX7_put_19 : decode cX7_put 19 = .ok (.goto 4, 3) := by decide +kernel
theorem dX7_put_22 : decode cX7_put 22 = .ok (.iconst 0, 1) := by decide +kernel
theorem dX7_put_23 : decode cX7_put 23 = .ok (.iconst 1, 1) := by decide +kernel
theorem dX7_put_24 : decode cX7_put 24 = .ok (.invokevirtual 209, 3) := by decide +kernel
theorem dX7_put_27 : decode cX7_put 27 = .ok (.ifCond .eq 5, 3) := by decide +kernel
theorem dX7_put_30 : decode cX7_put 30 = .ok (.iconst 0, 1) := by decide +kernel
theorem dX7_put_31 : decode cX7_put 31 = .ok (.ireturn, 1) := by decide +kernel
theorem dX7_put_32 : decode cX7_put 32 = .ok (.aload_n 0, 1) := by decide +kernel
theorem dX7_put_33 : decode cX7_put 33 = .ok (.invokevirtual 315, 3) := by decide +kernel
theorem dX7_put_36 : decode cX7_put 36 = .ok (.aload_n 0, 1) := by decide +kernel
theorem dX7_put_37 : decode cX7_put 37 = .ok (.iload_n 1, 1) := by decide +kernel
theorem dX7_put_38 : decode cX7_put 38 = .ok (.iload_n 2, 1) := by decide +kernel
theorem dX7_put_39 : decode cX7_put 39 = .ok (.invokevirtual 227, 3) := by decide +kernel
theorem dX7_put_42 : decode cX7_put 42 = .ok (.iload_n 3, 1) := by decide +kernel
theorem dX7_put_43 : decode cX7_put 43 = .ok (.invokestatic 231, 3) := by decide +kernel
theorem dX7_put_46 : decode cX7_put 46 = .ok (.iload 4, 2) := by decide +kernel
theorem dX7_put_48 : decode cX7_put 48 = .ok (.ifCond .eq 7, 3) := by decide +kernel
theorem dX7_put_51 : decode cX7_put 51 = .ok (.iconst 1, 1) := by decide +kernel
theorem dX7_put_52 : decode cX7_put 52 = .ok (.goto 4, 3) := by decide +kernel
theorem dX7_put_55 : decode cX7_put 55 = .ok (.iconst 0, 1) := by decide +kernel
theorem dX7_put_56 : decode cX7_put 56 = .ok (.if_icmp .ne 11, 3) := by decide +kernel
theorem dX7_put_59 : decode cX7_put 59 = .ok (.aload_n 0, 1) := by decide +kernel
theorem dX7_put_60 : decode cX7_put 60 = .ok (.iload_n 1, 1) := by decide +kernel
theorem dX7_put_61 : decode cX7_put 61 = .ok (.iconst 0, 1) := by decide +kernel
theorem dX7_put_62 : decode cX7_put 62 = .ok (.invokevirtual 312, 3) := by decide +kernel
theorem dX7_put_65 : decode cX7_put 65 = .ok (.iconst 0, 1) := by decide +kernel
theorem dX7_put_66 : decode cX7_put 66 = .ok (.ireturn, 1) := by decide +kernel
theorem dX7_put_67 : decode cX7_put 67 = .ok (.aload_n 0, 1) := by decide +kernel
theorem dX7_put_68 : decode cX7_put 68 = .ok (.iload_n 1, 1) := by decide +kernel
theorem dX7_put_69 : decode cX7_put 69 = .ok (.invokevirtual 260, 3) := by decide +kernel
theorem dX7_put_72 : decode cX7_put 72 = .ok (.iconst 0, 1) := by decide +kernel
theorem dX7_put_73 : decode cX7_put 73 = .ok (.istore 5, 2) := by decide +kernel
theorem dX7_put_75 : decode cX7_put 75 = .ok (.iconst 0, 1) := by decide +kernel
theorem dX7_put_76 : decode cX7_put 76 = .ok (.istore 6, 2) := by decide +kernel
theorem dX7_put_78 : decode cX7_put 78 = .ok (.iload 6, 2) := by decide +kernel
theorem dX7_put_80 : decode cX7_put 80 = .ok (.aload_n 0, 1) := by decide +kernel
theorem dX7_put_81 : decode cX7_put 81 = .ok (.invokevirtual 71, 3) := by decide +kernel
theorem dX7_put_84 : decode cX7_put 84 = .ok (.if_icmp .ge 54, 3) := by decide +kernel
theorem dX7_put_87 : decode cX7_put 87 = .ok (.aload_n 0, 1) := by decide +kernel
theorem dX7_put_88 : decode cX7_put 88 = .ok (.getfield 37, 3) := by decide +kernel
theorem dX7_put_91 : decode cX7_put 91 = .ok (.iload 6, 2) := by decide +kernel
theorem dX7_put_93 : decode cX7_put 93 = .ok (.aload_n 0, 1) := by decide +kernel
theorem dX7_put_94 : decode cX7_put 94 = .ok (.getfield 34, 3) := by decide +kernel
theorem dX7_put_97 : decode cX7_put 97 = .ok (.iload 6, 2) := by decide +kernel
theorem dX7_put_99 : decode cX7_put 99 = .ok (.laload, 1) := by decide +kernel
theorem dX7_put_100 : decode cX7_put 100 = .ok (.lastore, 1) := by decide +kernel
theorem dX7_put_101 : decode cX7_put 101 = .ok (.iload 5, 2) := by decide +kernel
theorem dX7_put_103 : decode cX7_put 103 = .ok (.iload 6, 2) := by decide +kernel
theorem dX7_put_105 : decode cX7_put 105 = .ok (.iload_n 2, 1) := by decide +kernel
theorem dX7_put_106 : decode cX7_put 106 = .ok (.if_icmp .eq 18, 3) := by decide +kernel
theorem dX7_put_109 : decode cX7_put 109 = .ok (.aload_n 0, 1) := by decide +kernel
theorem dX7_put_110 : decode cX7_put 110 = .ok (.getfield 34, 3) := by decide +kernel
theorem dX7_put_113 : decode cX7_put 113 = .ok (.iload 6, 2) := by decide +kernel
theorem dX7_put_115 : decode cX7_put 115 = .ok (.laload, 1) := by decide +kernel
theorem dX7_put_116 : decode cX7_put 116 = .ok (.iload_n 2, 1) := by decide +kernel
theorem dX7_put_117 : decode cX7_put 117 = .ok (.invokestatic 231, 3) := by decide +kernel
theorem dX7_put_120 : decode cX7_put 120 = .ok (.iconst 1, 1) := by decide +kernel
theorem dX7_put_121 : decode cX7_put 121 = .ok (.if_icmp .ne 7, 3) := by decide +kernel
theorem dX7_put_124 : decode cX7_put 124 = .ok (.iconst 1, 1) := by decide +kernel
theorem dX7_put_125 : decode cX7_put 125 = .ok (.goto 4, 3) := by decide +kernel
theorem dX7_put_128 : decode cX7_put 128 = .ok (.iconst 0, 1) := by decide +kernel
theorem dX7_put_129 : decode cX7_put 129 = .ok (.iadd, 1) := by decide +kernel
theorem dX7_put_130 : decode cX7_put 130 = .ok (.istore 5, 2) := by decide +kernel
theorem dX7_put_132 : decode cX7_put 132 = .ok (.iinc 6 1, 3) := by decide +kernel
theorem dX7_put_135 : decode cX7_put 135 = .ok (.goto (-57), 3) := by decide +kernel
theorem dX7_put_138 : decode cX7_put 138 = .ok (.aload_n 0, 1) := by decide +kernel
theorem dX7_put_139 : decode cX7_put 139 = .ok (.iload_n 1, 1) := by decide +kernel
theorem dX7_put_140 : decode cX7_put 140 = .ok (.iload 5, 2) := by decide +kernel
theorem dX7_put_142 : decode cX7_put 142 = .ok (.invokevirtual 312, 3) := by decide +kernel
theorem dX7_put_145 : decode cX7_put 145 = .ok (.aload_n 0, 1) := by decide +kernel
theorem dX7_put_146 : decode cX7_put 146 = .ok (.iload_n 1, 1) := by decide +kernel
theorem dX7_put_147 : decode cX7_put 147 = .ok (.iload_n 2, 1) := by decide +kernel
theorem dX7_put_148 : decode cX7_put 148 = .ok (.aload_n 0, 1) := by decide +kernel
theorem dX7_put_149 : decode cX7_put 149 = .ok (.iload_n 1, 1) := by decide +kernel
theorem dX7_put_150 : decode cX7_put 150 = .ok (.iload_n 2, 1) := by decide +kernel
theorem dX7_put_151 : decode cX7_put 151 = .ok (.invokevirtual 227, 3) := by decide +kernel
theorem dX7_put_154 : decode cX7_put 154 = .ok (.lconst 1, 1) := by decide +kernel
theorem dX7_put_155 : decode cX7_put 155 = .ok (.iload_n 3, 1) := by decide +kernel
theorem dX7_put_156 : decode cX7_put 156 = .ok (.lshl, 1) := by decide +kernel
theorem dX7_put_157 : decode cX7_put 157 = .ok (.lxor, 1) := by decide +kernel
theorem dX7_put_158 : decode cX7_put 158 = .ok (.invokevirtual 318, 3) := by decide +kernel
theorem dX7_put_161 : decode cX7_put 161 = .ok (.aload_n 0, 1) := by decide +kernel
theorem dX7_put_162 : decode cX7_put 162 = .ok (.iload_n 1, 1) := by decide +kernel
theorem dX7_put_163 : decode cX7_put 163 = .ok (.invokevirtual 260, 3) := by decide +kernel
theorem dX7_put_166 : decode cX7_put 166 = .ok (.iconst 0, 1) := by decide +kernel
theorem dX7_put_167 : decode cX7_put 167 = .ok (.istore 6, 2) := by decide +kernel
theorem dX7_put_169 : decode cX7_put 169 = .ok (.iconst 0, 1) := by decide +kernel
theorem dX7_put_170 : decode cX7_put 170 = .ok (.istore 7, 2) := by decide +kernel
theorem dX7_put_172 : decode cX7_put 172 = .ok (.iload 7, 2) := by decide +kernel
theorem dX7_put_174 : decode cX7_put 174 = .ok (.aload_n 0, 1) := by decide +kernel
theorem dX7_put_175 : decode cX7_put 175 = .ok (.invokevirtual 71, 3) := by decide +kernel
theorem dX7_put_178 : decode cX7_put 178 = .ok (.if_icmp .ge 32, 3) := by decide +kernel
theorem dX7_put_181 : decode cX7_put 181 = .ok (.iload 6, 2) := by decide +kernel
theorem dX7_put_183 : decode cX7_put 183 = .ok (.aload_n 0, 1) := by decide +kernel
theorem dX7_put_184 : decode cX7_put 184 = .ok (.getfield 34, 3) := by decide +kernel
theorem dX7_put_187 : decode cX7_put 187 = .ok (.iload 7, 2) := by decide +kernel
theorem dX7_put_189 : decode cX7_put 189 = .ok (.laload, 1) := by decide +kernel
theorem dX7_put_190 : decode cX7_put 190 = .ok (.aload_n 0, 1) := by decide +kernel
theorem dX7_put_191 : decode cX7_put 191 = .ok (.getfield 37, 3) := by decide +kernel
theorem dX7_put_194 : decode cX7_put 194 = .ok (.iload 7, 2) := by decide +kernel
theorem dX7_put_196 : decode cX7_put 196 = .ok (.laload, 1) := by decide +kernel
theorem dX7_put_197 : decode cX7_put 197 = .ok (.lxor, 1) := by decide +kernel
theorem dX7_put_198 : decode cX7_put 198 = .ok (.invokestatic 234, 3) := by decide +kernel
theorem dX7_put_201 : decode cX7_put 201 = .ok (.iadd, 1) := by decide +kernel
theorem dX7_put_202 : decode cX7_put 202 = .ok (.istore 6, 2) := by decide +kernel
theorem dX7_put_204 : decode cX7_put 204 = .ok (.iinc 7 1, 3) := by decide +kernel
theorem dX7_put_207 : decode cX7_put 207 = .ok (.goto (-35), 3) := by decide +kernel
theorem dX7_put_210 : decode cX7_put 210 = .ok (.iload 6, 2) := by decide +kernel
theorem dX7_put_212 : decode cX7_put 212 = .ok (.ireturn, 1) := by decide +kernel
theorem dX7_setRow_0 : decode cX7_setRow 0 = .ok (.aload_n 0, 1) := by decide +kernel
theorem dX7_setRow_1 : decode cX7_setRow 1 = .ok (.aload_n 0, 1) := by decide +kernel
theorem dX7_setRow_2 : decode cX7_setRow 2 = .ok (.iload_n 1, 1) := by decide +kernel
theorem dX7_setRow_3 : decode cX7_setRow 3 = .ok (.iload_n 2, 1) := by decide +kernel
theorem dX7_setRow_4 : decode cX7_setRow 4 = .ok (.invokevirtual 223, 3) := by decide +kernel
theorem dX7_setRow_7 : decode cX7_setRow 7 = .ok (.iconst 1, 1) := by decide +kernel
theorem dX7_setRow_8 : decode cX7_setRow 8 = .ok (.invokevirtual 209, 3) := by decide +kernel
theorem dX7_setRow_11 : decode cX7_setRow 11 = .ok (.ifCond .eq 5, 3) := by decide +kernel
theorem dX7_setRow_14 : decode cX7_setRow 14 = .ok (.iconst 0, 1) := by decide +kernel
theorem dX7_setRow_15 : decode cX7_setRow 15 = .ok (.ireturn, 1) := by decide +kernel
theorem dX7_setRow_16 : decode cX7_setRow 16 = .ok (.aload_n 0, 1) := by decide +kernel
theorem dX7_setRow_17 : decode cX7_setRow 17 = .ok (.invokevirtual 315, 3) := by decide +kernel
theorem dX7_setRow_20 : decode cX7_setRow 20 = .ok (.aload_n 0, 1) := by decide +kernel
theorem dX7_setRow_21 : decode cX7_setRow 21 = .ok (.iload_n 1, 1) := by decide +kernel
theorem dX7_setRow_22 : decode cX7_setRow 22 = .ok (.iload_n 2, 1) := by decide +kernel
theorem dX7_setRow_23 : decode cX7_setRow 23 = .ok (.invokevirtual 227, 3) := by decide +kernel
theorem dX7_setRow_26 : decode cX7_setRow 26 = .ok (.lload_n 3, 1) := by decide +kernel
theorem dX7_setRow_27 : decode cX7_setRow 27 = .ok (.aload_n 0, 1) := by decide +kernel
theorem dX7_setRow_28 : decode cX7_setRow 28 = .ok (.invokevirtual 245, 3) := by decide +kernel
theorem dX7_setRow_31 : decode cX7_setRow 31 = .ok (.land, 1) := by decide +kernel
theorem dX7_setRow_32 : decode cX7_setRow 32 = .ok (.lxor, 1) := by decide +kernel
theorem dX7_setRow_33 : decode cX7_setRow 33 = .ok (.invokestatic 234, 3) := by decide +kernel
theorem dX7_setRow_36 : decode cX7_setRow 36 = .ok (.istore 5, 2) := by decide +kernel
theorem dX7_setRow_38 : decode cX7_setRow 38 = .ok (.aload_n 0, 1) := by decide +kernel
theorem dX7_setRow_39 : decode cX7_setRow 39 = .ok (.iload_n 1, 1) := by decide +kernel
theorem dX7_setRow_40 : decode cX7_setRow 40 = .ok (.iload_n 2, 1) := by decide +kernel
theorem dX7_setRow_41 : decode cX7_setRow 41 = .ok (.lload_n 3, 1) := by decide +kernel
theorem dX7_setRow_42 : decode cX7_setRow 42 = .ok (.aload_n 0, 1) := by decide +kernel
theorem dX7_setRow_43 : decode cX7_setRow 43 = .ok (.invokevirtual 245, 3) := by decide +kernel
theorem dX7_setRow_46 : decode cX7_setRow 46 = .ok (.land, 1) := by decide +kernel
theorem dX7_setRow_47 : decode cX7_setRow 47 = .ok (.invokevirtual 318, 3) := by decide +kernel
theorem dX7_setRow_50 : decode cX7_setRow 50 = .ok (.aload_n 0, 1) := by decide +kernel
theorem dX7_setRow_51 : decode cX7_setRow 51 = .ok (.iload_n 1, 1) := by decide +kernel
theorem dX7_setRow_52 : decode cX7_setRow 52 = .ok (.invokevirtual 204, 3) := by decide +kernel
theorem dX7_setRow_55 : decode cX7_setRow 55 = .ok (.iload 5, 2) := by decide +kernel
theorem dX7_setRow_57 : decode cX7_setRow 57 = .ok (.ireturn, 1) := by decide +kernel
theorem dX7_lays_0 : decode cX7_lays 0 = .ok (.iconst 0, 1) := by decide +kernel
theorem dX7_lays_1 : decode cX7_lays 1 = .ok (.istore_n 3, 1) := by decide +kernel
theorem dX7_lays_2 : decode cX7_lays 2 = .ok (.iload_n 3, 1) := by decide +kernel
theorem dX7_lays_3 : decode cX7_lays 3 = .ok (.aload_n 0, 1) := by decide +kernel
theorem dX7_lays_4 : decode cX7_lays 4 = .ok (.invokevirtual 71, 3) := by decide +kernel
theorem dX7_lays_7 : decode cX7_lays 7 = .ok (.if_icmp .ge 18, 3) := by decide +kernel
theorem dX7_lays_10 : decode cX7_lays 10 = .ok (.aload_n 0, 1) := by decide +kernel
theorem dX7_lays_11 : decode cX7_lays 11 = .ok (.iload_n 2, 1) := by decide +kernel
theorem dX7_lays_12 : decode cX7_lays 12 = .ok (.iload_n 3, 1) := by decide +kernel
theorem dX7_lays_13 : decode cX7_lays 13 = .ok (.aload_n 1, 1) := by decide +kernel
theorem dX7_lays_14 : decode cX7_lays 14 = .ok (.iload_n 3, 1) := by decide +kernel
theorem dX7_lays_15 : decode cX7_lays 15 = .ok (.laload, 1) := by decide +kernel
theorem dX7_lays_16 : decode cX7_lays 16 = .ok (.invokevirtual 318, 3) := by decide +kernel
theorem dX7_lays_19 : decode cX7_lays 19 = .ok (.iinc 3 1, 3) := by decide +kernel
theorem dX7_lays_22 : decode cX7_lays 22 = .ok (.goto (-20), 3) := by decide +kernel
theorem dX7_lays_25 : decode cX7_lays 25 = .ok (.aload_n 0, 1) := by decide +kernel
theorem dX7_lays_26 : decode cX7_lays 26 = .ok (.iload_n 2, 1) := by decide +kernel
theorem dX7_lays_27 : decode cX7_lays 27 = .ok (.invokevirtual 204, 3) := by decide +kernel
theorem dX7_lays_30 : decode cX7_lays 30 = .ok (.aload_n 0, 1) := by decide +kernel
theorem dX7_lays_31 : decode cX7_lays 31 = .ok (.iload_n 2, 1) := by decide +kernel
theorem dX7_lays_32 : decode cX7_lays 32 = .ok (.invokevirtual 238, 3) := by decide +kernel
theorem dX7_lays_35 : decode cX7_lays 35 = .ok (.ireturn, 1) := by decide +kernel
theorem dX7_copy_0 : decode cX7_copy 0 = .ok (.aload_n 0, 1) := by decide +kernel
theorem dX7_copy_1 : decode cX7_copy 1 = .ok (.iload_n 1, 1) := by decide +kernel
theorem dX7_copy_2 : decode cX7_copy 2 = .ok (.invokestatic 216, 3) := by decide +kernel
theorem dX7_copy_5 : decode cX7_copy 5 = .ok (.ifCond .eq 14, 3) := by decide +kernel
theorem dX7_copy_8 : decode cX7_copy 8 = .ok (.iload_n 2, 1) := by decide +kernel
theorem dX7_copy_9 : decode cX7_copy 9 = .ok (.invokestatic 216, 3) := by decide +kernel
theorem dX7_copy_12 : decode cX7_copy 12 = .ok (.ifCond .eq 7, 3) := by decide +kernel
theorem dX7_copy_15 : decode cX7_copy 15 = .ok (.iconst 1, 1) := by decide +kernel
theorem dX7_copy_16 : decode cX7_copy 16 = .ok (.goto 4, 3) := by decide +kernel
theorem dX7_copy_19 : decode cX7_copy 19 = .ok (.iconst 0, 1) := by decide +kernel
theorem dX7_copy_20 : decode cX7_copy 20 = .ok (.iconst 1, 1) := by decide +kernel
theorem dX7_copy_21 : decode cX7_copy 21 = .ok (.invokevirtual 209, 3) := by decide +kernel
theorem dX7_copy_24 : decode cX7_copy 24 = .ok (.ifCond .eq 5, 3) := by decide +kernel
theorem dX7_copy_27 : decode cX7_copy 27 = .ok (.iconst 0, 1) := by decide +kernel
theorem dX7_copy_28 : decode cX7_copy 28 = .ok (.ireturn, 1) := by decide +kernel
theorem dX7_copy_29 : decode cX7_copy 29 = .ok (.aload_n 0, 1) := by decide +kernel
theorem dX7_copy_30 : decode cX7_copy 30 = .ok (.invokevirtual 315, 3) := by decide +kernel
theorem dX7_copy_33 : decode cX7_copy 33 = .ok (.aload_n 0, 1) := by decide +kernel
theorem dX7_copy_34 : decode cX7_copy 34 = .ok (.iload_n 1, 1) := by decide +kernel
theorem dX7_copy_35 : decode cX7_copy 35 = .ok (.aload_n 0, 1) := by decide +kernel
theorem dX7_copy_36 : decode cX7_copy 36 = .ok (.getfield 34, 3) := by decide +kernel
theorem dX7_copy_39 : decode cX7_copy 39 = .ok (.invokevirtual 252, 3) := by decide +kernel
theorem dX7_copy_42 : decode cX7_copy 42 = .ok (.aload_n 0, 1) := by decide +kernel
theorem dX7_copy_43 : decode cX7_copy 43 = .ok (.aload_n 0, 1) := by decide +kernel
theorem dX7_copy_44 : decode cX7_copy 44 = .ok (.getfield 34, 3) := by decide +kernel
theorem dX7_copy_47 : decode cX7_copy 47 = .ok (.iload_n 2, 1) := by decide +kernel
theorem dX7_copy_48 : decode cX7_copy 48 = .ok (.invokevirtual 322, 3) := by decide +kernel
theorem dX7_copy_51 : decode cX7_copy 51 = .ok (.ireturn, 1) := by decide +kernel
theorem dX7_transpose_0 : decode cX7_transpose 0 = .ok (.aload_n 0, 1) := by decide +kernel
theorem dX7_transpose_1 : decode cX7_transpose 1 = .ok (.iload_n 1, 1) := by decide +kernel
theorem dX7_transpose_2 : decode cX7_transpose 2 = .ok (.invokestatic 216, 3) := by decide +kernel
theorem dX7_transpose_5 : decode cX7_transpose 5 = .ok (.ifCond .eq 14, 3) := by decide +kernel
theorem dX7_transpose_8 : decode cX7_transpose 8 = .ok (.iload_n 2, 1) := by decide +kernel
theorem dX7_transpose_9 : decode cX7_transpose 9 = .ok (.invokestatic 216, 3) := by decide +kernel
theorem dX7_transpose_12 : decode cX7_transpose 12 = .ok (.ifCond .eq 7, 3) := by decide +kernel
theorem dX7_transpose_15 : decode cX7_transpose 15 = .ok (.iconst 1, 1) := by decide +kernel
theorem dX7_transpose_16 : decode cX7_transpose 16 = .ok (.goto 4, 3) := by decide +kernel
theorem dX7_transpose_19 : decode cX7_transpose 19 = .ok (.iconst 0, 1) := by decide +kernel
theorem dX7_transpose_20 : decode cX7_transpose 20 = .ok (.iconst 1, 1) := by decide +kernel
theorem dX7_transpose_21 : decode cX7_transpose 21 = .ok (.invokevirtual 209, 3) := by decide +kernel
theorem dX7_transpose_24 : decode cX7_transpose 24 = .ok (.ifCond .eq 5, 3) := by decide +kernel
theorem dX7_transpose_27 : decode cX7_transpose 27 = .ok (.iconst 0, 1) := by decide +kernel
theorem dX7_transpose_28 : decode cX7_transpose 28 = .ok (.ireturn, 1) := by decide +kernel
theorem dX7_transpose_29 : decode cX7_transpose 29 = .ok (.aload_n 0, 1) := by decide +kernel
theorem dX7_transpose_30 : decode cX7_transpose 30 = .ok (.invokevirtual 315, 3) := by decide +kernel
theorem dX7_transpose_33 : decode cX7_transpose 33 = .ok (.iconst 0, 1) := by decide +kernel
theorem dX7_transpose_34 : decode cX7_transpose 34 = .ok (.istore_n 3, 1) := by decide +kernel
theorem dX7_transpose_35 : decode cX7_transpose 35 = .ok (.iload_n 3, 1) := by decide +kernel
theorem dX7_transpose_36 : decode cX7_transpose 36 = .ok (.aload_n 0, 1) := by decide +kernel
theorem dX7_transpose_37 : decode cX7_transpose 37 = .ok (.invokevirtual 71, 3) := by decide +kernel
theorem dX7_transpose_40 : decode cX7_transpose 40 = .ok (.if_icmp .ge 58, 3) := by decide +kernel
theorem dX7_transpose_43 : decode cX7_transpose 43 = .ok (.aload_n 0, 1) := by decide +kernel
theorem dX7_transpose_44 : decode cX7_transpose 44 = .ok (.getfield 34, 3) := by decide +kernel
theorem dX7_transpose_47 : decode cX7_transpose 47 = .ok (.iload_n 3, 1) := by decide +kernel
theorem dX7_transpose_48 : decode cX7_transpose 48 = .ok (.lconst 0, 1) := by decide +kernel
theorem dX7_transpose_49 : decode cX7_transpose 49 = .ok (.lastore, 1) := by decide +kernel
theorem dX7_transpose_50 : decode cX7_transpose 50 = .ok (.iconst 0, 1) := by decide +kernel
theorem dX7_transpose_51 : decode cX7_transpose 51 = .ok (.istore 4, 2) := by decide +kernel
theorem dX7_transpose_53 : decode cX7_transpose 53 = .ok (.iload 4, 2) := by decide +kernel
theorem dX7_transpose_55 : decode cX7_transpose 55 = .ok (.aload_n 0, 1) := by decide +kernel
theorem dX7_transpose_56 : decode cX7_transpose 56 = .ok (.invokevirtual 71, 3) := by decide +kernel
theorem dX7_transpose_59 : decode cX7_transpose 59 = .ok (.if_icmp .ge 33, 3) := by decide +kernel
theorem dX7_transpose_62 : decode cX7_transpose 62 = .ok (.aload_n 0, 1) := by decide +kernel
theorem dX7_transpose_63 : decode cX7_transpose 63 = .ok (.getfield 34, 3) := by decide +kernel
theorem dX7_transpose_66 : decode cX7_transpose 66 = .ok (.iload_n 3, 1) := by decide +kernel
theorem dX7_transpose_67 : decode cX7_transpose 67 = .ok (.dup2, 1) := by decide +kernel
theorem dX7_transpose_68 : decode cX7_transpose 68 = .ok (.laload, 1) := by decide +kernel
theorem dX7_transpose_69 : decode cX7_transpose 69 = .ok (.aload_n 0, 1) := by decide +kernel
theorem dX7_transpose_70 : decode cX7_transpose 70 = .ok (.iload_n 1, 1) := by decide +kernel
theorem dX7_transpose_71 : decode cX7_transpose 71 = .ok (.iload 4, 2) := by decide +kernel
theorem dX7_transpose_73 : decode cX7_transpose 73 = .ok (.invokevirtual 227, 3) := by decide +kernel
theorem dX7_transpose_76 : decode cX7_transpose 76 = .ok (.iload_n 3, 1) := by decide +kernel
theorem dX7_transpose_77 : decode cX7_transpose 77 = .ok (.invokestatic 231, 3) := by decide +kernel
theorem dX7_transpose_80 : decode cX7_transpose 80 = .ok (.i2l, 1) := by decide +kernel
theorem dX7_transpose_81 : decode cX7_transpose 81 = .ok (.iload 4, 2) := by decide +kernel
theorem dX7_transpose_83 : decode cX7_transpose 83 = .ok (.lshl, 1) := by decide +kernel
theorem dX7_transpose_84 : decode cX7_transpose 84 = .ok (.lor, 1) := by decide +kernel
theorem dX7_transpose_85 : decode cX7_transpose 85 = .ok (.lastore, 1) := by decide +kernel
theorem dX7_transpose_86 : decode cX7_transpose 86 = .ok (.iinc 4 1, 3) := by decide +kernel
theorem dX7_transpose_89 : decode cX7_transpose 89 = .ok (.goto (-36), 3) := by decide +kernel
theorem dX7_transpose_92 : decode cX7_transpose 92 = .ok (.iinc 3 1, 3) := by decide +kernel
theorem dX7_transpose_95 : decode cX7_transpose 95 = .ok (.goto (-60), 3) := by decide +kernel
theorem dX7_transpose_98 : decode cX7_transpose 98 = .ok (.aload_n 0, 1) := by decide +kernel
theorem dX7_transpose_99 : decode cX7_transpose 99 = .ok (.aload_n 0, 1) := by decide +kernel
theorem dX7_transpose_100 : decode cX7_transpose 100 = .ok (.getfield 34, 3) := by decide +kernel
theorem dX7_transpose_103 : decode cX7_transpose 103 = .ok (.iload_n 2, 1) := by decide +kernel
theorem dX7_transpose_104 : decode cX7_transpose 104 = .ok (.invokevirtual 322, 3) := by decide +kernel
theorem dX7_transpose_107 : decode cX7_transpose 107 = .ok (.ireturn, 1) := by decide +kernel
theorem dX7_combined_0 : decode cX7_combined 0 = .ok (.iload 4, 2) := by decide +kernel
theorem dX7_combined_2 : decode cX7_combined 2 = .ok (.tableswitch 38 0 2 #[26, 30, 34], 26) := by decide +kernel
theorem dX7_combined_28 : decode cX7_combined 28 = .ok (.lload_n 0, 1) := by decide +kernel
theorem dX7_combined_29 : decode cX7_combined 29 = .ok (.lload_n 2, 1) := by decide +kernel
theorem dX7_combined_30 : decode cX7_combined 30 = .ok (.land, 1) := by decide +kernel
theorem dX7_combined_31 : decode cX7_combined 31 = .ok (.lreturn, 1) := by decide +kernel
theorem dX7_combined_32 : decode cX7_combined 32 = .ok (.lload_n 0, 1) := by decide +kernel
theorem dX7_combined_33 : decode cX7_combined 33 = .ok (.lload_n 2, 1) := by decide +kernel
theorem dX7_combined_34 : decode cX7_combined 34 = .ok (.lor, 1) := by decide +kernel
theorem dX7_combined_35 : decode cX7_combined 35 = .ok (.lreturn, 1) := by decide +kernel
theorem dX7_combined_36 : decode cX7_combined 36 = .ok (.lload_n 0, 1) := by decide +kernel
theorem dX7_combined_37 : decode cX7_combined 37 = .ok (.lload_n 2, 1) := by decide +kernel
theorem dX7_combined_38 : decode cX7_combined 38 = .ok (.lxor, 1) := by decide +kernel
theorem dX7_combined_39 : decode cX7_combined 39 = .ok (.lreturn, 1) := by decide +kernel
theorem dX7_combined_40 : decode cX7_combined 40 = .ok (.lload_n 0, 1) := by decide +kernel
theorem dX7_combined_41 : decode cX7_combined 41 = .ok (.lload_n 2, 1) := by decide +kernel
theorem dX7_combined_42 : decode cX7_combined 42 = .ok (.ldc2_w 306, 3) := by decide +kernel
theorem dX7_combined_45 : decode cX7_combined 45 = .ok (.lxor, 1) := by decide +kernel
theorem dX7_combined_46 : decode cX7_combined 46 = .ok (.land, 1) := by decide +kernel
theorem dX7_combined_47 : decode cX7_combined 47 = .ok (.lreturn, 1) := by decide +kernel
theorem dX7_combine_0 : decode cX7_combine 0 = .ok (.aload_n 0, 1) := by decide +kernel
theorem dX7_combine_1 : decode cX7_combine 1 = .ok (.iload_n 1, 1) := by decide +kernel
theorem dX7_combine_2 : decode cX7_combine 2 = .ok (.invokestatic 216, 3) := by decide +kernel
theorem dX7_combine_5 : decode cX7_combine 5 = .ok (.ifCond .eq 21, 3) := by decide +kernel
theorem dX7_combine_8 : decode cX7_combine 8 = .ok (.iload_n 2, 1) := by decide +kernel
theorem dX7_combine_9 : decode cX7_combine 9 = .ok (.invokestatic 216, 3) := by decide +kernel
theorem dX7_combine_12 : decode cX7_combine 12 = .ok (.ifCond .eq 14, 3) := by decide +kernel
theorem dX7_combine_15 : decode cX7_combine 15 = .ok (.iload_n 3, 1) := by decide +kernel
theorem dX7_combine_16 : decode cX7_combine 16 = .ok (.invokestatic 216, 3) := by decide +kernel
theorem dX7_combine_19 : decode cX7_combine 19 = .ok (.ifCond .eq 7, 3) := by decide +kernel
theorem dX7_combine_22 : decode cX7_combine 22 = .ok (.iconst 1, 1) := by decide +kernel
theorem dX7_combine_23 : decode cX7_combine 23 = .ok (.goto 4, 3) := by decide +kernel
theorem dX7_combine_26 : decode cX7_combine 26 = .ok (.iconst 0, 1) := by decide +kernel
theorem dX7_combine_27 : decode cX7_combine 27 = .ok (.iconst 1, 1) := by decide +kernel
theorem dX7_combine_28 : decode cX7_combine 28 = .ok (.invokevirtual 209, 3) := by decide +kernel
theorem dX7_combine_31 : decode cX7_combine 31 = .ok (.ifCond .ne 21, 3) := by decide +kernel
theorem dX7_combine_34 : decode cX7_combine 34 = .ok (.aload_n 0, 1) := by decide +kernel
theorem dX7_combine_35 : decode cX7_combine 35 = .ok (.iload 4, 2) := by decide +kernel
theorem dX7_combine_37 : decode cX7_combine 37 = .ok (.i2l, 1) := by decide +kernel
theorem dX7_combine_38 : decode cX7_combine 38 = .ok (.lconst 0, 1) := by decide +kernel
theorem dX7_combine_39 : decode cX7_combine 39 = .ok (.ldc2_w 207, 3) := by decide +kernel
theorem dX7_combine_42 : decode cX7_combine 42 = .ok (.invokestatic 67, 3) := by decide +kernel
theorem dX7_combine_45 : decode cX7_combine 45 = .ok (.iconst 2, 1) := by decide +kernel
theorem dX7_combine_46 : decode cX7_combine 46 = .ok (.invokevirtual 209, 3) := by decide +kernel
theorem dX7_combine_49 : decode cX7_combine 49 = .ok (.ifCond .eq 5, 3) := by decide +kernel
theorem dX7_combine_52 : decode cX7_combine 52 = .ok (.iconst 0, 1) := by decide +kernel
theorem dX7_combine_53 : decode cX7_combine 53 = .ok (.ireturn, 1) := by decide +kernel
theorem dX7_combine_54 : decode cX7_combine 54 = .ok (.aload_n 0, 1) := by decide +kernel
theorem dX7_combine_55 : decode cX7_combine 55 = .ok (.invokevirtual 315, 3) := by decide +kernel
theorem dX7_combine_58 : decode cX7_combine 58 = .ok (.iconst 0, 1) := by decide +kernel
theorem dX7_combine_59 : decode cX7_combine 59 = .ok (.istore 5, 2) := by decide +kernel
theorem dX7_combine_61 : decode cX7_combine 61 = .ok (.iload 5, 2) := by decide +kernel
theorem dX7_combine_63 : decode cX7_combine 63 = .ok (.aload_n 0, 1) := by decide +kernel
theorem dX7_combine_64 : decode cX7_combine 64 = .ok (.invokevirtual 71, 3) := by decide +kernel
theorem dX7_combine_67 : decode cX7_combine 67 = .ok (.if_icmp .ge 35, 3) := by decide +kernel
theorem dX7_combine_70 : decode cX7_combine 70 = .ok (.aload_n 0, 1) := by decide +kernel
theorem dX7_combine_71 : decode cX7_combine 71 = .ok (.getfield 34, 3) := by decide +kernel
theorem dX7_combine_74 : decode cX7_combine 74 = .ok (.iload 5, 2) := by decide +kernel
theorem dX7_combine_76 : decode cX7_combine 76 = .ok (.aload_n 0, 1) := by decide +kernel
theorem dX7_combine_77 : decode cX7_combine 77 = .ok (.iload_n 1, 1) := by decide +kernel
theorem dX7_combine_78 : decode cX7_combine 78 = .ok (.iload 5, 2) := by decide +kernel
theorem dX7_combine_80 : decode cX7_combine 80 = .ok (.invokevirtual 227, 3) := by decide +kernel
theorem dX7_combine_83 : decode cX7_combine 83 = .ok (.aload_n 0, 1) := by decide +kernel
theorem dX7_combine_84 : decode cX7_combine 84 = .ok (.iload_n 2, 1) := by decide +kernel
theorem dX7_combine_85 : decode cX7_combine 85 = .ok (.iload 5, 2) := by decide +kernel
theorem dX7_combine_87 : decode cX7_combine 87 = .ok (.invokevirtual 227, 3) := by decide +kernel
theorem dX7_combine_90 : decode cX7_combine 90 = .ok (.iload 4, 2) := by decide +kernel
theorem dX7_combine_92 : decode cX7_combine 92 = .ok (.invokestatic 326, 3) := by decide +kernel
theorem dX7_combine_95 : decode cX7_combine 95 = .ok (.lastore, 1) := by decide +kernel
theorem dX7_combine_96 : decode cX7_combine 96 = .ok (.iinc 5 1, 3) := by decide +kernel
theorem dX7_combine_99 : decode cX7_combine 99 = .ok (.goto (-38), 3) := by decide +kernel
theorem dX7_combine_102 : decode cX7_combine 102 = .ok (.aload_n 0, 1) := by decide +kernel
theorem dX7_combine_103 : decode cX7_combine 103 = .ok (.aload_n 0, 1) := by decide +kernel
theorem dX7_combine_104 : decode cX7_combine 104 = .ok (.getfield 34, 3) := by decide +kernel
theorem dX7_combine_107 : decode cX7_combine 107 = .ok (.iload_n 3, 1) := by decide +kernel
theorem dX7_combine_108 : decode cX7_combine 108 = .ok (.invokevirtual 322, 3) := by decide +kernel
theorem dX7_combine_111 : decode cX7_combine 111 = .ok (.ireturn, 1) := by decide +kernel
theorem dX7_counts_0 : decode cX7_counts 0 = .ok (.aload_n 0, 1) := by decide +kernel
theorem dX7_counts_1 : decode cX7_counts 1 = .ok (.getfield 9, 3) := by decide +kernel
theorem dX7_counts_4 : decode cX7_counts 4 = .ok (.iconst 2, 1) := by decide +kernel
theorem dX7_counts_5 : decode cX7_counts 5 = .ok (.lconst 0, 1) := by decide +kernel
theorem dX7_counts_6 : decode cX7_counts 6 = .ok (.lastore, 1) := by decide +kernel
theorem dX7_counts_7 : decode cX7_counts 7 = .ok (.aload_n 0, 1) := by decide +kernel
theorem dX7_counts_8 : decode cX7_counts 8 = .ok (.getfield 9, 3) := by decide +kernel
theorem dX7_counts_11 : decode cX7_counts 11 = .ok (.iconst 3, 1) := by decide +kernel
theorem dX7_counts_12 : decode cX7_counts 12 = .ok (.lconst 0, 1) := by decide +kernel
theorem dX7_counts_13 : decode cX7_counts 13 = .ok (.lastore, 1) := by decide +kernel
theorem dX7_counts_14 : decode cX7_counts 14 = .ok (.aload_n 0, 1) := by decide +kernel
theorem dX7_counts_15 : decode cX7_counts 15 = .ok (.getfield 9, 3) := by decide +kernel
theorem dX7_counts_18 : decode cX7_counts 18 = .ok (.iconst 1, 1) := by decide +kernel
theorem dX7_counts_19 : decode cX7_counts 19 = .ok (.laload, 1) := by decide +kernel
theorem dX7_counts_20 : decode cX7_counts 20 = .ok (.l2i, 1) := by decide +kernel
theorem dX7_counts_21 : decode cX7_counts 21 = .ok (.istore_n 2, 1) := by decide +kernel
theorem dX7_counts_22 : decode cX7_counts 22 = .ok (.iconst 0, 1) := by decide +kernel
theorem dX7_counts_23 : decode cX7_counts 23 = .ok (.istore_n 3, 1) := by decide +kernel
theorem dX7_counts_24 : decode cX7_counts 24 = .ok (.iload_n 3, 1) := by decide +kernel
theorem dX7_counts_25 : decode cX7_counts 25 = .ok (.aload_n 0, 1) := by decide +kernel
theorem dX7_counts_26 : decode cX7_counts 26 = .ok (.invokevirtual 71, 3) := by decide +kernel
theorem dX7_counts_29 : decode cX7_counts 29 = .ok (.if_icmp .ge 87, 3) := by decide +kernel
theorem dX7_counts_32 : decode cX7_counts 32 = .ok (.iload_n 2, 1) := by decide +kernel
theorem dX7_counts_33 : decode cX7_counts 33 = .ok (.aload_n 0, 1) := by decide +kernel
theorem dX7_counts_34 : decode cX7_counts 34 = .ok (.invokevirtual 71, 3) := by decide +kernel
theorem dX7_counts_37 : decode cX7_counts 37 = .ok (.iload_n 3, 1) := by decide +kernel
theorem dX7_counts_38 : decode cX7_counts 38 = .ok (.isub, 1) := by decide +kernel
theorem dX7_counts_39 : decode cX7_counts 39 = .ok (.invokestatic 123, 3) := by decide +kernel
theorem dX7_counts_42 : decode cX7_counts 42 = .ok (.istore 4, 2) := by decide +kernel
theorem dX7_counts_44 : decode cX7_counts 44 = .ok (.lconst 1, 1) := by decide +kernel
theorem dX7_counts_45 : decode cX7_counts 45 = .ok (.iload 4, 2) := by decide +kernel
theorem dX7_counts_47 : decode cX7_counts 47 = .ok (.lshl, 1) := by decide +kernel
theorem dX7_counts_48 : decode cX7_counts 48 = .ok (.lconst 1, 1) := by decide +kernel
theorem dX7_counts_49 : decode cX7_counts 49 = .ok (.lsub, 1) := by decide +kernel
theorem dX7_counts_50 : decode cX7_counts 50 = .ok (.lstore 5, 2) := by decide +kernel
theorem dX7_counts_52 : decode cX7_counts 52 = .ok (.aload_n 0, 1) := by decide +kernel
theorem dX7_counts_53 : decode cX7_counts 53 = .ok (.getfield 9, 3) := by decide +kernel
theorem dX7_counts_56 : decode cX7_counts 56 = .ok (.iconst 2, 1) := by decide +kernel
theorem dX7_counts_57 : decode cX7_counts 57 = .ok (.dup2, 1) := by decide +kernel
theorem dX7_counts_58 : decode cX7_counts 58 = .ok (.laload, 1) := by decide +kernel
theorem dX7_counts_59 : decode cX7_counts 59 = .ok (.lload 5, 2) := by decide +kernel
theorem dX7_counts_61 : decode cX7_counts 61 = .ok (.ladd, 1) := by decide +kernel
theorem dX7_counts_62 : decode cX7_counts 62 = .ok (.lastore, 1) := by decide +kernel
theorem dX7_counts_63 : decode cX7_counts 63 = .ok (.iconst 0, 1) := by decide +kernel
theorem dX7_counts_64 : decode cX7_counts 64 = .ok (.istore 7, 2) := by decide +kernel
theorem dX7_counts_66 : decode cX7_counts 66 = .ok (.iload 7, 2) := by decide +kernel
theorem dX7_counts_68 : decode cX7_counts 68 = .ok (.aload_n 0, 1) := by decide +kernel
theorem dX7_counts_69 : decode cX7_counts 69 = .ok (.invokevirtual 71, 3) := by decide +kernel
theorem dX7_counts_72 : decode cX7_counts 72 = .ok (.if_icmp .ge 37, 3) := by decide +kernel
theorem dX7_counts_75 : decode cX7_counts 75 = .ok (.aload_n 0, 1) := by decide +kernel
theorem dX7_counts_76 : decode cX7_counts 76 = .ok (.getfield 9, 3) := by decide +kernel
theorem dX7_counts_79 : decode cX7_counts 79 = .ok (.iconst 3, 1) := by decide +kernel
theorem dX7_counts_80 : decode cX7_counts 80 = .ok (.dup2, 1) := by decide +kernel
theorem dX7_counts_81 : decode cX7_counts 81 = .ok (.laload, 1) := by decide +kernel
theorem dX7_counts_82 : decode cX7_counts 82 = .ok (.aload_n 1, 1) := by decide +kernel
theorem dX7_counts_83 : decode cX7_counts 83 = .ok (.iload 7, 2) := by decide +kernel
theorem dX7_counts_85 : decode cX7_counts 85 = .ok (.laload, 1) := by decide +kernel
theorem dX7_counts_86 : decode cX7_counts 86 = .ok (.iload_n 3, 1) := by decide +kernel
theorem dX7_counts_87 : decode cX7_counts 87 = .ok (.lshr, 1) := by decide +kernel
theorem dX7_counts_88 : decode cX7_counts 88 = .ok (.lload 5, 2) := by decide +kernel
theorem dX7_counts_90 : decode cX7_counts 90 = .ok (.land, 1) := by decide +kernel
theorem dX7_counts_91 : decode cX7_counts 91 = .ok (.lconst 0, 1) := by decide +kernel
theorem dX7_counts_92 : decode cX7_counts 92 = .ok (.lcmp, 1) := by decide +kernel
theorem dX7_counts_93 : decode cX7_counts 93 = .ok (.ifCond .ne 7, 3) := by decide +kernel
theorem dX7_counts_96 : decode cX7_counts 96 = .ok (.lconst 0, 1) := by decide +kernel
theorem dX7_counts_97 : decode cX7_counts 97 = .ok (.goto 4, 3) := by decide +kernel
theorem dX7_counts_100 : decode cX7_counts 100 = .ok (.lconst 1, 1) := by decide +kernel
theorem dX7_counts_101 : decode cX7_counts 101 = .ok (.ladd, 1) := by decide +kernel
theorem dX7_counts_102 : decode cX7_counts 102 = .ok (.lastore, 1) := by decide +kernel
theorem dX7_counts_103 : decode cX7_counts 103 = .ok (.iinc 7 1, 3) := by decide +kernel
theorem dX7_counts_106 : decode cX7_counts 106 = .ok (.goto (-40), 3) := by decide +kernel
theorem dX7_counts_109 : decode cX7_counts 109 = .ok (.iload_n 3, 1) := by decide +kernel
theorem dX7_counts_110 : decode cX7_counts 110 = .ok (.iload_n 2, 1) := by decide +kernel
theorem dX7_counts_111 : decode cX7_counts 111 = .ok (.iadd, 1) := by decide +kernel
theorem dX7_counts_112 : decode cX7_counts 112 = .ok (.istore_n 3, 1) := by decide +kernel
theorem dX7_counts_113 : decode cX7_counts 113 = .ok (.goto (-89), 3) := by decide +kernel
theorem dX7_counts_116 : decode cX7_counts 116 = .ok (.return_, 1) := by decide +kernel
theorem dX7_multiplies_0 : decode cX7_multiplies 0 = .ok (.aload_n 0, 1) := by decide +kernel
theorem dX7_multiplies_1 : decode cX7_multiplies 1 = .ok (.aload_n 1, 1) := by decide +kernel
theorem dX7_multiplies_2 : decode cX7_multiplies 2 = .ok (.invokevirtual 330, 3) := by decide +kernel
theorem dX7_multiplies_5 : decode cX7_multiplies 5 = .ok (.iconst 0, 1) := by decide +kernel
theorem dX7_multiplies_6 : decode cX7_multiplies 6 = .ok (.istore 5, 2) := by decide +kernel
theorem dX7_multiplies_8 : decode cX7_multiplies 8 = .ok (.iload 5, 2) := by decide +kernel
theorem dX7_multiplies_10 : decode cX7_multiplies 10 = .ok (.aload_n 0, 1) := by decide +kernel
theorem dX7_multiplies_11 : decode cX7_multiplies 11 = .ok (.invokevirtual 71, 3) := by decide +kernel
theorem dX7_multiplies_14 : decode cX7_multiplies 14 = .ok (.if_icmp .ge 81, 3) := by decide +kernel
theorem dX7_multiplies_17 : decode cX7_multiplies 17 = .ok (.aload_n 3, 1) := by decide +kernel
theorem dX7_multiplies_18 : decode cX7_multiplies 18 = .ok (.iload 5, 2) := by decide +kernel
theorem dX7_multiplies_20 : decode cX7_multiplies 20 = .ok (.lconst 0, 1) := by decide +kernel
theorem dX7_multiplies_21 : decode cX7_multiplies 21 = .ok (.lastore, 1) := by decide +kernel
theorem dX7_multiplies_22 : decode cX7_multiplies 22 = .ok (.iconst 0, 1) := by decide +kernel
theorem dX7_multiplies_23 : decode cX7_multiplies 23 = .ok (.istore 6, 2) := by decide +kernel
theorem dX7_multiplies_25 : decode cX7_multiplies 25 = .ok (.iload 6, 2) := by decide +kernel
theorem dX7_multiplies_27 : decode cX7_multiplies 27 = .ok (.aload_n 0, 1) := by decide +kernel
theorem dX7_multiplies_28 : decode cX7_multiplies 28 = .ok (.invokevirtual 71, 3) := by decide +kernel
theorem dX7_multiplies_31 : decode cX7_multiplies 31 = .ok (.if_icmp .ge 58, 3) := by decide +kernel
theorem dX7_multiplies_34 : decode cX7_multiplies 34 = .ok (.aload_n 1, 1) := by decide +kernel
theorem dX7_multiplies_35 : decode cX7_multiplies 35 = .ok (.iload 5, 2) := by decide +kernel
theorem dX7_multiplies_37 : decode cX7_multiplies 37 = .ok (.laload, 1) := by decide +kernel
theorem dX7_multiplies_38 : decode cX7_multiplies 38 = .ok (.iload 6, 2) := by decide +kernel
theorem dX7_multiplies_40 : decode cX7_multiplies 40 = .ok (.invokestatic 231, 3) := by decide +kernel
theorem dX7_multiplies_43 : decode cX7_multiplies 43 = .ok (.iconst 1, 1) := by decide +kernel
theorem dX7_multiplies_44 : decode cX7_multiplies 44 = .ok (.if_icmp .ne 10, 3) := by decide +kernel
theorem dX7_multiplies_47 : decode cX7_multiplies 47 = .ok (.aload_n 2, 1) := by decide +kernel
theorem dX7_multiplies_48 : decode cX7_multiplies 48 = .ok (.iload 6, 2) := by decide +kernel
theorem dX7_multiplies_50 : decode cX7_multiplies 50 = .ok (.laload, 1) := by decide +kernel
theorem dX7_multiplies_51 : decode cX7_multiplies 51 = .ok (.goto 4, 3) := by decide +kernel
theorem dX7_multiplies_54 : decode cX7_multiplies 54 = .ok (.lconst 0, 1) := by decide +kernel
theorem dX7_multiplies_55 : decode cX7_multiplies 55 = .ok (.lstore 7, 2) := by decide +kernel
theorem dX7_multiplies_57 : decode cX7_multiplies 57 = .ok (.aload_n 3, 1) := by decide +kernel
theorem dX7_multiplies_58 : decode cX7_multiplies 58 = .ok (.iload 5, 2) := by decide +kernel
theorem dX7_multiplies_60 : decode cX7_multiplies 60 = .ok (.iload 4, 2) := by decide +kernel
theorem dX7_multiplies_62 : decode cX7_multiplies 62 = .ok (.ifCond .eq 13, 3) := by decide +kernel
theorem dX7_multiplies_65 : decode cX7_multiplies 65 = .ok (.aload_n 3, 1) := by decide +kernel
theorem dX7_multiplies_66 : decode cX7_multiplies 66 = .ok (.iload 5, 2) := by decide +kernel
theorem dX7_multiplies_68 : decode cX7_multiplies 68 = .ok (.laload, 1) := by decide +kernel
theorem dX7_multiplies_69 : decode cX7_multiplies 69 = .ok (.lload 7, 2) := by decide +kernel
theorem dX7_multiplies_71 : decode cX7_multiplies 71 = .ok (.lxor, 1) := by decide +kernel
theorem dX7_multiplies_72 : decode cX7_multiplies 72 = .ok (.goto 10, 3) := by decide +kernel
theorem dX7_multiplies_75 : decode cX7_multiplies 75 = .ok (.aload_n 3, 1) := by decide +kernel
theorem dX7_multiplies_76 : decode cX7_multiplies 76 = .ok (.iload 5, 2) := by decide +kernel
theorem dX7_multiplies_78 : decode cX7_multiplies 78 = .ok (.laload, 1) := by decide +kernel
theorem dX7_multiplies_79 : decode cX7_multiplies 79 = .ok (.lload 7, 2) := by decide +kernel
theorem dX7_multiplies_81 : decode cX7_multiplies 81 = .ok (.lor, 1) := by decide +kernel
theorem dX7_multiplies_82 : decode cX7_multiplies 82 = .ok (.lastore, 1) := by decide +kernel
theorem dX7_multiplies_83 : decode cX7_multiplies 83 = .ok (.iinc 6 1, 3) := by decide +kernel
theorem dX7_multiplies_86 : decode cX7_multiplies 86 = .ok (.goto (-61), 3) := by decide +kernel
theorem dX7_multiplies_89 : decode cX7_multiplies 89 = .ok (.iinc 5 1, 3) := by decide +kernel
theorem dX7_multiplies_92 : decode cX7_multiplies 92 = .ok (.goto (-84), 3) := by decide +kernel
theorem dX7_multiplies_95 : decode cX7_multiplies 95 = .ok (.return_, 1) := by decide +kernel
theorem dX7_product_0 : decode cX7_product 0 = .ok (.aload_n 0, 1) := by decide +kernel
theorem dX7_product_1 : decode cX7_product 1 = .ok (.iload_n 1, 1) := by decide +kernel
theorem dX7_product_2 : decode cX7_product 2 = .ok (.invokestatic 216, 3) := by decide +kernel
theorem dX7_product_5 : decode cX7_product 5 = .ok (.ifCond .eq 21, 3) := by decide +kernel
theorem dX7_product_8 : decode cX7_product 8 = .ok (.iload_n 2, 1) := by decide +kernel
theorem dX7_product_9 : decode cX7_product 9 = .ok (.invokestatic 216, 3) := by decide +kernel
theorem dX7_product_12 : decode cX7_product 12 = .ok (.ifCond .eq 14, 3) := by decide +kernel
theorem dX7_product_15 : decode cX7_product 15 = .ok (.iload_n 3, 1) := by decide +kernel
theorem dX7_product_16 : decode cX7_product 16 = .ok (.invokestatic 216, 3) := by decide +kernel
theorem dX7_product_19 : decode cX7_product 19 = .ok (.ifCond .eq 7, 3) := by decide +kernel
theorem dX7_product_22 : decode cX7_product 22 = .ok (.iconst 1, 1) := by decide +kernel
theorem dX7_product_23 : decode cX7_product 23 = .ok (.goto 4, 3) := by decide +kernel
theorem dX7_product_26 : decode cX7_product 26 = .ok (.iconst 0, 1) := by decide +kernel
theorem dX7_product_27 : decode cX7_product 27 = .ok (.iconst 1, 1) := by decide +kernel
theorem dX7_product_28 : decode cX7_product 28 = .ok (.invokevirtual 209, 3) := by decide +kernel
theorem dX7_product_31 : decode cX7_product 31 = .ok (.ifCond .eq 5, 3) := by decide +kernel
theorem dX7_product_34 : decode cX7_product 34 = .ok (.iconst 0, 1) := by decide +kernel
theorem dX7_product_35 : decode cX7_product 35 = .ok (.ireturn, 1) := by decide +kernel
theorem dX7_product_36 : decode cX7_product 36 = .ok (.aload_n 0, 1) := by decide +kernel
theorem dX7_product_37 : decode cX7_product 37 = .ok (.invokevirtual 315, 3) := by decide +kernel
theorem dX7_product_40 : decode cX7_product 40 = .ok (.aload_n 0, 1) := by decide +kernel
theorem dX7_product_41 : decode cX7_product 41 = .ok (.iload_n 1, 1) := by decide +kernel
theorem dX7_product_42 : decode cX7_product 42 = .ok (.aload_n 0, 1) := by decide +kernel
theorem dX7_product_43 : decode cX7_product 43 = .ok (.getfield 34, 3) := by decide +kernel
theorem dX7_product_46 : decode cX7_product 46 = .ok (.invokevirtual 252, 3) := by decide +kernel
theorem dX7_product_49 : decode cX7_product 49 = .ok (.aload_n 0, 1) := by decide +kernel
theorem dX7_product_50 : decode cX7_product 50 = .ok (.iload_n 2, 1) := by decide +kernel
theorem dX7_product_51 : decode cX7_product 51 = .ok (.aload_n 0, 1) := by decide +kernel
theorem dX7_product_52 : decode cX7_product 52 = .ok (.getfield 37, 3) := by decide +kernel
theorem dX7_product_55 : decode cX7_product 55 = .ok (.invokevirtual 252, 3) := by decide +kernel
theorem dX7_product_58 : decode cX7_product 58 = .ok (.aload_n 0, 1) := by decide +kernel
theorem dX7_product_59 : decode cX7_product 59 = .ok (.aload_n 0, 1) := by decide +kernel
theorem dX7_product_60 : decode cX7_product 60 = .ok (.getfield 34, 3) := by decide +kernel
theorem dX7_product_63 : decode cX7_product 63 = .ok (.aload_n 0, 1) := by decide +kernel
theorem dX7_product_64 : decode cX7_product 64 = .ok (.getfield 37, 3) := by decide +kernel
theorem dX7_product_67 : decode cX7_product 67 = .ok (.aload_n 0, 1) := by decide +kernel
theorem dX7_product_68 : decode cX7_product 68 = .ok (.getfield 40, 3) := by decide +kernel
theorem dX7_product_71 : decode cX7_product 71 = .ok (.iload 4, 2) := by decide +kernel
theorem dX7_product_73 : decode cX7_product 73 = .ok (.invokevirtual 333, 3) := by decide +kernel
theorem dX7_product_76 : decode cX7_product 76 = .ok (.aload_n 0, 1) := by decide +kernel
theorem dX7_product_77 : decode cX7_product 77 = .ok (.aload_n 0, 1) := by decide +kernel
theorem dX7_product_78 : decode cX7_product 78 = .ok (.getfield 40, 3) := by decide +kernel
theorem dX7_product_81 : decode cX7_product 81 = .ok (.iload_n 3, 1) := by decide +kernel
theorem dX7_product_82 : decode cX7_product 82 = .ok (.invokevirtual 322, 3) := by decide +kernel
theorem dX7_product_85 : decode cX7_product 85 = .ok (.ireturn, 1) := by decide +kernel
theorem dX7_moves_0 : decode cX7_moves 0 = .ok (.iconst 0, 1) := by decide +kernel
theorem dX7_moves_1 : decode cX7_moves 1 = .ok (.istore_n 3, 1) := by decide +kernel
theorem dX7_moves_2 : decode cX7_moves 2 = .ok (.iload_n 3, 1) := by decide +kernel
theorem dX7_moves_3 : decode cX7_moves 3 = .ok (.aload_n 0, 1) := by decide +kernel
theorem dX7_moves_4 : decode cX7_moves 4 = .ok (.invokevirtual 71, 3) := by decide +kernel
theorem dX7_moves_7 : decode cX7_moves 7 = .ok (.if_icmp .ge 15, 3) := by decide +kernel
theorem dX7_moves_10 : decode cX7_moves 10 = .ok (.aload_n 2, 1) := by decide +kernel
theorem dX7_moves_11 : decode cX7_moves 11 = .ok (.iload_n 3, 1) := by decide +kernel
theorem dX7_moves_12 : decode cX7_moves 12 = .ok (.aload_n 1, 1) := by decide +kernel
theorem dX7_moves_13 : decode cX7_moves 13 = .ok (.iload_n 3, 1) := by decide +kernel
theorem dX7_moves_14 : decode cX7_moves 14 = .ok (.laload, 1) := by decide +kernel
theorem dX7_moves_15 : decode cX7_moves 15 = .ok (.lastore, 1) := by decide +kernel
theorem dX7_moves_16 : decode cX7_moves 16 = .ok (.iinc 3 1, 3) := by decide +kernel
theorem dX7_moves_19 : decode cX7_moves 19 = .ok (.goto (-17), 3) := by decide +kernel
theorem dX7_moves_22 : decode cX7_moves 22 = .ok (.return_, 1) := by decide +kernel
theorem dX7_power_0 : decode cX7_power 0 = .ok (.aload_n 0, 1) := by decide +kernel
theorem dX7_power_1 : decode cX7_power 1 = .ok (.iload_n 1, 1) := by decide +kernel
theorem dX7_power_2 : decode cX7_power 2 = .ok (.invokestatic 216, 3) := by decide +kernel
theorem dX7_power_5 : decode cX7_power 5 = .ok (.ifCond .eq 14, 3) := by decide +kernel
theorem dX7_power_8 : decode cX7_power 8 = .ok (.iload_n 3, 1) := by decide +kernel
theorem dX7_power_9 : decode cX7_power 9 = .ok (.invokestatic 216, 3) := by decide +kernel
theorem dX7_power_12 : decode cX7_power 12 = .ok (.ifCond .eq 7, 3) := by decide +kernel
theorem dX7_power_15 : decode cX7_power 15 = .ok (.iconst 1, 1) := by decide +kernel
theorem dX7_power_16 : decode cX7_power 16 = .ok (.goto 4, 3) := by decide +kernel
theorem dX7_power_19 : decode cX7_power 19 = .ok (.iconst 0, 1) := by decide +kernel
theorem dX7_power_20 : decode cX7_power 20 = .ok (.iconst 1, 1) := by decide +kernel
theorem dX7_power_21 : decode cX7_power 21 = .ok (.invokevirtual 209, 3) := by decide +kernel
theorem dX7_power_24 : decode cX7_power 24 = .ok (.ifCond .ne 20, 3) := by decide +kernel
theorem dX7_power_27 : decode cX7_power 27 = .ok (.aload_n 0, 1) := by decide +kernel
theorem dX7_power_28 : decode cX7_power 28 = .ok (.iload_n 2, 1) := by decide +kernel
theorem dX7_power_29 : decode cX7_power 29 = .ok (.i2l, 1) := by decide +kernel
theorem dX7_power_30 : decode cX7_power 30 = .ok (.lconst 0, 1) := by decide +kernel
theorem dX7_power_31 : decode cX7_power 31 = .ok (.ldc2_w 337, 3) := by decide +kernel
theorem dX7_power_34 : decode cX7_power 34 = .ok (.invokestatic 67, 3) := by decide +kernel
theorem dX7_power_37 : decode cX7_power 37 = .ok (.iconst 2, 1) := by decide +kernel
theorem dX7_power_38 : decode cX7_power 38 = .ok (.invokevirtual 209, 3) := by decide +kernel
theorem dX7_power_41 : decode cX7_power 41 = .ok (.ifCond .eq 5, 3) := by decide +kernel
theorem dX7_power_44 : decode cX7_power 44 = .ok (.iconst 0, 1) := by decide +kernel
theorem dX7_power_45 : decode cX7_power 45 = .ok (.ireturn, 1) := by decide +kernel
theorem dX7_power_46 : decode cX7_power 46 = .ok (.aload_n 0, 1) := by decide +kernel
theorem dX7_power_47 : decode cX7_power 47 = .ok (.invokevirtual 315, 3) := by decide +kernel
theorem dX7_power_50 : decode cX7_power 50 = .ok (.aload_n 0, 1) := by decide +kernel
theorem dX7_power_51 : decode cX7_power 51 = .ok (.iload_n 1, 1) := by decide +kernel
theorem dX7_power_52 : decode cX7_power 52 = .ok (.aload_n 0, 1) := by decide +kernel
theorem dX7_power_53 : decode cX7_power 53 = .ok (.getfield 37, 3) := by decide +kernel
theorem dX7_power_56 : decode cX7_power 56 = .ok (.invokevirtual 252, 3) := by decide +kernel
theorem dX7_power_59 : decode cX7_power 59 = .ok (.iconst 0, 1) := by decide +kernel
theorem dX7_power_60 : decode cX7_power 60 = .ok (.istore 5, 2) := by decide +kernel
theorem dX7_power_62 : decode cX7_power 62 = .ok (.iload 5, 2) := by decide +kernel
theorem dX7_power_64 : decode cX7_power 64 = .ok (.aload_n 0, 1) := by decide +kernel
theorem dX7_power_65 : decode cX7_power 65 = .ok (.invokevirtual 71, 3) := by decide +kernel
theorem dX7_power_68 : decode cX7_power 68 = .ok (.if_icmp .ge 20, 3) := by decide +kernel
theorem dX7_power_71 : decode cX7_power 71 = .ok (.aload_n 0, 1) := by decide +kernel
theorem dX7_power_72 : decode cX7_power 72 = .ok (.getfield 34, 3) := by decide +kernel
theorem dX7_power_75 : decode cX7_power 75 = .ok (.iload 5, 2) := by decide +kernel
theorem dX7_power_77 : decode cX7_power 77 = .ok (.lconst 1, 1) := by decide +kernel
theorem dX7_power_78 : decode cX7_power 78 = .ok (.iload 5, 2) := by decide +kernel
theorem dX7_power_80 : decode cX7_power 80 = .ok (.lshl, 1) := by decide +kernel
theorem dX7_power_81 : decode cX7_power 81 = .ok (.lastore, 1) := by decide +kernel
theorem dX7_power_82 : decode cX7_power 82 = .ok (.iinc 5 1, 3) := by decide +kernel
theorem dX7_power_85 : decode cX7_power 85 = .ok (.goto (-23), 3) := by decide +kernel
theorem dX7_power_88 : decode cX7_power 88 = .ok (.bipush 20, 2) := by decide +kernel
theorem dX7_power_90 : decode cX7_power 90 = .ok (.istore 5, 2) := by decide +kernel
theorem dX7_power_92 : decode cX7_power 92 = .ok (.iload 5, 2) := by decide +kernel
theorem dX7_power_94 : decode cX7_power 94 = .ok (.ifCond .lt 18, 3) := by decide +kernel
theorem dX7_power_97 : decode cX7_power 97 = .ok (.iload_n 2, 1) := by decide +kernel
theorem dX7_power_98 : decode cX7_power 98 = .ok (.iload 5, 2) := by decide +kernel
theorem dX7_power_100 : decode cX7_power 100 = .ok (.ishr, 1) := by decide +kernel
theorem dX7_power_101 : decode cX7_power 101 = .ok (.iconst 1, 1) := by decide +kernel
theorem dX7_power_102 : decode cX7_power 102 = .ok (.iand, 1) := by decide +kernel
theorem dX7_power_103 : decode cX7_power 103 = .ok (.ifCond .ne 9, 3) := by decide +kernel
theorem dX7_power_106 : decode cX7_power 106 = .ok (.iinc 5 (-1), 3) := by decide +kernel
theorem dX7_power_109 : decode cX7_power 109 = .ok (.goto (-17), 3) := by decide +kernel
theorem dX7_power_112 : decode cX7_power 112 = .ok (.iload 5, 2) := by decide +kernel
theorem dX7_power_114 : decode cX7_power 114 = .ok (.ifCond .lt 79, 3) := by decide +kernel
theorem dX7_power_117 : decode cX7_power 117 = .ok (.aload_n 0, 1) := by decide +kernel
theorem dX7_power_118 : decode cX7_power 118 = .ok (.aload_n 0, 1) := by decide +kernel
theorem dX7_power_119 : decode cX7_power 119 = .ok (.getfield 34, 3) := by decide +kernel
theorem dX7_power_122 : decode cX7_power 122 = .ok (.aload_n 0, 1) := by decide +kernel
theorem dX7_power_123 : decode cX7_power 123 = .ok (.getfield 34, 3) := by decide +kernel
theorem dX7_power_126 : decode cX7_power 126 = .ok (.aload_n 0, 1) := by decide +kernel
theorem dX7_power_127 : decode cX7_power 127 = .ok (.getfield 40, 3) := by decide +kernel
theorem dX7_power_130 : decode cX7_power 130 = .ok (.iload 4, 2) := by decide +kernel
theorem dX7_power_132 : decode cX7_power 132 = .ok (.invokevirtual 333, 3) := by decide +kernel
theorem dX7_power_135 : decode cX7_power 135 = .ok (.aload_n 0, 1) := by decide +kernel
theorem dX7_power_136 : decode cX7_power 136 = .ok (.aload_n 0, 1) := by decide +kernel
theorem dX7_power_137 : decode cX7_power 137 = .ok (.getfield 40, 3) := by decide +kernel
theorem dX7_power_140 : decode cX7_power 140 = .ok (.aload_n 0, 1) := by decide +kernel
theorem dX7_power_141 : decode cX7_power 141 = .ok (.getfield 34, 3) := by decide +kernel
theorem dX7_power_144 : decode cX7_power 144 = .ok (.invokevirtual 339, 3) := by decide +kernel
theorem dX7_power_147 : decode cX7_power 147 = .ok (.iload_n 2, 1) := by decide +kernel
theorem dX7_power_148 : decode cX7_power 148 = .ok (.iload 5, 2) := by decide +kernel
theorem dX7_power_150 : decode cX7_power 150 = .ok (.ishr, 1) := by decide +kernel
theorem dX7_power_151 : decode cX7_power 151 = .ok (.iconst 1, 1) := by decide +kernel
theorem dX7_power_152 : decode cX7_power 152 = .ok (.iand, 1) := by decide +kernel
theorem dX7_power_153 : decode cX7_power 153 = .ok (.iconst 1, 1) := by decide +kernel
theorem dX7_power_154 : decode cX7_power 154 = .ok (.if_icmp .ne 33, 3) := by decide +kernel
theorem dX7_power_157 : decode cX7_power 157 = .ok (.aload_n 0, 1) := by decide +kernel
theorem dX7_power_158 : decode cX7_power 158 = .ok (.aload_n 0, 1) := by decide +kernel
theorem dX7_power_159 : decode cX7_power 159 = .ok (.getfield 34, 3) := by decide +kernel
theorem dX7_power_162 : decode cX7_power 162 = .ok (.aload_n 0, 1) := by decide +kernel
theorem dX7_power_163 : decode cX7_power 163 = .ok (.getfield 37, 3) := by decide +kernel
theorem dX7_power_166 : decode cX7_power 166 = .ok (.aload_n 0, 1) := by decide +kernel
theorem dX7_power_167 : decode cX7_power 167 = .ok (.getfield 40, 3) := by decide +kernel
theorem dX7_power_170 : decode cX7_power 170 = .ok (.iload 4, 2) := by decide +kernel
theorem dX7_power_172 : decode cX7_power 172 = .ok (.invokevirtual 333, 3) := by decide +kernel
theorem dX7_power_175 : decode cX7_power 175 = .ok (.aload_n 0, 1) := by decide +kernel
theorem dX7_power_176 : decode cX7_power 176 = .ok (.aload_n 0, 1) := by decide +kernel
theorem dX7_power_177 : decode cX7_power 177 = .ok (.getfield 40, 3) := by decide +kernel
theorem dX7_power_180 : decode cX7_power 180 = .ok (.aload_n 0, 1) := by decide +kernel
theorem dX7_power_181 : decode cX7_power 181 = .ok (.getfield 34, 3) := by decide +kernel
theorem dX7_power_184 : decode cX7_power 184 = .ok (.invokevirtual 339, 3) := by decide +kernel
theorem dX7_power_187 : decode cX7_power 187 = .ok (.iinc 5 (-1), 3) := by decide +kernel
theorem dX7_power_190 : decode cX7_power 190 = .ok (.goto (-78), 3) := by decide +kernel
theorem dX7_power_193 : decode cX7_power 193 = .ok (.aload_n 0, 1) := by decide +kernel
theorem dX7_power_194 : decode cX7_power 194 = .ok (.aload_n 0, 1) := by decide +kernel
theorem dX7_power_195 : decode cX7_power 195 = .ok (.getfield 34, 3) := by decide +kernel
theorem dX7_power_198 : decode cX7_power 198 = .ok (.iload_n 3, 1) := by decide +kernel
theorem dX7_power_199 : decode cX7_power 199 = .ok (.invokevirtual 322, 3) := by decide +kernel
theorem dX7_power_202 : decode cX7_power 202 = .ok (.ireturn, 1) := by decide +kernel
theorem dX7_invert_0 : decode cX7_invert 0 = .ok (.aload_n 0, 1) := by decide +kernel
theorem dX7_invert_1 : decode cX7_invert 1 = .ok (.iload_n 1, 1) := by decide +kernel
theorem dX7_invert_2 : decode cX7_invert 2 = .ok (.invokestatic 216, 3) := by decide +kernel
theorem dX7_invert_5 : decode cX7_invert 5 = .ok (.ifCond .eq 14, 3) := by decide +kernel
theorem dX7_invert_8 : decode cX7_invert 8 = .ok (.iload_n 2, 1) := by decide +kernel
theorem dX7_invert_9 : decode cX7_invert 9 = .ok (.invokestatic 216, 3) := by decide +kernel
theorem dX7_invert_12 : decode cX7_invert 12 = .ok (.ifCond .eq 7, 3) := by decide +kernel
theorem dX7_invert_15 : decode cX7_invert 15 = .ok (.iconst 1, 1) := by decide +kernel
theorem dX7_invert_16 : decode cX7_invert 16 = .ok (.goto 4, 3) := by decide +kernel
theorem dX7_invert_19 : decode cX7_invert 19 = .ok (.iconst 0, 1) := by decide +kernel
theorem dX7_invert_20 : decode cX7_invert 20 = .ok (.iconst 1, 1) := by decide +kernel
theorem dX7_invert_21 : decode cX7_invert 21 = .ok (.invokevirtual 209, 3) := by decide +kernel
theorem dX7_invert_24 : decode cX7_invert 24 = .ok (.ifCond .eq 5, 3) := by decide +kernel
theorem dX7_invert_27 : decode cX7_invert 27 = .ok (.iconst 0, 1) := by decide +kernel
theorem dX7_invert_28 : decode cX7_invert 28 = .ok (.ireturn, 1) := by decide +kernel
theorem dX7_invert_29 : decode cX7_invert 29 = .ok (.iconst 0, 1) := by decide +kernel
theorem dX7_invert_30 : decode cX7_invert 30 = .ok (.istore_n 3, 1) := by decide +kernel
theorem dX7_invert_31 : decode cX7_invert 31 = .ok (.iload_n 3, 1) := by decide +kernel
theorem dX7_invert_32 : decode cX7_invert 32 = .ok (.aload_n 0, 1) := by decide +kernel
theorem dX7_invert_33 : decode cX7_invert 33 = .ok (.invokevirtual 71, 3) := by decide +kernel
theorem dX7_invert_36 : decode cX7_invert 36 = .ok (.if_icmp .ge 18, 3) := by decide +kernel
theorem dX7_invert_39 : decode cX7_invert 39 = .ok (.aload_n 0, 1) := by decide +kernel
theorem dX7_invert_40 : decode cX7_invert 40 = .ok (.getfield 47, 3) := by decide +kernel
theorem dX7_invert_43 : decode cX7_invert 43 = .ok (.iload_n 3, 1) := by decide +kernel
theorem dX7_invert_44 : decode cX7_invert 44 = .ok (.lconst 1, 1) := by decide +kernel
theorem dX7_invert_45 : decode cX7_invert 45 = .ok (.iload_n 3, 1) := by decide +kernel
theorem dX7_invert_46 : decode cX7_invert 46 = .ok (.lshl, 1) := by decide +kernel
theorem dX7_invert_47 : decode cX7_invert 47 = .ok (.lastore, 1) := by decide +kernel
theorem dX7_invert_48 : decode cX7_invert 48 = .ok (.iinc 3 1, 3) := by decide +kernel
theorem dX7_invert_51 : decode cX7_invert 51 = .ok (.goto (-20), 3) := by decide +kernel
theorem dX7_invert_54 : decode cX7_invert 54 = .ok (.aload_n 0, 1) := by decide +kernel
theorem dX7_invert_55 : decode cX7_invert 55 = .ok (.iload_n 1, 1) := by decide +kernel
theorem dX7_invert_56 : decode cX7_invert 56 = .ok (.invokevirtual 303, 3) := by decide +kernel
theorem dX7_invert_59 : decode cX7_invert 59 = .ok (.aload_n 0, 1) := by decide +kernel
theorem dX7_invert_60 : decode cX7_invert 60 = .ok (.getfield 297, 3) := by decide +kernel
theorem dX7_invert_63 : decode cX7_invert 63 = .ok (.aload_n 0, 1) := by decide +kernel
theorem dX7_invert_64 : decode cX7_invert 64 = .ok (.invokevirtual 71, 3) := by decide +kernel
theorem dX7_invert_67 : decode cX7_invert 67 = .ok (.if_icmp .ge 6, 3) := by decide +kernel
theorem dX7_invert_70 : decode cX7_invert 70 = .ok (.bipush (-3), 2) := by decide +kernel
theorem dX7_invert_72 : decode cX7_invert 72 = .ok (.ireturn, 1) := by decide +kernel
theorem dX7_invert_73 : decode cX7_invert 73 = .ok (.aload_n 0, 1) := by decide +kernel
theorem dX7_invert_74 : decode cX7_invert 74 = .ok (.invokevirtual 315, 3) := by decide +kernel
theorem dX7_invert_77 : decode cX7_invert 77 = .ok (.aload_n 0, 1) := by decide +kernel
theorem dX7_invert_78 : decode cX7_invert 78 = .ok (.aload_n 0, 1) := by decide +kernel
theorem dX7_invert_79 : decode cX7_invert 79 = .ok (.getfield 47, 3) := by decide +kernel
theorem dX7_invert_82 : decode cX7_invert 82 = .ok (.iload_n 2, 1) := by decide +kernel
theorem dX7_invert_83 : decode cX7_invert 83 = .ok (.invokevirtual 322, 3) := by decide +kernel
theorem dX7_invert_86 : decode cX7_invert 86 = .ok (.ireturn, 1) := by decide +kernel
theorem dX7_close_0 : decode cX7_close 0 = .ok (.aload_n 0, 1) := by decide +kernel
theorem dX7_close_1 : decode cX7_close 1 = .ok (.iload_n 1, 1) := by decide +kernel
theorem dX7_close_2 : decode cX7_close 2 = .ok (.invokestatic 216, 3) := by decide +kernel
theorem dX7_close_5 : decode cX7_close 5 = .ok (.ifCond .eq 14, 3) := by decide +kernel
theorem dX7_close_8 : decode cX7_close 8 = .ok (.iload_n 2, 1) := by decide +kernel
theorem dX7_close_9 : decode cX7_close 9 = .ok (.invokestatic 216, 3) := by decide +kernel
theorem dX7_close_12 : decode cX7_close 12 = .ok (.ifCond .eq 7, 3) := by decide +kernel
theorem dX7_close_15 : decode cX7_close 15 = .ok (.iconst 1, 1) := by decide +kernel
theorem dX7_close_16 : decode cX7_close 16 = .ok (.goto 4, 3) := by decide +kernel
theorem dX7_close_19 : decode cX7_close 19 = .ok (.iconst 0, 1) := by decide +kernel
theorem dX7_close_20 : decode cX7_close 20 = .ok (.iconst 1, 1) := by decide +kernel
theorem dX7_close_21 : decode cX7_close 21 = .ok (.invokevirtual 209, 3) := by decide +kernel
theorem dX7_close_24 : decode cX7_close 24 = .ok (.ifCond .eq 5, 3) := by decide +kernel
theorem dX7_close_27 : decode cX7_close 27 = .ok (.iconst 0, 1) := by decide +kernel
theorem dX7_close_28 : decode cX7_close 28 = .ok (.ireturn, 1) := by decide +kernel
theorem dX7_close_29 : decode cX7_close 29 = .ok (.aload_n 0, 1) := by decide +kernel
theorem dX7_close_30 : decode cX7_close 30 = .ok (.invokevirtual 315, 3) := by decide +kernel
theorem dX7_close_33 : decode cX7_close 33 = .ok (.aload_n 0, 1) := by decide +kernel
theorem dX7_close_34 : decode cX7_close 34 = .ok (.iload_n 1, 1) := by decide +kernel
theorem dX7_close_35 : decode cX7_close 35 = .ok (.invokevirtual 260, 3) := by decide +kernel
theorem dX7_close_38 : decode cX7_close 38 = .ok (.aload_n 0, 1) := by decide +kernel
theorem dX7_close_39 : decode cX7_close 39 = .ok (.aload_n 0, 1) := by decide +kernel
theorem dX7_close_40 : decode cX7_close 40 = .ok (.getfield 34, 3) := by decide +kernel
theorem dX7_close_43 : decode cX7_close 43 = .ok (.iload_n 2, 1) := by decide +kernel
theorem dX7_close_44 : decode cX7_close 44 = .ok (.invokevirtual 322, 3) := by decide +kernel
theorem dX7_close_47 : decode cX7_close 47 = .ok (.ireturn, 1) := by decide +kernel
theorem dX7_isSame_0 : decode cX7_isSame 0 = .ok (.iconst 0, 1) := by decide +kernel
theorem dX7_isSame_1 : decode cX7_isSame 1 = .ok (.istore_n 3, 1) := by decide +kernel
theorem dX7_isSame_2 : decode cX7_isSame 2 = .ok (.iload_n 3, 1) := by decide +kernel
theorem dX7_isSame_3 : decode cX7_isSame 3 = .ok (.aload_n 0, 1) := by decide +kernel
theorem dX7_isSame_4 : decode cX7_isSame 4 = .ok (.invokevirtual 71, 3) := by decide +kernel
theorem dX7_isSame_7 : decode cX7_isSame 7 = .ok (.if_icmp .ge 21, 3) := by decide +kernel
theorem dX7_isSame_10 : decode cX7_isSame 10 = .ok (.aload_n 1, 1) := by decide +kernel
theorem dX7_isSame_11 : decode cX7_isSame 11 = .ok (.iload_n 3, 1) := by decide +kernel
theorem dX7_isSame_12 : decode cX7_isSame 12 = .ok (.laload, 1) := by decide +kernel
theorem dX7_isSame_13 : decode cX7_isSame 13 = .ok (.aload_n 2, 1) := by decide +kernel
theorem dX7_isSame_14 : decode cX7_isSame 14 = .ok (.iload_n 3, 1) := by decide +kernel
theorem dX7_isSame_15 : decode cX7_isSame 15 = .ok (.laload, 1) := by decide +kernel
theorem dX7_isSame_16 : decode cX7_isSame 16 = .ok (.lcmp, 1) := by decide +kernel
theorem dX7_isSame_17 : decode cX7_isSame 17 = .ok (.ifCond .eq 5, 3) := by decide +kernel
theorem dX7_isSame_20 : decode cX7_isSame 20 = .ok (.iconst 0, 1) := by decide +kernel
theorem dX7_isSame_21 : decode cX7_isSame 21 = .ok (.ireturn, 1) := by decide +kernel
theorem dX7_isSame_22 : decode cX7_isSame 22 = .ok (.iinc 3 1, 3) := by decide +kernel
theorem dX7_isSame_25 : decode cX7_isSame 25 = .ok (.goto (-23), 3) := by decide +kernel
theorem dX7_isSame_28 : decode cX7_isSame 28 = .ok (.iconst 1, 1) := by decide +kernel
theorem dX7_isSame_29 : decode cX7_isSame 29 = .ok (.ireturn, 1) := by decide +kernel
theorem dX7_reduce_0 : decode cX7_reduce 0 = .ok (.aload_n 0, 1) := by decide +kernel
theorem dX7_reduce_1 : decode cX7_reduce 1 = .ok (.iload_n 1, 1) := by decide +kernel
theorem dX7_reduce_2 : decode cX7_reduce 2 = .ok (.invokestatic 216, 3) := by decide +kernel
theorem dX7_reduce_5 : decode cX7_reduce 5 = .ok (.ifCond .eq 14, 3) := by decide +kernel
theorem dX7_reduce_8 : decode cX7_reduce 8 = .ok (.iload_n 2, 1) := by decide +kernel
theorem dX7_reduce_9 : decode cX7_reduce 9 = .ok (.invokestatic 216, 3) := by decide +kernel
theorem dX7_reduce_12 : decode cX7_reduce 12 = .ok (.ifCond .eq 7, 3) := by decide +kernel
theorem dX7_reduce_15 : decode cX7_reduce 15 = .ok (.iconst 1, 1) := by decide +kernel
theorem dX7_reduce_16 : decode cX7_reduce 16 = .ok (.goto 4, 3) := by decide +kernel
theorem dX7_reduce_19 : decode cX7_reduce 19 = .ok (.iconst 0, 1) := by decide +kernel
theorem dX7_reduce_20 : decode cX7_reduce 20 = .ok (.iconst 1, 1) := by decide +kernel
theorem dX7_reduce_21 : decode cX7_reduce 21 = .ok (.invokevirtual 209, 3) := by decide +kernel
theorem dX7_reduce_24 : decode cX7_reduce 24 = .ok (.ifCond .eq 5, 3) := by decide +kernel
theorem dX7_reduce_27 : decode cX7_reduce 27 = .ok (.iconst 0, 1) := by decide +kernel
theorem dX7_reduce_28 : decode cX7_reduce 28 = .ok (.ireturn, 1) := by decide +kernel
theorem dX7_reduce_29 : decode cX7_reduce 29 = .ok (.aload_n 0, 1) := by decide +kernel
theorem dX7_reduce_30 : decode cX7_reduce 30 = .ok (.invokevirtual 315, 3) := by decide +kernel
theorem dX7_reduce_33 : decode cX7_reduce 33 = .ok (.aload_n 0, 1) := by decide +kernel
theorem dX7_reduce_34 : decode cX7_reduce 34 = .ok (.iload_n 1, 1) := by decide +kernel
theorem dX7_reduce_35 : decode cX7_reduce 35 = .ok (.aload_n 0, 1) := by decide +kernel
theorem dX7_reduce_36 : decode cX7_reduce 36 = .ok (.getfield 40, 3) := by decide +kernel
theorem dX7_reduce_39 : decode cX7_reduce 39 = .ok (.invokevirtual 252, 3) := by decide +kernel
theorem dX7_reduce_42 : decode cX7_reduce 42 = .ok (.aload_n 0, 1) := by decide +kernel
theorem dX7_reduce_43 : decode cX7_reduce 43 = .ok (.iload_n 1, 1) := by decide +kernel
theorem dX7_reduce_44 : decode cX7_reduce 44 = .ok (.invokevirtual 260, 3) := by decide +kernel
theorem dX7_reduce_47 : decode cX7_reduce 47 = .ok (.iconst 0, 1) := by decide +kernel
theorem dX7_reduce_48 : decode cX7_reduce 48 = .ok (.istore_n 3, 1) := by decide +kernel
theorem dX7_reduce_49 : decode cX7_reduce 49 = .ok (.iload_n 3, 1) := by decide +kernel
theorem dX7_reduce_50 : decode cX7_reduce 50 = .ok (.aload_n 0, 1) := by decide +kernel
theorem dX7_reduce_51 : decode cX7_reduce 51 = .ok (.invokevirtual 71, 3) := by decide +kernel
theorem dX7_reduce_54 : decode cX7_reduce 54 = .ok (.aload_n 0, 1) := by decide +kernel
theorem dX7_reduce_55 : decode cX7_reduce 55 = .ok (.invokevirtual 71, 3) := by decide +kernel
theorem dX7_reduce_58 : decode cX7_reduce 58 = .ok (.imul, 1) := by decide +kernel
theorem dX7_reduce_59 : decode cX7_reduce 59 = .ok (.if_icmp .ge 106, 3) := by decide +kernel
theorem dX7_reduce_62 : decode cX7_reduce 62 = .ok (.iload_n 3, 1) := by decide +kernel
theorem dX7_reduce_63 : decode cX7_reduce 63 = .ok (.aload_n 0, 1) := by decide +kernel
theorem dX7_reduce_64 : decode cX7_reduce 64 = .ok (.invokevirtual 71, 3) := by decide +kernel
theorem dX7_reduce_67 : decode cX7_reduce 67 = .ok (.idiv, 1) := by decide +kernel
theorem dX7_reduce_68 : decode cX7_reduce 68 = .ok (.istore 4, 2) := by decide +kernel
theorem dX7_reduce_70 : decode cX7_reduce 70 = .ok (.iload_n 3, 1) := by decide +kernel
theorem dX7_reduce_71 : decode cX7_reduce 71 = .ok (.aload_n 0, 1) := by decide +kernel
theorem dX7_reduce_72 : decode cX7_reduce 72 = .ok (.invokevirtual 71, 3) := by decide +kernel
theorem dX7_reduce_75 : decode cX7_reduce 75 = .ok (.irem, 1) := by decide +kernel
theorem dX7_reduce_76 : decode cX7_reduce 76 = .ok (.istore 5, 2) := by decide +kernel
theorem dX7_reduce_78 : decode cX7_reduce 78 = .ok (.aload_n 0, 1) := by decide +kernel
theorem dX7_reduce_79 : decode cX7_reduce 79 = .ok (.getfield 40, 3) := by decide +kernel
theorem dX7_reduce_82 : decode cX7_reduce 82 = .ok (.iload 4, 2) := by decide +kernel
theorem dX7_reduce_84 : decode cX7_reduce 84 = .ok (.laload, 1) := by decide +kernel
theorem dX7_reduce_85 : decode cX7_reduce 85 = .ok (.iload 5, 2) := by decide +kernel
theorem dX7_reduce_87 : decode cX7_reduce 87 = .ok (.invokestatic 231, 3) := by decide +kernel
theorem dX7_reduce_90 : decode cX7_reduce 90 = .ok (.ifCond .ne 6, 3) := by decide +kernel
theorem dX7_reduce_93 : decode cX7_reduce 93 = .ok (.goto 66, 3) := by decide +kernel
theorem dX7_reduce_96 : decode cX7_reduce 96 = .ok (.aload_n 0, 1) := by decide +kernel
theorem dX7_reduce_97 : decode cX7_reduce 97 = .ok (.aload_n 0, 1) := by decide +kernel
theorem dX7_reduce_98 : decode cX7_reduce 98 = .ok (.getfield 40, 3) := by decide +kernel
theorem dX7_reduce_101 : decode cX7_reduce 101 = .ok (.aload_n 0, 1) := by decide +kernel
theorem dX7_reduce_102 : decode cX7_reduce 102 = .ok (.getfield 37, 3) := by decide +kernel
theorem dX7_reduce_105 : decode cX7_reduce 105 = .ok (.invokevirtual 339, 3) := by decide +kernel
theorem dX7_reduce_108 : decode cX7_reduce 108 = .ok (.aload_n 0, 1) := by decide +kernel
theorem dX7_reduce_109 : decode cX7_reduce 109 = .ok (.getfield 37, 3) := by decide +kernel
theorem dX7_reduce_112 : decode cX7_reduce 112 = .ok (.iload 4, 2) := by decide +kernel
theorem dX7_reduce_114 : decode cX7_reduce 114 = .ok (.dup2, 1) := by decide +kernel
theorem dX7_reduce_115 : decode cX7_reduce 115 = .ok (.laload, 1) := by decide +kernel
theorem dX7_reduce_116 : decode cX7_reduce 116 = .ok (.lconst 1, 1) := by decide +kernel
theorem dX7_reduce_117 : decode cX7_reduce 117 = .ok (.iload 5, 2) := by decide +kernel
theorem dX7_reduce_119 : decode cX7_reduce 119 = .ok (.lshl, 1) := by decide +kernel
theorem dX7_reduce_120 : decode cX7_reduce 120 = .ok (.lxor, 1) := by decide +kernel
theorem dX7_reduce_121 : decode cX7_reduce 121 = .ok (.lastore, 1) := by decide +kernel
theorem dX7_reduce_122 : decode cX7_reduce 122 = .ok (.aload_n 0, 1) := by decide +kernel
theorem dX7_reduce_123 : decode cX7_reduce 123 = .ok (.aload_n 0, 1) := by decide +kernel
theorem dX7_reduce_124 : decode cX7_reduce 124 = .ok (.getfield 37, 3) := by decide +kernel
theorem dX7_reduce_127 : decode cX7_reduce 127 = .ok (.invokevirtual 256, 3) := by decide +kernel
theorem dX7_reduce_130 : decode cX7_reduce 130 = .ok (.aload_n 0, 1) := by decide +kernel
theorem dX7_reduce_131 : decode cX7_reduce 131 = .ok (.aload_n 0, 1) := by decide +kernel
theorem dX7_reduce_132 : decode cX7_reduce 132 = .ok (.getfield 37, 3) := by decide +kernel
theorem dX7_reduce_135 : decode cX7_reduce 135 = .ok (.aload_n 0, 1) := by decide +kernel
theorem dX7_reduce_136 : decode cX7_reduce 136 = .ok (.getfield 34, 3) := by decide +kernel
theorem dX7_reduce_139 : decode cX7_reduce 139 = .ok (.invokevirtual 343, 3) := by decide +kernel
theorem dX7_reduce_142 : decode cX7_reduce 142 = .ok (.ifCond .eq 17, 3) := by decide +kernel
theorem dX7_reduce_145 : decode cX7_reduce 145 = .ok (.aload_n 0, 1) := by decide +kernel
theorem dX7_reduce_146 : decode cX7_reduce 146 = .ok (.getfield 40, 3) := by decide +kernel
theorem dX7_reduce_149 : decode cX7_reduce 149 = .ok (.iload 4, 2) := by decide +kernel
theorem dX7_reduce_151 : decode cX7_reduce 151 = .ok (.dup2, 1) := by decide +kernel
theorem dX7_reduce_152 : decode cX7_reduce 152 = .ok (.laload, 1) := by decide +kernel
theorem dX7_reduce_153 : decode cX7_reduce 153 = .ok (.lconst 1, 1) := by decide +kernel
theorem dX7_reduce_154 : decode cX7_reduce 154 = .ok (.iload 5, 2) := by decide +kernel
theorem dX7_reduce_156 : decode cX7_reduce 156 = .ok (.lshl, 1) := by decide +kernel
theorem dX7_reduce_157 : decode cX7_reduce 157 = .ok (.lxor, 1) := by decide +kernel
theorem dX7_reduce_158 : decode cX7_reduce 158 = .ok (.lastore, 1) := by decide +kernel
theorem dX7_reduce_159 : decode cX7_reduce 159 = .ok (.iinc 3 1, 3) := by decide +kernel
theorem dX7_reduce_162 : decode cX7_reduce 162 = .ok (.goto (-113), 3) := by decide +kernel
theorem dX7_reduce_165 : decode cX7_reduce 165 = .ok (.aload_n 0, 1) := by decide +kernel
theorem dX7_reduce_166 : decode cX7_reduce 166 = .ok (.aload_n 0, 1) := by decide +kernel
theorem dX7_reduce_167 : decode cX7_reduce 167 = .ok (.getfield 40, 3) := by decide +kernel
theorem dX7_reduce_170 : decode cX7_reduce 170 = .ok (.iload_n 2, 1) := by decide +kernel
theorem dX7_reduce_171 : decode cX7_reduce 171 = .ok (.invokevirtual 322, 3) := by decide +kernel
theorem dX7_reduce_174 : decode cX7_reduce 174 = .ok (.ireturn, 1) := by decide +kernel
theorem dX7_exchanged_0 : decode cX7_exchanged 0 = .ok (.lload_n 0, 1) := by decide +kernel
theorem dX7_exchanged_1 : decode cX7_exchanged 1 = .ok (.iload_n 2, 1) := by decide +kernel
theorem dX7_exchanged_2 : decode cX7_exchanged 2 = .ok (.invokestatic 231, 3) := by decide +kernel
theorem dX7_exchanged_5 : decode cX7_exchanged 5 = .ok (.lload_n 0, 1) := by decide +kernel
theorem dX7_exchanged_6 : decode cX7_exchanged 6 = .ok (.iload_n 3, 1) := by decide +kernel
theorem dX7_exchanged_7 : decode cX7_exchanged 7 = .ok (.invokestatic 231, 3) := by decide +kernel
theorem dX7_exchanged_10 : decode cX7_exchanged 10 = .ok (.ixor, 1) := by decide +kernel
theorem dX7_exchanged_11 : decode cX7_exchanged 11 = .ok (.istore 4, 2) := by decide +kernel
theorem dX7_exchanged_13 : decode cX7_exchanged 13 = .ok (.lload_n 0, 1) := by decide +kernel
theorem dX7_exchanged_14 : decode cX7_exchanged 14 = .ok (.iload 4, 2) := by decide +kernel
theorem dX7_exchanged_16 : decode cX7_exchanged 16 = .ok (.iconst 1, 1) := by decide +kernel
theorem dX7_exchanged_17 : decode cX7_exchanged 17 = .ok (.if_icmp .ne 13, 3) := by decide +kernel
theorem dX7_exchanged_20 : decode cX7_exchanged 20 = .ok (.lconst 1, 1) := by decide +kernel
theorem dX7_exchanged_21 : decode cX7_exchanged 21 = .ok (.iload_n 2, 1) := by decide +kernel
theorem dX7_exchanged_22 : decode cX7_exchanged 22 = .ok (.lshl, 1) := by decide +kernel
theorem dX7_exchanged_23 : decode cX7_exchanged 23 = .ok (.lconst 1, 1) := by decide +kernel
theorem dX7_exchanged_24 : decode cX7_exchanged 24 = .ok (.iload_n 3, 1) := by decide +kernel
theorem dX7_exchanged_25 : decode cX7_exchanged 25 = .ok (.lshl, 1) := by decide +kernel
theorem dX7_exchanged_26 : decode cX7_exchanged 26 = .ok (.lxor, 1) := by decide +kernel
theorem dX7_exchanged_27 : decode cX7_exchanged 27 = .ok (.goto 4, 3) := by decide +kernel
theorem dX7_exchanged_30 : decode cX7_exchanged 30 = .ok (.lconst 0, 1) := by decide +kernel
theorem dX7_exchanged_31 : decode cX7_exchanged 31 = .ok (.lxor, 1) := by decide +kernel
theorem dX7_exchanged_32 : decode cX7_exchanged 32 = .ok (.lreturn, 1) := by decide +kernel
theorem dX7_exchange_0 : decode cX7_exchange 0 = .ok (.aload_n 0, 1) := by decide +kernel
theorem dX7_exchange_1 : decode cX7_exchange 1 = .ok (.aload_n 0, 1) := by decide +kernel
theorem dX7_exchange_2 : decode cX7_exchange 2 = .ok (.iload_n 1, 1) := by decide +kernel
theorem dX7_exchange_3 : decode cX7_exchange 3 = .ok (.iload_n 2, 1) := by decide +kernel
theorem dX7_exchange_4 : decode cX7_exchange 4 = .ok (.invokevirtual 223, 3) := by decide +kernel
theorem dX7_exchange_7 : decode cX7_exchange 7 = .ok (.ifCond .eq 15, 3) := by decide +kernel
theorem dX7_exchange_10 : decode cX7_exchange 10 = .ok (.aload_n 0, 1) := by decide +kernel
theorem dX7_exchange_11 : decode cX7_exchange 11 = .ok (.iload_n 3, 1) := by decide +kernel
theorem dX7_exchange_12 : decode cX7_exchange 12 = .ok (.invokevirtual 220, 3) := by decide +kernel
theorem dX7_exchange_15 : decode cX7_exchange 15 = .ok (.ifCond .eq 7, 3) := by decide +kernel
theorem dX7_exchange_18 : decode cX7_exchange 18 = .ok (.iconst 1, 1) := by decide +kernel
theorem dX7_exchange_19 : decode cX7_exchange 19 = .ok (.goto 4, 3) := by decide +kernel
theorem dX7_exchange_22 : decode cX7_exchange 22 = .ok (.iconst 0, 1) := by decide +kernel
theorem dX7_exchange_23 : decode cX7_exchange 23 = .ok (.iconst 1, 1) := by decide +kernel
theorem dX7_exchange_24 : decode cX7_exchange 24 = .ok (.invokevirtual 209, 3) := by decide +kernel
theorem dX7_exchange_27 : decode cX7_exchange 27 = .ok (.ifCond .eq 5, 3) := by decide +kernel
theorem dX7_exchange_30 : decode cX7_exchange 30 = .ok (.iconst 0, 1) := by decide +kernel
theorem dX7_exchange_31 : decode cX7_exchange 31 = .ok (.ireturn, 1) := by decide +kernel
theorem dX7_exchange_32 : decode cX7_exchange 32 = .ok (.aload_n 0, 1) := by decide +kernel
theorem dX7_exchange_33 : decode cX7_exchange 33 = .ok (.invokevirtual 315, 3) := by decide +kernel
theorem dX7_exchange_36 : decode cX7_exchange 36 = .ok (.iconst 0, 1) := by decide +kernel
theorem dX7_exchange_37 : decode cX7_exchange 37 = .ok (.istore 4, 2) := by decide +kernel
theorem dX7_exchange_39 : decode cX7_exchange 39 = .ok (.iconst 0, 1) := by decide +kernel
theorem dX7_exchange_40 : decode cX7_exchange 40 = .ok (.istore 5, 2) := by decide +kernel
theorem dX7_exchange_42 : decode cX7_exchange 42 = .ok (.iload 5, 2) := by decide +kernel
theorem dX7_exchange_44 : decode cX7_exchange 44 = .ok (.aload_n 0, 1) := by decide +kernel
theorem dX7_exchange_45 : decode cX7_exchange 45 = .ok (.invokevirtual 71, 3) := by decide +kernel
theorem dX7_exchange_48 : decode cX7_exchange 48 = .ok (.if_icmp .ge 75, 3) := by decide +kernel
theorem dX7_exchange_51 : decode cX7_exchange 51 = .ok (.iload 5, 2) := by decide +kernel
theorem dX7_exchange_53 : decode cX7_exchange 53 = .ok (.iload_n 2, 1) := by decide +kernel
theorem dX7_exchange_54 : decode cX7_exchange 54 = .ok (.if_icmp .ne 7, 3) := by decide +kernel
theorem dX7_exchange_57 : decode cX7_exchange 57 = .ok (.iload_n 3, 1) := by decide +kernel
theorem dX7_exchange_58 : decode cX7_exchange 58 = .ok (.goto 15, 3) := by decide +kernel
theorem dX7_exchange_61 : decode cX7_exchange 61 = .ok (.iload 5, 2) := by decide +kernel
theorem dX7_exchange_63 : decode cX7_exchange 63 = .ok (.iload_n 3, 1) := by decide +kernel
theorem dX7_exchange_64 : decode cX7_exchange 64 = .ok (.if_icmp .ne 7, 3) := by decide +kernel
theorem dX7_exchange_67 : decode cX7_exchange 67 = .ok (.iload_n 2, 1) := by decide +kernel
theorem dX7_exchange_68 : decode cX7_exchange 68 = .ok (.goto 5, 3) := by decide +kernel
theorem dX7_exchange_71 : decode cX7_exchange 71 = .ok (.iload 5, 2) := by decide +kernel
theorem dX7_exchange_73 : decode cX7_exchange 73 = .ok (.istore 6, 2) := by decide +kernel
theorem dX7_exchange_75 : decode cX7_exchange 75 = .ok (.aload_n 0, 1) := by decide +kernel
theorem dX7_exchange_76 : decode cX7_exchange 76 = .ok (.getfield 34, 3) := by decide +kernel
theorem dX7_exchange_79 : decode cX7_exchange 79 = .ok (.iload 5, 2) := by decide +kernel
theorem dX7_exchange_81 : decode cX7_exchange 81 = .ok (.aload_n 0, 1) := by decide +kernel
theorem dX7_exchange_82 : decode cX7_exchange 82 = .ok (.iload_n 1, 1) := by decide +kernel
theorem dX7_exchange_83 : decode cX7_exchange 83 = .ok (.iload 6, 2) := by decide +kernel
theorem dX7_exchange_85 : decode cX7_exchange 85 = .ok (.invokevirtual 227, 3) := by decide +kernel
theorem dX7_exchange_88 : decode cX7_exchange 88 = .ok (.iload_n 2, 1) := by decide +kernel
theorem dX7_exchange_89 : decode cX7_exchange 89 = .ok (.iload_n 3, 1) := by decide +kernel
theorem dX7_exchange_90 : decode cX7_exchange 90 = .ok (.invokestatic 347, 3) := by decide +kernel
theorem dX7_exchange_93 : decode cX7_exchange 93 = .ok (.lastore, 1) := by decide +kernel
theorem dX7_exchange_94 : decode cX7_exchange 94 = .ok (.iload 4, 2) := by decide +kernel
theorem dX7_exchange_96 : decode cX7_exchange 96 = .ok (.aload_n 0, 1) := by decide +kernel
theorem dX7_exchange_97 : decode cX7_exchange 97 = .ok (.getfield 34, 3) := by decide +kernel
theorem dX7_exchange_100 : decode cX7_exchange 100 = .ok (.iload 5, 2) := by decide +kernel
theorem dX7_exchange_102 : decode cX7_exchange 102 = .ok (.laload, 1) := by decide +kernel
theorem dX7_exchange_103 : decode cX7_exchange 103 = .ok (.aload_n 0, 1) := by decide +kernel
theorem dX7_exchange_104 : decode cX7_exchange 104 = .ok (.iload_n 1, 1) := by decide +kernel
theorem dX7_exchange_105 : decode cX7_exchange 105 = .ok (.iload 5, 2) := by decide +kernel
theorem dX7_exchange_107 : decode cX7_exchange 107 = .ok (.invokevirtual 227, 3) := by decide +kernel
theorem dX7_exchange_110 : decode cX7_exchange 110 = .ok (.lxor, 1) := by decide +kernel
theorem dX7_exchange_111 : decode cX7_exchange 111 = .ok (.invokestatic 234, 3) := by decide +kernel
theorem dX7_exchange_114 : decode cX7_exchange 114 = .ok (.iadd, 1) := by decide +kernel
theorem dX7_exchange_115 : decode cX7_exchange 115 = .ok (.istore 4, 2) := by decide +kernel
theorem dX7_exchange_117 : decode cX7_exchange 117 = .ok (.iinc 5 1, 3) := by decide +kernel
theorem dX7_exchange_120 : decode cX7_exchange 120 = .ok (.goto (-78), 3) := by decide +kernel
theorem dX7_exchange_123 : decode cX7_exchange 123 = .ok (.aload_n 0, 1) := by decide +kernel
theorem dX7_exchange_124 : decode cX7_exchange 124 = .ok (.aload_n 0, 1) := by decide +kernel
theorem dX7_exchange_125 : decode cX7_exchange 125 = .ok (.getfield 34, 3) := by decide +kernel
theorem dX7_exchange_128 : decode cX7_exchange 128 = .ok (.iload_n 1, 1) := by decide +kernel
theorem dX7_exchange_129 : decode cX7_exchange 129 = .ok (.invokevirtual 322, 3) := by decide +kernel
theorem dX7_exchange_132 : decode cX7_exchange 132 = .ok (.istore 5, 2) := by decide +kernel
theorem dX7_exchange_134 : decode cX7_exchange 134 = .ok (.iload 4, 2) := by decide +kernel
theorem dX7_exchange_136 : decode cX7_exchange 136 = .ok (.ireturn, 1) := by decide +kernel
theorem dX7_keep_0 : decode cX7_keep 0 = .ok (.aload_n 0, 1) := by decide +kernel
theorem dX7_keep_1 : decode cX7_keep 1 = .ok (.iload_n 1, 1) := by decide +kernel
theorem dX7_keep_2 : decode cX7_keep 2 = .ok (.invokestatic 216, 3) := by decide +kernel
theorem dX7_keep_5 : decode cX7_keep 5 = .ok (.iconst 1, 1) := by decide +kernel
theorem dX7_keep_6 : decode cX7_keep 6 = .ok (.invokevirtual 209, 3) := by decide +kernel
theorem dX7_keep_9 : decode cX7_keep 9 = .ok (.ifCond .eq 5, 3) := by decide +kernel
theorem dX7_keep_12 : decode cX7_keep 12 = .ok (.iconst 0, 1) := by decide +kernel
theorem dX7_keep_13 : decode cX7_keep 13 = .ok (.ireturn, 1) := by decide +kernel
theorem dX7_keep_14 : decode cX7_keep 14 = .ok (.aload_n 0, 1) := by decide +kernel
theorem dX7_keep_15 : decode cX7_keep 15 = .ok (.invokevirtual 315, 3) := by decide +kernel
theorem dX7_keep_18 : decode cX7_keep 18 = .ok (.aload_n 0, 1) := by decide +kernel
theorem dX7_keep_19 : decode cX7_keep 19 = .ok (.getfield 9, 3) := by decide +kernel
theorem dX7_keep_22 : decode cX7_keep 22 = .ok (.iconst 4, 1) := by decide +kernel
theorem dX7_keep_23 : decode cX7_keep 23 = .ok (.iload_n 1, 1) := by decide +kernel
theorem dX7_keep_24 : decode cX7_keep 24 = .ok (.iadd, 1) := by decide +kernel
theorem dX7_keep_25 : decode cX7_keep 25 = .ok (.iload_n 2, 1) := by decide +kernel
theorem dX7_keep_26 : decode cX7_keep 26 = .ok (.ifCond .eq 7, 3) := by decide +kernel
theorem dX7_keep_29 : decode cX7_keep 29 = .ok (.lconst 1, 1) := by decide +kernel
theorem dX7_keep_30 : decode cX7_keep 30 = .ok (.goto 4, 3) := by decide +kernel
theorem dX7_keep_33 : decode cX7_keep 33 = .ok (.lconst 0, 1) := by decide +kernel
theorem dX7_keep_34 : decode cX7_keep 34 = .ok (.lastore, 1) := by decide +kernel
theorem dX7_keep_35 : decode cX7_keep 35 = .ok (.aload_n 0, 1) := by decide +kernel
theorem dX7_keep_36 : decode cX7_keep 36 = .ok (.iload_n 1, 1) := by decide +kernel
theorem dX7_keep_37 : decode cX7_keep 37 = .ok (.invokevirtual 204, 3) := by decide +kernel
theorem dX7_keep_40 : decode cX7_keep 40 = .ok (.aload_n 0, 1) := by decide +kernel
theorem dX7_keep_41 : decode cX7_keep 41 = .ok (.invokevirtual 213, 3) := by decide +kernel
theorem dX7_keep_44 : decode cX7_keep 44 = .ok (.ireturn, 1) := by decide +kernel
theorem dX7_setBlock_0 : decode cX7_setBlock 0 = .ok (.aload_n 0, 1) := by decide +kernel
theorem dX7_setBlock_1 : decode cX7_setBlock 1 = .ok (.iload_n 1, 1) := by decide +kernel
theorem dX7_setBlock_2 : decode cX7_setBlock 2 = .ok (.i2l, 1) := by decide +kernel
theorem dX7_setBlock_3 : decode cX7_setBlock 3 = .ok (.lconst 1, 1) := by decide +kernel
theorem dX7_setBlock_4 : decode cX7_setBlock 4 = .ok (.ldc2_w 351, 3) := by decide +kernel
theorem dX7_setBlock_7 : decode cX7_setBlock 7 = .ok (.invokestatic 67, 3) := by decide +kernel
theorem dX7_setBlock_10 : decode cX7_setBlock 10 = .ok (.iconst 1, 1) := by decide +kernel
theorem dX7_setBlock_11 : decode cX7_setBlock 11 = .ok (.invokevirtual 209, 3) := by decide +kernel
theorem dX7_setBlock_14 : decode cX7_setBlock 14 = .ok (.ifCond .eq 5, 3) := by decide +kernel
theorem dX7_setBlock_17 : decode cX7_setBlock 17 = .ok (.iconst 0, 1) := by decide +kernel
theorem dX7_setBlock_18 : decode cX7_setBlock 18 = .ok (.ireturn, 1) := by decide +kernel
theorem dX7_setBlock_19 : decode cX7_setBlock 19 = .ok (.aload_n 0, 1) := by decide +kernel
theorem dX7_setBlock_20 : decode cX7_setBlock 20 = .ok (.invokevirtual 315, 3) := by decide +kernel
theorem dX7_setBlock_23 : decode cX7_setBlock 23 = .ok (.aload_n 0, 1) := by decide +kernel
theorem dX7_setBlock_24 : decode cX7_setBlock 24 = .ok (.getfield 9, 3) := by decide +kernel
theorem dX7_setBlock_27 : decode cX7_setBlock 27 = .ok (.iconst 1, 1) := by decide +kernel
theorem dX7_setBlock_28 : decode cX7_setBlock 28 = .ok (.laload, 1) := by decide +kernel
theorem dX7_setBlock_29 : decode cX7_setBlock 29 = .ok (.l2i, 1) := by decide +kernel
theorem dX7_setBlock_30 : decode cX7_setBlock 30 = .ok (.istore_n 2, 1) := by decide +kernel
theorem dX7_setBlock_31 : decode cX7_setBlock 31 = .ok (.aload_n 0, 1) := by decide +kernel
theorem dX7_setBlock_32 : decode cX7_setBlock 32 = .ok (.getfield 9, 3) := by decide +kernel
theorem dX7_setBlock_35 : decode cX7_setBlock 35 = .ok (.iconst 1, 1) := by decide +kernel
theorem dX7_setBlock_36 : decode cX7_setBlock 36 = .ok (.iload_n 1, 1) := by decide +kernel
theorem dX7_setBlock_37 : decode cX7_setBlock 37 = .ok (.i2l, 1) := by decide +kernel
theorem dX7_setBlock_38 : decode cX7_setBlock 38 = .ok (.lastore, 1) := by decide +kernel
theorem dX7_setBlock_39 : decode cX7_setBlock 39 = .ok (.iload_n 2, 1) := by decide +kernel
theorem dX7_setBlock_40 : decode cX7_setBlock 40 = .ok (.ireturn, 1) := by decide +kernel
theorem dX7_kept_0 : decode cX7_kept 0 = .ok (.aload_n 0, 1) := by decide +kernel
theorem dX7_kept_1 : decode cX7_kept 1 = .ok (.iload_n 1, 1) := by decide +kernel
theorem dX7_kept_2 : decode cX7_kept 2 = .ok (.invokestatic 216, 3) := by decide +kernel
theorem dX7_kept_5 : decode cX7_kept 5 = .ok (.iconst 1, 1) := by decide +kernel
theorem dX7_kept_6 : decode cX7_kept 6 = .ok (.invokevirtual 209, 3) := by decide +kernel
theorem dX7_kept_9 : decode cX7_kept 9 = .ok (.ifCond .ne 20, 3) := by decide +kernel
theorem dX7_kept_12 : decode cX7_kept 12 = .ok (.aload_n 0, 1) := by decide +kernel
theorem dX7_kept_13 : decode cX7_kept 13 = .ok (.iload_n 2, 1) := by decide +kernel
theorem dX7_kept_14 : decode cX7_kept 14 = .ok (.i2l, 1) := by decide +kernel
theorem dX7_kept_15 : decode cX7_kept 15 = .ok (.lconst 0, 1) := by decide +kernel
theorem dX7_kept_16 : decode cX7_kept 16 = .ok (.ldc2_w 353, 3) := by decide +kernel
theorem dX7_kept_19 : decode cX7_kept 19 = .ok (.invokestatic 67, 3) := by decide +kernel
theorem dX7_kept_22 : decode cX7_kept 22 = .ok (.iconst 2, 1) := by decide +kernel
theorem dX7_kept_23 : decode cX7_kept 23 = .ok (.invokevirtual 209, 3) := by decide +kernel
theorem dX7_kept_26 : decode cX7_kept 26 = .ok (.ifCond .eq 5, 3) := by decide +kernel
theorem dX7_kept_29 : decode cX7_kept 29 = .ok (.iconst 0, 1) := by decide +kernel
theorem dX7_kept_30 : decode cX7_kept 30 = .ok (.ireturn, 1) := by decide +kernel
theorem dX7_kept_31 : decode cX7_kept 31 = .ok (.aload_n 0, 1) := by decide +kernel
theorem dX7_kept_32 : decode cX7_kept 32 = .ok (.getfield 9, 3) := by decide +kernel
theorem dX7_kept_35 : decode cX7_kept 35 = .ok (.iconst 4, 1) := by decide +kernel
theorem dX7_kept_36 : decode cX7_kept 36 = .ok (.iload_n 1, 1) := by decide +kernel
theorem dX7_kept_37 : decode cX7_kept 37 = .ok (.iadd, 1) := by decide +kernel
theorem dX7_kept_38 : decode cX7_kept 38 = .ok (.laload, 1) := by decide +kernel
theorem dX7_kept_39 : decode cX7_kept 39 = .ok (.lconst 0, 1) := by decide +kernel
theorem dX7_kept_40 : decode cX7_kept 40 = .ok (.lcmp, 1) := by decide +kernel
theorem dX7_kept_41 : decode cX7_kept 41 = .ok (.ifCond .ne 7, 3) := by decide +kernel
theorem dX7_kept_44 : decode cX7_kept 44 = .ok (.iconst (-1), 1) := by decide +kernel
theorem dX7_kept_45 : decode cX7_kept 45 = .ok (.goto 18, 3) := by decide +kernel
theorem dX7_kept_48 : decode cX7_kept 48 = .ok (.aload_n 0, 1) := by decide +kernel
theorem dX7_kept_49 : decode cX7_kept 49 = .ok (.getfield 9, 3) := by decide +kernel
theorem dX7_kept_52 : decode cX7_kept 52 = .ok (.bipush 10, 2) := by decide +kernel
theorem dX7_kept_54 : decode cX7_kept 54 = .ok (.bipush 6, 2) := by decide +kernel
theorem dX7_kept_56 : decode cX7_kept 56 = .ok (.iload_n 2, 1) := by decide +kernel
theorem dX7_kept_57 : decode cX7_kept 57 = .ok (.imul, 1) := by decide +kernel
theorem dX7_kept_58 : decode cX7_kept 58 = .ok (.iadd, 1) := by decide +kernel
theorem dX7_kept_59 : decode cX7_kept 59 = .ok (.iload_n 1, 1) := by decide +kernel
theorem dX7_kept_60 : decode cX7_kept 60 = .ok (.iadd, 1) := by decide +kernel
theorem dX7_kept_61 : decode cX7_kept 61 = .ok (.laload, 1) := by decide +kernel
theorem dX7_kept_62 : decode cX7_kept 62 = .ok (.l2i, 1) := by decide +kernel
theorem dX7_kept_63 : decode cX7_kept 63 = .ok (.ireturn, 1) := by decide +kernel
theorem dX7_work_0 : decode cX7_work 0 = .ok (.aload_n 0, 1) := by decide +kernel
theorem dX7_work_1 : decode cX7_work 1 = .ok (.iload_n 1, 1) := by decide +kernel
theorem dX7_work_2 : decode cX7_work 2 = .ok (.i2l, 1) := by decide +kernel
theorem dX7_work_3 : decode cX7_work 3 = .ok (.lconst 0, 1) := by decide +kernel
theorem dX7_work_4 : decode cX7_work 4 = .ok (.lconst 1, 1) := by decide +kernel
theorem dX7_work_5 : decode cX7_work 5 = .ok (.invokestatic 67, 3) := by decide +kernel
theorem dX7_work_8 : decode cX7_work 8 = .ok (.iconst 1, 1) := by decide +kernel
theorem dX7_work_9 : decode cX7_work 9 = .ok (.invokevirtual 209, 3) := by decide +kernel
theorem dX7_work_12 : decode cX7_work 12 = .ok (.ifCond .eq 7, 3) := by decide +kernel
theorem dX7_work_15 : decode cX7_work 15 = .ok (.iconst 0, 1) := by decide +kernel
theorem dX7_work_16 : decode cX7_work 16 = .ok (.goto 12, 3) := by decide +kernel
theorem dX7_work_19 : decode cX7_work 19 = .ok (.aload_n 0, 1) := by decide +kernel
theorem dX7_work_20 : decode cX7_work 20 = .ok (.getfield 9, 3) := by decide +kernel
theorem dX7_work_23 : decode cX7_work 23 = .ok (.iconst 2, 1) := by decide +kernel
theorem dX7_work_24 : decode cX7_work 24 = .ok (.iload_n 1, 1) := by decide +kernel
theorem dX7_work_25 : decode cX7_work 25 = .ok (.iadd, 1) := by decide +kernel
theorem dX7_work_26 : decode cX7_work 26 = .ok (.laload, 1) := by decide +kernel
theorem dX7_work_27 : decode cX7_work 27 = .ok (.l2i, 1) := by decide +kernel
theorem dX7_work_28 : decode cX7_work 28 = .ok (.ireturn, 1) := by decide +kernel
theorem dX7_writeRow_0 : decode cX7_writeRow 0 = .ok (.aload_n 0, 1) := by decide +kernel
theorem dX7_writeRow_1 : decode cX7_writeRow 1 = .ok (.aload_n 0, 1) := by decide +kernel
theorem dX7_writeRow_2 : decode cX7_writeRow 2 = .ok (.iload_n 1, 1) := by decide +kernel
theorem dX7_writeRow_3 : decode cX7_writeRow 3 = .ok (.iload_n 2, 1) := by decide +kernel
theorem dX7_writeRow_4 : decode cX7_writeRow 4 = .ok (.invokevirtual 223, 3) := by decide +kernel
theorem dX7_writeRow_7 : decode cX7_writeRow 7 = .ok (.iconst 1, 1) := by decide +kernel
theorem dX7_writeRow_8 : decode cX7_writeRow 8 = .ok (.invokevirtual 209, 3) := by decide +kernel
theorem dX7_writeRow_11 : decode cX7_writeRow 11 = .ok (.ifCond .eq 5, 3) := by decide +kernel
theorem dX7_writeRow_14 : decode cX7_writeRow 14 = .ok (.iconst 0, 1) := by decide +kernel
theorem dX7_writeRow_15 : decode cX7_writeRow 15 = .ok (.ireturn, 1) := by decide +kernel
theorem dX7_writeRow_16 : decode cX7_writeRow 16 = .ok (.aload_n 0, 1) := by decide +kernel
theorem dX7_writeRow_17 : decode cX7_writeRow 17 = .ok (.aload_n 0, 1) := by decide +kernel
theorem dX7_writeRow_18 : decode cX7_writeRow 18 = .ok (.invokevirtual 71, 3) := by decide +kernel
theorem dX7_writeRow_21 : decode cX7_writeRow 21 = .ok (.putfield 355, 3) := by decide +kernel
theorem dX7_writeRow_24 : decode cX7_writeRow 24 = .ok (.iconst 0, 1) := by decide +kernel
theorem dX7_writeRow_25 : decode cX7_writeRow 25 = .ok (.istore_n 3, 1) := by decide +kernel
theorem dX7_writeRow_26 : decode cX7_writeRow 26 = .ok (.iload_n 3, 1) := by decide +kernel
theorem dX7_writeRow_27 : decode cX7_writeRow 27 = .ok (.aload_n 0, 1) := by decide +kernel
theorem dX7_writeRow_28 : decode cX7_writeRow 28 = .ok (.getfield 355, 3) := by decide +kernel
theorem dX7_writeRow_31 : decode cX7_writeRow 31 = .ok (.if_icmp .ge 29, 3) := by decide +kernel
theorem dX7_writeRow_34 : decode cX7_writeRow 34 = .ok (.aload_n 0, 1) := by decide +kernel
theorem dX7_writeRow_35 : decode cX7_writeRow 35 = .ok (.getfield 53, 3) := by decide +kernel
theorem dX7_writeRow_38 : decode cX7_writeRow 38 = .ok (.iload_n 3, 1) := by decide +kernel
theorem dX7_writeRow_39 : decode cX7_writeRow 39 = .ok (.bipush 48, 2) := by decide +kernel
theorem dX7_writeRow_41 : decode cX7_writeRow 41 = .ok (.aload_n 0, 1) := by decide +kernel
theorem dX7_writeRow_42 : decode cX7_writeRow 42 = .ok (.iload_n 1, 1) := by decide +kernel
theorem dX7_writeRow_43 : decode cX7_writeRow 43 = .ok (.iload_n 2, 1) := by decide +kernel
theorem dX7_writeRow_44 : decode cX7_writeRow 44 = .ok (.invokevirtual 227, 3) := by decide +kernel
theorem dX7_writeRow_47 : decode cX7_writeRow 47 = .ok (.iload_n 3, 1) := by decide +kernel
theorem dX7_writeRow_48 : decode cX7_writeRow 48 = .ok (.invokestatic 231, 3) := by decide +kernel
theorem dX7_writeRow_51 : decode cX7_writeRow 51 = .ok (.iadd, 1) := by decide +kernel
theorem dX7_writeRow_52 : decode cX7_writeRow 52 = .ok (.i2b, 1) := by decide +kernel
theorem dX7_writeRow_53 : decode cX7_writeRow 53 = .ok (.bastore, 1) := by decide +kernel
theorem dX7_writeRow_54 : decode cX7_writeRow 54 = .ok (.iinc 3 1, 3) := by decide +kernel
theorem dX7_writeRow_57 : decode cX7_writeRow 57 = .ok (.goto (-31), 3) := by decide +kernel
theorem dX7_writeRow_60 : decode cX7_writeRow 60 = .ok (.aload_n 0, 1) := by decide +kernel
theorem dX7_writeRow_61 : decode cX7_writeRow 61 = .ok (.getfield 355, 3) := by decide +kernel
theorem dX7_writeRow_64 : decode cX7_writeRow 64 = .ok (.ireturn, 1) := by decide +kernel
theorem dX7_outputByte_0 : decode cX7_outputByte 0 = .ok (.aload_n 0, 1) := by decide +kernel
theorem dX7_outputByte_1 : decode cX7_outputByte 1 = .ok (.iconst 0, 1) := by decide +kernel
theorem dX7_outputByte_2 : decode cX7_outputByte 2 = .ok (.putfield 60, 3) := by decide +kernel
theorem dX7_outputByte_5 : decode cX7_outputByte 5 = .ok (.iload_n 1, 1) := by decide +kernel
theorem dX7_outputByte_6 : decode cX7_outputByte 6 = .ok (.i2l, 1) := by decide +kernel
theorem dX7_outputByte_7 : decode cX7_outputByte 7 = .ok (.lconst 0, 1) := by decide +kernel
theorem dX7_outputByte_8 : decode cX7_outputByte 8 = .ok (.aload_n 0, 1) := by decide +kernel
theorem dX7_outputByte_9 : decode cX7_outputByte 9 = .ok (.getfield 355, 3) := by decide +kernel
theorem dX7_outputByte_12 : decode cX7_outputByte 12 = .ok (.iconst 1, 1) := by decide +kernel
theorem dX7_outputByte_13 : decode cX7_outputByte 13 = .ok (.isub, 1) := by decide +kernel
theorem dX7_outputByte_14 : decode cX7_outputByte 14 = .ok (.i2l, 1) := by decide +kernel
theorem dX7_outputByte_15 : decode cX7_outputByte 15 = .ok (.invokestatic 67, 3) := by decide +kernel
theorem dX7_outputByte_18 : decode cX7_outputByte 18 = .ok (.ifCond .eq 12, 3) := by decide +kernel
theorem dX7_outputByte_21 : decode cX7_outputByte 21 = .ok (.aload_n 0, 1) := by decide +kernel
theorem dX7_outputByte_22 : decode cX7_outputByte 22 = .ok (.getfield 53, 3) := by decide +kernel
theorem dX7_outputByte_25 : decode cX7_outputByte 25 = .ok (.iload_n 1, 1) := by decide +kernel
theorem dX7_outputByte_26 : decode cX7_outputByte 26 = .ok (.baload, 1) := by decide +kernel
theorem dX7_outputByte_27 : decode cX7_outputByte 27 = .ok (.goto 4, 3) := by decide +kernel
theorem dX7_outputByte_30 : decode cX7_outputByte 30 = .ok (.iconst (-1), 1) := by decide +kernel
theorem dX7_outputByte_31 : decode cX7_outputByte 31 = .ok (.ireturn, 1) := by decide +kernel
theorem dX7_saveSnapshot_0 : decode cX7_saveSnapshot 0 = .ok (.aload_n 0, 1) := by decide +kernel
theorem dX7_saveSnapshot_1 : decode cX7_saveSnapshot 1 = .ok (.iload_n 1, 1) := by decide +kernel
theorem dX7_saveSnapshot_2 : decode cX7_saveSnapshot 2 = .ok (.i2l, 1) := by decide +kernel
theorem dX7_saveSnapshot_3 : decode cX7_saveSnapshot 3 = .ok (.lconst 0, 1) := by decide +kernel
theorem dX7_saveSnapshot_4 : decode cX7_saveSnapshot 4 = .ok (.lconst 1, 1) := by decide +kernel
theorem dX7_saveSnapshot_5 : decode cX7_saveSnapshot 5 = .ok (.invokestatic 67, 3) := by decide +kernel
theorem dX7_saveSnapshot_8 : decode cX7_saveSnapshot 8 = .ok (.iconst 1, 1) := by decide +kernel
theorem dX7_saveSnapshot_9 : decode cX7_saveSnapshot 9 = .ok (.invokevirtual 209, 3) := by decide +kernel
theorem dX7_saveSnapshot_12 : decode cX7_saveSnapshot 12 = .ok (.ifCond .eq 5, 3) := by decide +kernel
theorem dX7_saveSnapshot_15 : decode cX7_saveSnapshot 15 = .ok (.iconst 0, 1) := by decide +kernel
theorem dX7_saveSnapshot_16 : decode cX7_saveSnapshot 16 = .ok (.ireturn, 1) := by decide +kernel
theorem dX7_saveSnapshot_17 : decode cX7_saveSnapshot 17 = .ok (.aload_n 0, 1) := by decide +kernel
theorem dX7_saveSnapshot_18 : decode cX7_saveSnapshot 18 = .ok (.getfield 9, 3) := by decide +kernel
theorem dX7_saveSnapshot_21 : decode cX7_saveSnapshot 21 = .ok (.iconst 0, 1) := by decide +kernel
theorem dX7_saveSnapshot_22 : decode cX7_saveSnapshot 22 = .ok (.aload_n 0, 1) := by decide +kernel
theorem dX7_saveSnapshot_23 : decode cX7_saveSnapshot 23 = .ok (.getfield 19, 3) := by decide +kernel
theorem dX7_saveSnapshot_26 : decode cX7_saveSnapshot 26 = .ok (.iload_n 1, 1) := by decide +kernel
theorem dX7_saveSnapshot_27 : decode cX7_saveSnapshot 27 = .ok (.invokestatic 198, 3) := by decide +kernel
theorem dX7_saveSnapshot_30 : decode cX7_saveSnapshot 30 = .ok (.aload_n 0, 1) := by decide +kernel
theorem dX7_saveSnapshot_31 : decode cX7_saveSnapshot 31 = .ok (.getfield 22, 3) := by decide +kernel
theorem dX7_saveSnapshot_34 : decode cX7_saveSnapshot 34 = .ok (.iload_n 1, 1) := by decide +kernel
theorem dX7_saveSnapshot_35 : decode cX7_saveSnapshot 35 = .ok (.iconst 1, 1) := by decide +kernel
theorem dX7_saveSnapshot_36 : decode cX7_saveSnapshot 36 = .ok (.bastore, 1) := by decide +kernel
theorem dX7_saveSnapshot_37 : decode cX7_saveSnapshot 37 = .ok (.aload_n 0, 1) := by decide +kernel
theorem dX7_saveSnapshot_38 : decode cX7_saveSnapshot 38 = .ok (.invokevirtual 71, 3) := by decide +kernel
theorem dX7_saveSnapshot_41 : decode cX7_saveSnapshot 41 = .ok (.ireturn, 1) := by decide +kernel
theorem dX7_restoreSnapshot_0 : decode cX7_restoreSnapshot 0 = .ok (.aload_n 0, 1) := by decide +kernel
theorem dX7_restoreSnapshot_1 : decode cX7_restoreSnapshot 1 = .ok (.iload_n 1, 1) := by decide +kernel
theorem dX7_restoreSnapshot_2 : decode cX7_restoreSnapshot 2 = .ok (.i2l, 1) := by decide +kernel
theorem dX7_restoreSnapshot_3 : decode cX7_restoreSnapshot 3 = .ok (.lconst 0, 1) := by decide +kernel
theorem dX7_restoreSnapshot_4 : decode cX7_restoreSnapshot 4 = .ok (.lconst 1, 1) := by decide +kernel
theorem dX7_restoreSnapshot_5 : decode cX7_restoreSnapshot 5 = .ok (.invokestatic 67, 3) := by decide +kernel
theorem dX7_restoreSnapshot_8 : decode cX7_restoreSnapshot 8 = .ok (.iconst 1, 1) := by decide +kernel
theorem dX7_restoreSnapshot_9 : decode cX7_restoreSnapshot 9 = .ok (.invokevirtual 209, 3) := by decide +kernel
theorem dX7_restoreSnapshot_12 : decode cX7_restoreSnapshot 12 = .ok (.ifCond .eq 5, 3) := by decide +kernel
theorem dX7_restoreSnapshot_15 : decode cX7_restoreSnapshot 15 = .ok (.iconst 0, 1) := by decide +kernel
theorem dX7_restoreSnapshot_16 : decode cX7_restoreSnapshot 16 = .ok (.ireturn, 1) := by decide +kernel
theorem dX7_restoreSnapshot_17 : decode cX7_restoreSnapshot 17 = .ok (.aload_n 0, 1) := by decide +kernel
theorem dX7_restoreSnapshot_18 : decode cX7_restoreSnapshot 18 = .ok (.getfield 22, 3) := by decide +kernel
theorem dX7_restoreSnapshot_21 : decode cX7_restoreSnapshot 21 = .ok (.iload_n 1, 1) := by decide +kernel
theorem dX7_restoreSnapshot_22 : decode cX7_restoreSnapshot 22 = .ok (.baload, 1) := by decide +kernel
theorem dX7_restoreSnapshot_23 : decode cX7_restoreSnapshot 23 = .ok (.ifCond .ne 5, 3) := by decide +kernel
theorem dX7_restoreSnapshot_26 : decode cX7_restoreSnapshot 26 = .ok (.iconst (-1), 1) := by decide +kernel
theorem dX7_restoreSnapshot_27 : decode cX7_restoreSnapshot 27 = .ok (.ireturn, 1) := by decide +kernel
theorem dX7_restoreSnapshot_28 : decode cX7_restoreSnapshot 28 = .ok (.aload_n 0, 1) := by decide +kernel
theorem dX7_restoreSnapshot_29 : decode cX7_restoreSnapshot 29 = .ok (.getfield 19, 3) := by decide +kernel
theorem dX7_restoreSnapshot_32 : decode cX7_restoreSnapshot 32 = .ok (.iload_n 1, 1) := by decide +kernel
theorem dX7_restoreSnapshot_33 : decode cX7_restoreSnapshot 33 = .ok (.aload_n 0, 1) := by decide +kernel
theorem dX7_restoreSnapshot_34 : decode cX7_restoreSnapshot 34 = .ok (.getfield 9, 3) := by decide +kernel
theorem dX7_restoreSnapshot_37 : decode cX7_restoreSnapshot 37 = .ok (.iconst 0, 1) := by decide +kernel
theorem dX7_restoreSnapshot_38 : decode cX7_restoreSnapshot 38 = .ok (.invokestatic 198, 3) := by decide +kernel
theorem dX7_restoreSnapshot_41 : decode cX7_restoreSnapshot 41 = .ok (.aload_n 0, 1) := by decide +kernel
theorem dX7_restoreSnapshot_42 : decode cX7_restoreSnapshot 42 = .ok (.iconst 0, 1) := by decide +kernel
theorem dX7_restoreSnapshot_43 : decode cX7_restoreSnapshot 43 = .ok (.putfield 201, 3) := by decide +kernel
theorem dX7_restoreSnapshot_46 : decode cX7_restoreSnapshot 46 = .ok (.aload_n 0, 1) := by decide +kernel
theorem dX7_restoreSnapshot_47 : decode cX7_restoreSnapshot 47 = .ok (.invokevirtual 71, 3) := by decide +kernel
theorem dX7_restoreSnapshot_50 : decode cX7_restoreSnapshot 50 = .ok (.ireturn, 1) := by decide +kernel
theorem dJ6_bitCount_0f7a4_0 : decode cJ6_bitCount_0f7a4 0 = .ok (.iload_n 0, 1) := by decide +kernel
theorem dJ6_bitCount_0f7a4_1 : decode cJ6_bitCount_0f7a4 1 = .ok (.iload_n 0, 1) := by decide +kernel
theorem dJ6_bitCount_0f7a4_2 : decode cJ6_bitCount_0f7a4 2 = .ok (.iconst 1, 1) := by decide +kernel
theorem dJ6_bitCount_0f7a4_3 : decode cJ6_bitCount_0f7a4 3 = .ok (.iushr, 1) := by decide +kernel
theorem dJ6_bitCount_0f7a4_4 : decode cJ6_bitCount_0f7a4 4 = .ok (.ldc_w 265, 3) := by decide +kernel
theorem dJ6_bitCount_0f7a4_7 : decode cJ6_bitCount_0f7a4 7 = .ok (.iand, 1) := by decide +kernel
theorem dJ6_bitCount_0f7a4_8 : decode cJ6_bitCount_0f7a4 8 = .ok (.isub, 1) := by decide +kernel
theorem dJ6_bitCount_0f7a4_9 : decode cJ6_bitCount_0f7a4 9 = .ok (.istore_n 0, 1) := by decide +kernel
theorem dJ6_bitCount_0f7a4_10 : decode cJ6_bitCount_0f7a4 10 = .ok (.iload_n 0, 1) := by decide +kernel
theorem dJ6_bitCount_0f7a4_11 : decode cJ6_bitCount_0f7a4 11 = .ok (.ldc_w 266, 3) := by decide +kernel
theorem dJ6_bitCount_0f7a4_14 : decode cJ6_bitCount_0f7a4 14 = .ok (.iand, 1) := by decide +kernel
theorem dJ6_bitCount_0f7a4_15 : decode cJ6_bitCount_0f7a4 15 = .ok (.iload_n 0, 1) := by decide +kernel
theorem dJ6_bitCount_0f7a4_16 : decode cJ6_bitCount_0f7a4 16 = .ok (.iconst 2, 1) := by decide +kernel
theorem dJ6_bitCount_0f7a4_17 : decode cJ6_bitCount_0f7a4 17 = .ok (.iushr, 1) := by decide +kernel
theorem dJ6_bitCount_0f7a4_18 : decode cJ6_bitCount_0f7a4 18 = .ok (.ldc_w 266, 3) := by decide +kernel
theorem dJ6_bitCount_0f7a4_21 : decode cJ6_bitCount_0f7a4 21 = .ok (.iand, 1) := by decide +kernel
theorem dJ6_bitCount_0f7a4_22 : decode cJ6_bitCount_0f7a4 22 = .ok (.iadd, 1) := by decide +kernel
theorem dJ6_bitCount_0f7a4_23 : decode cJ6_bitCount_0f7a4 23 = .ok (.istore_n 0, 1) := by decide +kernel
theorem dJ6_bitCount_0f7a4_24 : decode cJ6_bitCount_0f7a4 24 = .ok (.iload_n 0, 1) := by decide +kernel
theorem dJ6_bitCount_0f7a4_25 : decode cJ6_bitCount_0f7a4 25 = .ok (.iload_n 0, 1) := by decide +kernel
theorem dJ6_bitCount_0f7a4_26 : decode cJ6_bitCount_0f7a4 26 = .ok (.iconst 4, 1) := by decide +kernel
theorem dJ6_bitCount_0f7a4_27 : decode cJ6_bitCount_0f7a4 27 = .ok (.iushr, 1) := by decide +kernel
theorem dJ6_bitCount_0f7a4_28 : decode cJ6_bitCount_0f7a4 28 = .ok (.iadd, 1) := by decide +kernel
theorem dJ6_bitCount_0f7a4_29 : decode cJ6_bitCount_0f7a4 29 = .ok (.ldc_w 267, 3) := by decide +kernel
theorem dJ6_bitCount_0f7a4_32 : decode cJ6_bitCount_0f7a4 32 = .ok (.iand, 1) := by decide +kernel
theorem dJ6_bitCount_0f7a4_33 : decode cJ6_bitCount_0f7a4 33 = .ok (.istore_n 0, 1) := by decide +kernel
theorem dJ6_bitCount_0f7a4_34 : decode cJ6_bitCount_0f7a4 34 = .ok (.iload_n 0, 1) := by decide +kernel
theorem dJ6_bitCount_0f7a4_35 : decode cJ6_bitCount_0f7a4 35 = .ok (.iload_n 0, 1) := by decide +kernel
theorem dJ6_bitCount_0f7a4_36 : decode cJ6_bitCount_0f7a4 36 = .ok (.bipush 8, 2) := by decide +kernel
theorem dJ6_bitCount_0f7a4_38 : decode cJ6_bitCount_0f7a4 38 = .ok (.iushr, 1) := by decide +kernel
theorem dJ6_bitCount_0f7a4_39 : decode cJ6_bitCount_0f7a4 39 = .ok (.iadd, 1) := by decide +kernel
theorem dJ6_bitCount_0f7a4_40 : decode cJ6_bitCount_0f7a4 40 = .ok (.istore_n 0, 1) := by decide +kernel
theorem dJ6_bitCount_0f7a4_41 : decode cJ6_bitCount_0f7a4 41 = .ok (.iload_n 0, 1) := by decide +kernel
theorem dJ6_bitCount_0f7a4_42 : decode cJ6_bitCount_0f7a4 42 = .ok (.iload_n 0, 1) := by decide +kernel
theorem dJ6_bitCount_0f7a4_43 : decode cJ6_bitCount_0f7a4 43 = .ok (.bipush 16, 2) := by decide +kernel
theorem dJ6_bitCount_0f7a4_45 : decode cJ6_bitCount_0f7a4 45 = .ok (.iushr, 1) := by decide +kernel
theorem dJ6_bitCount_0f7a4_46 : decode cJ6_bitCount_0f7a4 46 = .ok (.iadd, 1) := by decide +kernel
theorem dJ6_bitCount_0f7a4_47 : decode cJ6_bitCount_0f7a4 47 = .ok (.istore_n 0, 1) := by decide +kernel
theorem dJ6_bitCount_0f7a4_48 : decode cJ6_bitCount_0f7a4 48 = .ok (.iload_n 0, 1) := by decide +kernel
theorem dJ6_bitCount_0f7a4_49 : decode cJ6_bitCount_0f7a4 49 = .ok (.bipush 63, 2) := by decide +kernel
theorem dJ6_bitCount_0f7a4_51 : decode cJ6_bitCount_0f7a4 51 = .ok (.iand, 1) := by decide +kernel
theorem dJ6_bitCount_0f7a4_52 : decode cJ6_bitCount_0f7a4 52 = .ok (.ireturn, 1) := by decide +kernel
theorem dJ9_abs_0f7a4_0 : decode cJ9_abs_0f7a4 0 = .ok (.iload_n 0, 1) := by decide +kernel
theorem dJ9_abs_0f7a4_1 : decode cJ9_abs_0f7a4 1 = .ok (.ifCond .ge 8, 3) := by decide +kernel
theorem dJ9_abs_0f7a4_4 : decode cJ9_abs_0f7a4 4 = .ok (.iload_n 0, 1) := by decide +kernel
theorem dJ9_abs_0f7a4_5 : decode cJ9_abs_0f7a4 5 = .ok (.ineg, 1) := by decide +kernel
theorem dJ9_abs_0f7a4_6 : decode cJ9_abs_0f7a4 6 = .ok (.goto 4, 3) := by decide +kernel
theorem dJ9_abs_0f7a4_9 : decode cJ9_abs_0f7a4 9 = .ok (.iload_n 0, 1) := by decide +kernel
theorem dJ9_abs_0f7a4_10 : decode cJ9_abs_0f7a4 10 = .ok (.ireturn, 1) := by decide +kernel
theorem dJ9_max_7cf53_0 : decode cJ9_max_7cf53 0 = .ok (.iload_n 0, 1) := by decide +kernel
theorem dJ9_max_7cf53_1 : decode cJ9_max_7cf53 1 = .ok (.iload_n 1, 1) := by decide +kernel
theorem dJ9_max_7cf53_2 : decode cJ9_max_7cf53 2 = .ok (.if_icmp .lt 7, 3) := by decide +kernel
theorem dJ9_max_7cf53_5 : decode cJ9_max_7cf53 5 = .ok (.iload_n 0, 1) := by decide +kernel
theorem dJ9_max_7cf53_6 : decode cJ9_max_7cf53 6 = .ok (.goto 4, 3) := by decide +kernel
theorem dJ9_max_7cf53_9 : decode cJ9_max_7cf53 9 = .ok (.iload_n 1, 1) := by decide +kernel
theorem dJ9_max_7cf53_10 : decode cJ9_max_7cf53 10 = .ok (.ireturn, 1) := by decide +kernel
theorem dJ9_min_7cf53_0 : decode cJ9_min_7cf53 0 = .ok (.iload_n 0, 1) := by decide +kernel
theorem dJ9_min_7cf53_1 : decode cJ9_min_7cf53 1 = .ok (.iload_n 1, 1) := by decide +kernel
theorem dJ9_min_7cf53_2 : decode cJ9_min_7cf53 2 = .ok (.if_icmp .gt 7, 3) := by decide +kernel
theorem dJ9_min_7cf53_5 : decode cJ9_min_7cf53 5 = .ok (.iload_n 0, 1) := by decide +kernel
theorem dJ9_min_7cf53_6 : decode cJ9_min_7cf53 6 = .ok (.goto 4, 3) := by decide +kernel
theorem dJ9_min_7cf53_9 : decode cJ9_min_7cf53 9 = .ok (.iload_n 1, 1) := by decide +kernel
theorem dJ9_min_7cf53_10 : decode cJ9_min_7cf53 10 = .ok (.ireturn, 1) := by decide +kernel
theorem dJ0_length_8abf5_0 : decode cJ0_length_8abf5 0 = .ok (.aload_n 0, 1) := by decide +kernel
theorem dJ0_length_8abf5_1 : decode cJ0_length_8abf5 1 = .ok (.getfield 9, 3) := by decide +kernel
theorem dJ0_length_8abf5_4 : decode cJ0_length_8abf5 4 = .ok (.arraylength, 1) := by decide +kernel
theorem dJ0_length_8abf5_5 : decode cJ0_length_8abf5 5 = .ok (.aload_n 0, 1) := by decide +kernel
theorem dJ0_length_8abf5_6 : decode cJ0_length_8abf5 6 = .ok (.invokevirtual 335, 3) := by decide +kernel
theorem dJ0_length_8abf5_9 : decode cJ0_length_8abf5 9 = .ok (.ishr, 1) := by decide +kernel
theorem dJ0_length_8abf5_10 : decode cJ0_length_8abf5 10 = .ok (.ireturn, 1) := by decide +kernel
theorem dJ0_charAt_5068e_0 : decode cJ0_charAt_5068e 0 = .ok (.aload_n 0, 1) := by decide +kernel
theorem dJ0_charAt_5068e_1 : decode cJ0_charAt_5068e 1 = .ok (.invokevirtual 492, 3) := by decide +kernel
theorem dJ0_charAt_5068e_4 : decode cJ0_charAt_5068e 4 = .ok (.ifCond .eq 12, 3) := by decide +kernel
theorem dJ0_charAt_5068e_7 : decode cJ0_charAt_5068e 7 = .ok (.aload_n 0, 1) := by decide +kernel
theorem dJ0_charAt_5068e_8 : decode cJ0_charAt_5068e 8 = .ok (.getfield 9, 3) := by decide +kernel
theorem dJ0_charAt_5068e_11 : decode cJ0_charAt_5068e 11 = .ok (.iload_n 1, 1) := by decide +kernel
theorem dJ0_charAt_5068e_12 : decode cJ0_charAt_5068e 12 = .ok (.invokestatic 495, 3) := by decide +kernel
theorem dJ0_charAt_5068e_15 : decode cJ0_charAt_5068e 15 = .ok (.ireturn, 1) := by decide +kernel
theorem dJ0_charAt_5068e_16 : decode cJ0_charAt_5068e 16 = .ok (.aload_n 0, 1) := by decide +kernel
theorem dJ0_charAt_5068e_17 : decode cJ0_charAt_5068e 17 = .ok (.getfield 9, 3) := by decide +kernel
theorem dJ0_charAt_5068e_20 : decode cJ0_charAt_5068e 20 = .ok (.iload_n 1, 1) := by decide +kernel
theorem dJ0_charAt_5068e_21 : decode cJ0_charAt_5068e 21 = .ok (.invokestatic 498, 3) := by decide +kernel
theorem dJ0_charAt_5068e_24 : decode cJ0_charAt_5068e 24 = .ok (.ireturn, 1) := by decide +kernel
theorem dJ0_coder_7d493_0 : decode cJ0_coder_7d493 0 = .ok (.getstatic 38, 3) := by decide +kernel
theorem dJ0_coder_7d493_3 : decode cJ0_coder_7d493 3 = .ok (.ifCond .eq 10, 3) := by decide +kernel
theorem dJ0_coder_7d493_6 : decode cJ0_coder_7d493 6 = .ok (.aload_n 0, 1) := by decide +kernel
theorem dJ0_coder_7d493_7 : decode cJ0_coder_7d493 7 = .ok (.getfield 15, 3) := by decide +kernel
theorem dJ0_coder_7d493_10 : decode cJ0_coder_7d493 10 = .ok (.goto 4, 3) := by decide +kernel
theorem dJ0_coder_7d493_13 : decode cJ0_coder_7d493 13 = .ok (.iconst 1, 1) := by decide +kernel
theorem dJ0_coder_7d493_14 : decode cJ0_coder_7d493 14 = .ok (.ireturn, 1) := by decide +kernel
theorem dJ0_isLatin1_aae02_0 : decode cJ0_isLatin1_aae02 0 = .ok (.getstatic 38, 3) := by decide +kernel
theorem dJ0_isLatin1_aae02_3 : decode cJ0_isLatin1_aae02 3 = .ok (.ifCond .eq 14, 3) := by decide +kernel
theorem dJ0_isLatin1_aae02_6 : decode cJ0_isLatin1_aae02 6 = .ok (.aload_n 0, 1) := by decide +kernel
theorem dJ0_isLatin1_aae02_7 : decode cJ0_isLatin1_aae02 7 = .ok (.getfield 15, 3) := by decide +kernel
theorem dJ0_isLatin1_aae02_10 : decode cJ0_isLatin1_aae02 10 = .ok (.ifCond .ne 7, 3) := by decide +kernel
theorem dJ0_isLatin1_aae02_13 : decode cJ0_isLatin1_aae02 13 = .ok (.iconst 1, 1) := by decide +kernel
theorem dJ0_isLatin1_aae02_14 : decode cJ0_isLatin1_aae02 14 = .ok (.goto 4, 3) := by decide +kernel
theorem dJ0_isLatin1_aae02_17 : decode cJ0_isLatin1_aae02 17 = .ok (.iconst 0, 1) := by decide +kernel
theorem dJ0_isLatin1_aae02_18 : decode cJ0_isLatin1_aae02 18 = .ok (.ireturn, 1) := by decide +kernel
theorem dJ0_checkIndex_df160_0 : decode cJ0_checkIndex_df160 0 = .ok (.iload_n 0, 1) := by decide +kernel
theorem dJ0_checkIndex_df160_1 : decode cJ0_checkIndex_df160 1 = .ok (.iload_n 1, 1) := by decide +kernel
theorem dJ0_checkIndex_df160_2 : decode cJ0_checkIndex_df160 2 = .ok (.getstatic 1053, 3) := by decide +kernel
theorem dJ0_checkIndex_df160_5 : decode cJ0_checkIndex_df160 5 = .ok (.invokestatic 1059, 3) := by decide +kernel
theorem dJ0_checkIndex_df160_8 : decode cJ0_checkIndex_df160 8 = .ok (.pop, 1) := by decide +kernel
theorem dJ0_checkIndex_df160_9 : decode cJ0_checkIndex_df160 9 = .ok (.return_, 1) := by decide +kernel
theorem dJ1_charAt_3b067_0 : decode cJ1_charAt_3b067 0 = .ok (.iload_n 1, 1) := by decide +kernel
theorem dJ1_charAt_3b067_1 : decode cJ1_charAt_3b067 1 = .ok (.aload_n 0, 1) := by decide +kernel
theorem dJ1_charAt_3b067_2 : decode cJ1_charAt_3b067 2 = .ok (.arraylength, 1) := by decide +kernel
theorem dJ1_charAt_3b067_3 : decode cJ1_charAt_3b067 3 = .ok (.invokestatic 9, 3) := by decide +kernel
theorem dJ1_charAt_3b067_6 : decode cJ1_charAt_3b067 6 = .ok (.aload_n 0, 1) := by decide +kernel
theorem dJ1_charAt_3b067_7 : decode cJ1_charAt_3b067 7 = .ok (.iload_n 1, 1) := by decide +kernel
theorem dJ1_charAt_3b067_8 : decode cJ1_charAt_3b067 8 = .ok (.baload, 1) := by decide +kernel
theorem dJ1_charAt_3b067_9 : decode cJ1_charAt_3b067 9 = .ok (.sipush 255, 3) := by decide +kernel
theorem dJ1_charAt_3b067_12 : decode cJ1_charAt_3b067 12 = .ok (.iand, 1) := by decide +kernel
theorem dJ1_charAt_3b067_13 : decode cJ1_charAt_3b067 13 = .ok (.i2c, 1) := by decide +kernel
theorem dJ1_charAt_3b067_14 : decode cJ1_charAt_3b067 14 = .ok (.ireturn, 1) := by decide +kernel
theorem dJ2_getChar_3b067_0 : decode cJ2_getChar_3b067 0 = .ok (.getstatic 44, 3) := by decide +kernel
theorem dJ2_getChar_3b067_3 : decode cJ2_getChar_3b067 3 = .ok (.ifCond .ne 25, 3) := by decide +kernel
theorem dJ2_getChar_3b067_6 : decode cJ2_getChar_3b067 6 = .ok (.iload_n 1, 1) := by decide +kernel
theorem dJ2_getChar_3b067_7 : decode cJ2_getChar_3b067 7 = .ok (.ifCond .lt 11, 3) := by decide +kernel
theorem dJ2_getChar_3b067_10 : decode cJ2_getChar_3b067 10 = .ok (.iload_n 1, 1) := by decide +kernel
theorem dJ2_getChar_3b067_11 : decode cJ2_getChar_3b067 11 = .ok (.aload_n 0, 1) := by decide +kernel
theorem dJ2_getChar_3b067_12 : decode cJ2_getChar_3b067 12 = .ok (.invokestatic 48, 3) := by decide +kernel
theorem dJ2_getChar_3b067_15 : decode cJ2_getChar_3b067 15 = .ok (.if_icmp .lt 13, 3) := by decide +kernel
theorem dJ2_getChar_3b067_18 : decode cJ2_getChar_3b067 18 = .ok (.new 52, 3) := by decide +kernel
theorem dJ2_getChar_3b067_21 : decode cJ2_getChar_3b067 21 = .ok (.dup, 1) := by decide +kernel
theorem dJ2_getChar_3b067_22 : decode cJ2_getChar_3b067 22 = .ok (.ldc 54, 2) := by decide +kernel
theorem dJ2_getChar_3b067_24 : decode cJ2_getChar_3b067 24 = .ok (.invokespecial 56, 3) := by decide +kernel
theorem dJ2_getChar_3b067_27 : decode cJ2_getChar_3b067 27 = .ok (.athrow, 1) := by decide +kernel
theorem dJ2_getChar_3b067_28 : decode cJ2_getChar_3b067 28 = .ok (.iload_n 1, 1) := by decide +kernel
theorem dJ2_getChar_3b067_29 : decode cJ2_getChar_3b067 29 = .ok (.iconst 1, 1) := by decide +kernel
theorem dJ2_getChar_3b067_30 : decode cJ2_getChar_3b067 30 = .ok (.ishl, 1) := by decide +kernel
theorem dJ2_getChar_3b067_31 : decode cJ2_getChar_3b067 31 = .ok (.istore_n 1, 1) := by decide +kernel
theorem dJ2_getChar_3b067_32 : decode cJ2_getChar_3b067 32 = .ok (.aload_n 0, 1) := by decide +kernel
theorem dJ2_getChar_3b067_33 : decode cJ2_getChar_3b067 33 = .ok (.iload_n 1, 1) := by decide +kernel
theorem dJ2_getChar_3b067_34 : decode cJ2_getChar_3b067 34 = .ok (.iinc 1 1, 3) := by decide +kernel
theorem dJ2_getChar_3b067_37 : decode cJ2_getChar_3b067 37 = .ok (.baload, 1) := by decide +kernel
theorem dJ2_getChar_3b067_38 : decode cJ2_getChar_3b067 38 = .ok (.sipush 255, 3) := by decide +kernel
theorem dJ2_getChar_3b067_41 : decode cJ2_getChar_3b067 41 = .ok (.iand, 1) := by decide +kernel
theorem dJ2_getChar_3b067_42 : decode cJ2_getChar_3b067 42 = .ok (.getstatic 59, 3) := by decide +kernel
theorem dJ2_getChar_3b067_45 : decode cJ2_getChar_3b067 45 = .ok (.ishl, 1) := by decide +kernel
theorem dJ2_getChar_3b067_46 : decode cJ2_getChar_3b067 46 = .ok (.aload_n 0, 1) := by decide +kernel
theorem dJ2_getChar_3b067_47 : decode cJ2_getChar_3b067 47 = .ok (.iload_n 1, 1) := by decide +kernel
theorem dJ2_getChar_3b067_48 : decode cJ2_getChar_3b067 48 = .ok (.baload, 1) := by decide +kernel
theorem dJ2_getChar_3b067_49 : decode cJ2_getChar_3b067 49 = .ok (.sipush 255, 3) := by decide +kernel
theorem dJ2_getChar_3b067_52 : decode cJ2_getChar_3b067 52 = .ok (.iand, 1) := by decide +kernel
theorem dJ2_getChar_3b067_53 : decode cJ2_getChar_3b067 53 = .ok (.getstatic 63, 3) := by decide +kernel
theorem dJ2_getChar_3b067_56 : decode cJ2_getChar_3b067 56 = .ok (.ishl, 1) := by decide +kernel
theorem dJ2_getChar_3b067_57 : decode cJ2_getChar_3b067 57 = .ok (.ior, 1) := by decide +kernel
theorem dJ2_getChar_3b067_58 : decode cJ2_getChar_3b067 58 = .ok (.i2c, 1) := by decide +kernel
theorem dJ2_getChar_3b067_59 : decode cJ2_getChar_3b067 59 = .ok (.ireturn, 1) := by decide +kernel
theorem dJ2_length_9d52b_0 : decode cJ2_length_9d52b 0 = .ok (.aload_n 0, 1) := by decide +kernel
theorem dJ2_length_9d52b_1 : decode cJ2_length_9d52b 1 = .ok (.arraylength, 1) := by decide +kernel
theorem dJ2_length_9d52b_2 : decode cJ2_length_9d52b 2 = .ok (.iconst 1, 1) := by decide +kernel
theorem dJ2_length_9d52b_3 : decode cJ2_length_9d52b 3 = .ok (.ishr, 1) := by decide +kernel
theorem dJ2_length_9d52b_4 : decode cJ2_length_9d52b 4 = .ok (.ireturn, 1) := by decide +kernel
theorem dJ2_charAt_3b067_0 : decode cJ2_charAt_3b067 0 = .ok (.iload_n 1, 1) := by decide +kernel
theorem dJ2_charAt_3b067_1 : decode cJ2_charAt_3b067 1 = .ok (.aload_n 0, 1) := by decide +kernel
theorem dJ2_charAt_3b067_2 : decode cJ2_charAt_3b067 2 = .ok (.invokestatic 67, 3) := by decide +kernel
theorem dJ2_charAt_3b067_5 : decode cJ2_charAt_3b067 5 = .ok (.aload_n 0, 1) := by decide +kernel
theorem dJ2_charAt_3b067_6 : decode cJ2_charAt_3b067 6 = .ok (.iload_n 1, 1) := by decide +kernel
theorem dJ2_charAt_3b067_7 : decode cJ2_charAt_3b067 7 = .ok (.invokestatic 71, 3) := by decide +kernel
theorem dJ2_charAt_3b067_10 : decode cJ2_charAt_3b067 10 = .ok (.ireturn, 1) := by decide +kernel
theorem dJ2_checkIndex_2214a_0 : decode cJ2_checkIndex_2214a 0 = .ok (.iload_n 0, 1) := by decide +kernel
theorem dJ2_checkIndex_2214a_1 : decode cJ2_checkIndex_2214a 1 = .ok (.aload_n 1, 1) := by decide +kernel
theorem dJ2_checkIndex_2214a_2 : decode cJ2_checkIndex_2214a 2 = .ok (.invokestatic 48, 3) := by decide +kernel
theorem dJ2_checkIndex_2214a_5 : decode cJ2_checkIndex_2214a 5 = .ok (.invokestatic 414, 3) := by decide +kernel
theorem dJ2_checkIndex_2214a_8 : decode cJ2_checkIndex_2214a 8 = .ok (.return_, 1) := by decide +kernel
theorem dJ3_checkIndex_8e157_0 : decode cJ3_checkIndex_8e157 0 = .ok (.iload_n 0, 1) := by decide +kernel
theorem dJ3_checkIndex_8e157_1 : decode cJ3_checkIndex_8e157 1 = .ok (.ifCond .lt 8, 3) := by decide +kernel
theorem dJ3_checkIndex_8e157_4 : decode cJ3_checkIndex_8e157 4 = .ok (.iload_n 0, 1) := by decide +kernel
theorem dJ3_checkIndex_8e157_5 : decode cJ3_checkIndex_8e157 5 = .ok (.iload_n 1, 1) := by decide +kernel
theorem dJ3_checkIndex_8e157_6 : decode cJ3_checkIndex_8e157 6 = .ok (.if_icmp .lt 10, 3) := by decide +kernel
theorem dJ3_checkIndex_8e157_9 : decode cJ3_checkIndex_8e157 9 = .ok (.aload_n 2, 1) := by decide +kernel
theorem dJ3_checkIndex_8e157_10 : decode cJ3_checkIndex_8e157 10 = .ok (.iload_n 0, 1) := by decide +kernel
theorem dJ3_checkIndex_8e157_11 : decode cJ3_checkIndex_8e157 11 = .ok (.iload_n 1, 1) := by decide +kernel
theorem dJ3_checkIndex_8e157_12 : decode cJ3_checkIndex_8e157 12 = .ok (.invokestatic 95, 3) := by decide +kernel
theorem dJ3_checkIndex_8e157_15 : decode cJ3_checkIndex_8e157 15 = .ok (.athrow, 1) := by decide +kernel
theorem dJ3_checkIndex_8e157_16 : decode cJ3_checkIndex_8e157 16 = .ok (.iload_n 0, 1) := by decide +kernel
theorem dJ3_checkIndex_8e157_17 : decode cJ3_checkIndex_8e157 17 = .ok (.ireturn, 1) := by decide +kernel
abbrev vwCl : List vw_C := [(RX0, TX0, 2), (RX1, TX1, 4), (RX2, TX2, 5), (RX3, TX3, 8), (RX4, TX4, 7), (RX5, TX5, 5), (RX6, TX6, 15), (RX7, TX7, 25)]
