-- 01.names
section
-- ===== PART A: goes FIRST, ahead of the names: the tables' words, and 'selects' of the private methods out of them =====
/-- a private method of a class that the tables say can be made, by its rows of tables_1 -/
def lw_okq (q : MethodName × Nat) : Prop := (q.1.cls ≠ "java/lang/invoke/MethodHandle" ∧ q.1.cls ≠ "java/lang/invoke/VarHandle") ∧ Cond.instantiable q.1.cls q.2 ∈ tables_1 ∧ Cond.privateMethod q.1 ∈ tables_1 ∧ Cond.instanceMethod q.1 ∈ tables_1
theorem lw_p0 : lw_okq (⟨"BitDesk$Reader", "readSize", "(LBitDesk$State;)V"⟩, 7) := ⟨⟨by decide +kernel, by decide +kernel⟩, List.mem_of_getElem? (i := 30) (by decide +kernel), List.mem_of_getElem? (i := 259) (by decide +kernel), List.mem_of_getElem? (i := 260) (by decide +kernel)⟩
theorem lw_p1 : lw_okq (⟨"BitDesk$Reader", "takeWord", "()V"⟩, 7) := ⟨⟨by decide +kernel, by decide +kernel⟩, List.mem_of_getElem? (i := 30) (by decide +kernel), List.mem_of_getElem? (i := 263) (by decide +kernel), List.mem_of_getElem? (i := 264) (by decide +kernel)⟩
theorem lw_p2 : lw_okq (⟨"BitDesk$Reader", "skipSpaces", "()V"⟩, 7) := ⟨⟨by decide +kernel, by decide +kernel⟩, List.mem_of_getElem? (i := 30) (by decide +kernel), List.mem_of_getElem? (i := 267) (by decide +kernel), List.mem_of_getElem? (i := 268) (by decide +kernel)⟩
theorem lw_p3 : lw_okq (⟨"BitDesk$Reader", "isWord", "(Ljava/lang/String;)Z"⟩, 7) := ⟨⟨by decide +kernel, by decide +kernel⟩, List.mem_of_getElem? (i := 30) (by decide +kernel), List.mem_of_getElem? (i := 272) (by decide +kernel), List.mem_of_getElem? (i := 273) (by decide +kernel)⟩
theorem lw_p4 : lw_okq (⟨"BitDesk$Reader", "fail", "(II)V"⟩, 7) := ⟨⟨by decide +kernel, by decide +kernel⟩, List.mem_of_getElem? (i := 30) (by decide +kernel), List.mem_of_getElem? (i := 324) (by decide +kernel), List.mem_of_getElem? (i := 325) (by decide +kernel)⟩
theorem lw_p5 : lw_okq (⟨"BitDesk$Reader", "takeNumber", "(II)I"⟩, 7) := ⟨⟨by decide +kernel, by decide +kernel⟩, List.mem_of_getElem? (i := 30) (by decide +kernel), List.mem_of_getElem? (i := 328) (by decide +kernel), List.mem_of_getElem? (i := 329) (by decide +kernel)⟩
theorem lw_p6 : lw_okq (⟨"BitDesk$Reader", "takeDigits", "()V"⟩, 7) := ⟨⟨by decide +kernel, by decide +kernel⟩, List.mem_of_getElem? (i := 30) (by decide +kernel), List.mem_of_getElem? (i := 332) (by decide +kernel), List.mem_of_getElem? (i := 333) (by decide +kernel)⟩
theorem lw_p7 : lw_okq (⟨"BitDesk$Reader", "hasMore", "()Z"⟩, 7) := ⟨⟨by decide +kernel, by decide +kernel⟩, List.mem_of_getElem? (i := 30) (by decide +kernel), List.mem_of_getElem? (i := 347) (by decide +kernel), List.mem_of_getElem? (i := 348) (by decide +kernel)⟩
theorem lw_p8 : lw_okq (⟨"BitDesk$Reader", "takeSemicolon", "()V"⟩, 7) := ⟨⟨by decide +kernel, by decide +kernel⟩, List.mem_of_getElem? (i := 30) (by decide +kernel), List.mem_of_getElem? (i := 351) (by decide +kernel), List.mem_of_getElem? (i := 352) (by decide +kernel)⟩
theorem lw_p9 : lw_okq (⟨"BitDesk$Reader", "readStatement", "(LBitDesk$State;)V"⟩, 7) := ⟨⟨by decide +kernel, by decide +kernel⟩, List.mem_of_getElem? (i := 30) (by decide +kernel), List.mem_of_getElem? (i := 355) (by decide +kernel), List.mem_of_getElem? (i := 356) (by decide +kernel)⟩
theorem lw_p10 : lw_okq (⟨"BitDesk$Reader", "readEdge", "(LBitDesk$State;)V"⟩, 7) := ⟨⟨by decide +kernel, by decide +kernel⟩, List.mem_of_getElem? (i := 30) (by decide +kernel), List.mem_of_getElem? (i := 360) (by decide +kernel), List.mem_of_getElem? (i := 361) (by decide +kernel)⟩
theorem lw_p11 : lw_okq (⟨"BitDesk$Reader", "readRow", "(LBitDesk$State;)V"⟩, 7) := ⟨⟨by decide +kernel, by decide +kernel⟩, List.mem_of_getElem? (i := 30) (by decide +kernel), List.mem_of_getElem? (i := 365) (by decide +kernel), List.mem_of_getElem? (i := 366) (by decide +kernel)⟩
theorem lw_p12 : lw_okq (⟨"BitDesk$Reader", "takeBits", "(I)I"⟩, 7) := ⟨⟨by decide +kernel, by decide +kernel⟩, List.mem_of_getElem? (i := 30) (by decide +kernel), List.mem_of_getElem? (i := 369) (by decide +kernel), List.mem_of_getElem? (i := 370) (by decide +kernel)⟩
theorem lw_p13 : lw_okq (⟨"BitDesk$Reader", "readFill", "(LBitDesk$State;)V"⟩, 7) := ⟨⟨by decide +kernel, by decide +kernel⟩, List.mem_of_getElem? (i := 30) (by decide +kernel), List.mem_of_getElem? (i := 374) (by decide +kernel), List.mem_of_getElem? (i := 375) (by decide +kernel)⟩
theorem lw_p14 : lw_okq (⟨"BitDesk$Reader", "rowOfKind", "(II)I"⟩, 7) := ⟨⟨by decide +kernel, by decide +kernel⟩, List.mem_of_getElem? (i := 30) (by decide +kernel), List.mem_of_getElem? (i := 378) (by decide +kernel), List.mem_of_getElem? (i := 379) (by decide +kernel)⟩
theorem lw_p15 : lw_okq (⟨"BitDesk$Reader", "readKeep", "(LBitDesk$State;)V"⟩, 7) := ⟨⟨by decide +kernel, by decide +kernel⟩, List.mem_of_getElem? (i := 30) (by decide +kernel), List.mem_of_getElem? (i := 390) (by decide +kernel), List.mem_of_getElem? (i := 391) (by decide +kernel)⟩
def lw_privs_1 : List (MethodName × Nat) := [(⟨"BitDesk$Reader", "readSize", "(LBitDesk$State;)V"⟩, 7), (⟨"BitDesk$Reader", "takeWord", "()V"⟩, 7), (⟨"BitDesk$Reader", "skipSpaces", "()V"⟩, 7), (⟨"BitDesk$Reader", "isWord", "(Ljava/lang/String;)Z"⟩, 7), (⟨"BitDesk$Reader", "fail", "(II)V"⟩, 7), (⟨"BitDesk$Reader", "takeNumber", "(II)I"⟩, 7), (⟨"BitDesk$Reader", "takeDigits", "()V"⟩, 7), (⟨"BitDesk$Reader", "hasMore", "()Z"⟩, 7), (⟨"BitDesk$Reader", "takeSemicolon", "()V"⟩, 7), (⟨"BitDesk$Reader", "readStatement", "(LBitDesk$State;)V"⟩, 7), (⟨"BitDesk$Reader", "readEdge", "(LBitDesk$State;)V"⟩, 7), (⟨"BitDesk$Reader", "readRow", "(LBitDesk$State;)V"⟩, 7), (⟨"BitDesk$Reader", "takeBits", "(I)I"⟩, 7), (⟨"BitDesk$Reader", "readFill", "(LBitDesk$State;)V"⟩, 7), (⟨"BitDesk$Reader", "rowOfKind", "(II)I"⟩, 7), (⟨"BitDesk$Reader", "readKeep", "(LBitDesk$State;)V"⟩, 7)]
theorem lw_r1 : ∀ q ∈ lw_privs_1, lw_okq q := List.forall_mem_cons.mpr ⟨lw_p0, List.forall_mem_cons.mpr ⟨lw_p1, List.forall_mem_cons.mpr ⟨lw_p2, List.forall_mem_cons.mpr ⟨lw_p3, List.forall_mem_cons.mpr ⟨lw_p4, List.forall_mem_cons.mpr ⟨lw_p5, List.forall_mem_cons.mpr ⟨lw_p6, List.forall_mem_cons.mpr ⟨lw_p7, List.forall_mem_cons.mpr ⟨lw_p8, List.forall_mem_cons.mpr ⟨lw_p9, List.forall_mem_cons.mpr ⟨lw_p10, List.forall_mem_cons.mpr ⟨lw_p11, List.forall_mem_cons.mpr ⟨lw_p12, List.forall_mem_cons.mpr ⟨lw_p13, List.forall_mem_cons.mpr ⟨lw_p14, List.forall_mem_cons.mpr ⟨lw_p15, fun _ h => absurd h List.not_mem_nil⟩⟩⟩⟩⟩⟩⟩⟩⟩⟩⟩⟩⟩⟩⟩⟩
theorem lw_p16 : lw_okq (⟨"BitDesk", "replaceState", "(LBitDesk$State;)V"⟩, 15) := ⟨⟨by decide +kernel, by decide +kernel⟩, List.mem_of_getElem? (i := 22) (by decide +kernel), List.mem_of_getElem? (i := 403) (by decide +kernel), List.mem_of_getElem? (i := 404) (by decide +kernel)⟩
theorem lw_p17 : lw_okq (⟨"BitDesk", "dropClosures", "()V"⟩, 15) := ⟨⟨by decide +kernel, by decide +kernel⟩, List.mem_of_getElem? (i := 22) (by decide +kernel), List.mem_of_getElem? (i := 418) (by decide +kernel), List.mem_of_getElem? (i := 419) (by decide +kernel)⟩
theorem lw_p18 : lw_okq (⟨"BitDesk", "needRange", "(III)V"⟩, 15) := ⟨⟨by decide +kernel, by decide +kernel⟩, List.mem_of_getElem? (i := 22) (by decide +kernel), List.mem_of_getElem? (i := 447) (by decide +kernel), List.mem_of_getElem? (i := 448) (by decide +kernel)⟩
theorem lw_p19 : lw_okq (⟨"java/lang/Throwable", "fillInStackTrace", "(I)Ljava/lang/Throwable;"⟩, 6) := ⟨⟨by decide +kernel, by decide +kernel⟩, List.mem_of_getElem? (i := 488) (by decide +kernel), List.mem_of_getElem? (i := 486) (by decide +kernel), List.mem_of_getElem? (i := 487) (by decide +kernel)⟩
theorem lw_p20 : lw_okq (⟨"BitDesk", "keptSlots", "()I"⟩, 15) := ⟨⟨by decide +kernel, by decide +kernel⟩, List.mem_of_getElem? (i := 22) (by decide +kernel), List.mem_of_getElem? (i := 517) (by decide +kernel), List.mem_of_getElem? (i := 518) (by decide +kernel)⟩
theorem lw_p21 : lw_okq (⟨"BitDesk", "needCell", "(III)V"⟩, 15) := ⟨⟨by decide +kernel, by decide +kernel⟩, List.mem_of_getElem? (i := 22) (by decide +kernel), List.mem_of_getElem? (i := 529) (by decide +kernel), List.mem_of_getElem? (i := 530) (by decide +kernel)⟩
theorem lw_p22 : lw_okq (⟨"BitDesk", "needRow", "(II)V"⟩, 15) := ⟨⟨by decide +kernel, by decide +kernel⟩, List.mem_of_getElem? (i := 22) (by decide +kernel), List.mem_of_getElem? (i := 533) (by decide +kernel), List.mem_of_getElem? (i := 534) (by decide +kernel)⟩
theorem lw_p23 : lw_okq (⟨"BitDesk", "needSlot", "(I)V"⟩, 15) := ⟨⟨by decide +kernel, by decide +kernel⟩, List.mem_of_getElem? (i := 22) (by decide +kernel), List.mem_of_getElem? (i := 537) (by decide +kernel), List.mem_of_getElem? (i := 538) (by decide +kernel)⟩
theorem lw_p24 : lw_okq (⟨"BitDesk", "needNode", "(I)V"⟩, 15) := ⟨⟨by decide +kernel, by decide +kernel⟩, List.mem_of_getElem? (i := 22) (by decide +kernel), List.mem_of_getElem? (i := 557) (by decide +kernel), List.mem_of_getElem? (i := 558) (by decide +kernel)⟩
theorem lw_p25 : lw_okq (⟨"BitDesk", "rowsOf", "(I)[I"⟩, 15) := ⟨⟨by decide +kernel, by decide +kernel⟩, List.mem_of_getElem? (i := 22) (by decide +kernel), List.mem_of_getElem? (i := 562) (by decide +kernel), List.mem_of_getElem? (i := 563) (by decide +kernel)⟩
theorem lw_p26 : lw_okq (⟨"BitDesk", "firstEqual", "([II)I"⟩, 15) := ⟨⟨by decide +kernel, by decide +kernel⟩, List.mem_of_getElem? (i := 22) (by decide +kernel), List.mem_of_getElem? (i := 631) (by decide +kernel), List.mem_of_getElem? (i := 632) (by decide +kernel)⟩
theorem lw_p27 : lw_okq (⟨"BitDesk", "firstRows", "([II)I"⟩, 15) := ⟨⟨by decide +kernel, by decide +kernel⟩, List.mem_of_getElem? (i := 22) (by decide +kernel), List.mem_of_getElem? (i := 642) (by decide +kernel), List.mem_of_getElem? (i := 643) (by decide +kernel)⟩
theorem lw_p28 : lw_okq (⟨"BitDesk", "closureOf", "(I)LBitDesk$Closure;"⟩, 15) := ⟨⟨by decide +kernel, by decide +kernel⟩, List.mem_of_getElem? (i := 22) (by decide +kernel), List.mem_of_getElem? (i := 689) (by decide +kernel), List.mem_of_getElem? (i := 690) (by decide +kernel)⟩
theorem lw_p29 : lw_okq (⟨"BitDesk", "fewestEdges", "([III)I"⟩, 15) := ⟨⟨by decide +kernel, by decide +kernel⟩, List.mem_of_getElem? (i := 22) (by decide +kernel), List.mem_of_getElem? (i := 750) (by decide +kernel), List.mem_of_getElem? (i := 751) (by decide +kernel)⟩
theorem lw_p30 : lw_okq (⟨"BitDesk", "joinedRows", "([II)I"⟩, 15) := ⟨⟨by decide +kernel, by decide +kernel⟩, List.mem_of_getElem? (i := 22) (by decide +kernel), List.mem_of_getElem? (i := 754) (by decide +kernel), List.mem_of_getElem? (i := 755) (by decide +kernel)⟩
theorem lw_p31 : lw_okq (⟨"BitDesk", "fillLevels", "([III)V"⟩, 15) := ⟨⟨by decide +kernel, by decide +kernel⟩, List.mem_of_getElem? (i := 22) (by decide +kernel), List.mem_of_getElem? (i := 766) (by decide +kernel), List.mem_of_getElem? (i := 767) (by decide +kernel)⟩
def lw_privs_2 : List (MethodName × Nat) := [(⟨"BitDesk", "replaceState", "(LBitDesk$State;)V"⟩, 15), (⟨"BitDesk", "dropClosures", "()V"⟩, 15), (⟨"BitDesk", "needRange", "(III)V"⟩, 15), (⟨"java/lang/Throwable", "fillInStackTrace", "(I)Ljava/lang/Throwable;"⟩, 6), (⟨"BitDesk", "keptSlots", "()I"⟩, 15), (⟨"BitDesk", "needCell", "(III)V"⟩, 15), (⟨"BitDesk", "needRow", "(II)V"⟩, 15), (⟨"BitDesk", "needSlot", "(I)V"⟩, 15), (⟨"BitDesk", "needNode", "(I)V"⟩, 15), (⟨"BitDesk", "rowsOf", "(I)[I"⟩, 15), (⟨"BitDesk", "firstEqual", "([II)I"⟩, 15), (⟨"BitDesk", "firstRows", "([II)I"⟩, 15), (⟨"BitDesk", "closureOf", "(I)LBitDesk$Closure;"⟩, 15), (⟨"BitDesk", "fewestEdges", "([III)I"⟩, 15), (⟨"BitDesk", "joinedRows", "([II)I"⟩, 15), (⟨"BitDesk", "fillLevels", "([III)V"⟩, 15)]
theorem lw_r2 : ∀ q ∈ lw_privs_2, lw_okq q := List.forall_mem_cons.mpr ⟨lw_p16, List.forall_mem_cons.mpr ⟨lw_p17, List.forall_mem_cons.mpr ⟨lw_p18, List.forall_mem_cons.mpr ⟨lw_p19, List.forall_mem_cons.mpr ⟨lw_p20, List.forall_mem_cons.mpr ⟨lw_p21, List.forall_mem_cons.mpr ⟨lw_p22, List.forall_mem_cons.mpr ⟨lw_p23, List.forall_mem_cons.mpr ⟨lw_p24, List.forall_mem_cons.mpr ⟨lw_p25, List.forall_mem_cons.mpr ⟨lw_p26, List.forall_mem_cons.mpr ⟨lw_p27, List.forall_mem_cons.mpr ⟨lw_p28, List.forall_mem_cons.mpr ⟨lw_p29, List.forall_mem_cons.mpr ⟨lw_p30, List.forall_mem_cons.mpr ⟨lw_p31, fun _ h => absurd h List.not_mem_nil⟩⟩⟩⟩⟩⟩⟩⟩⟩⟩⟩⟩⟩⟩⟩⟩
theorem lw_p32 : lw_okq (⟨"BitDesk", "lossWithout", "(III)I"⟩, 15) := ⟨⟨by decide +kernel, by decide +kernel⟩, List.mem_of_getElem? (i := 22) (by decide +kernel), List.mem_of_getElem? (i := 815) (by decide +kernel), List.mem_of_getElem? (i := 816) (by decide +kernel)⟩
theorem lw_p33 : lw_okq (⟨"BitDesk$Elimination", "eliminateAll", "([II)V"⟩, 4) := ⟨⟨by decide +kernel, by decide +kernel⟩, List.mem_of_getElem? (i := 175) (by decide +kernel), List.mem_of_getElem? (i := 863) (by decide +kernel), List.mem_of_getElem? (i := 864) (by decide +kernel)⟩
theorem lw_p34 : lw_okq (⟨"BitDesk$Elimination", "rowNotTaken", "(II)I"⟩, 4) := ⟨⟨by decide +kernel, by decide +kernel⟩, List.mem_of_getElem? (i := 175) (by decide +kernel), List.mem_of_getElem? (i := 868) (by decide +kernel), List.mem_of_getElem? (i := 869) (by decide +kernel)⟩
theorem lw_p35 : lw_okq (⟨"BitDesk$Elimination", "swapRows", "(II)V"⟩, 4) := ⟨⟨by decide +kernel, by decide +kernel⟩, List.mem_of_getElem? (i := 175) (by decide +kernel), List.mem_of_getElem? (i := 873) (by decide +kernel), List.mem_of_getElem? (i := 874) (by decide +kernel)⟩
theorem lw_p36 : lw_okq (⟨"BitDesk$Elimination", "clearOthers", "(III)V"⟩, 4) := ⟨⟨by decide +kernel, by decide +kernel⟩, List.mem_of_getElem? (i := 175) (by decide +kernel), List.mem_of_getElem? (i := 877) (by decide +kernel), List.mem_of_getElem? (i := 878) (by decide +kernel)⟩
theorem lw_p37 : lw_okq (⟨"BitDesk", "remember", "()V"⟩, 15) := ⟨⟨by decide +kernel, by decide +kernel⟩, List.mem_of_getElem? (i := 22) (by decide +kernel), List.mem_of_getElem? (i := 922) (by decide +kernel), List.mem_of_getElem? (i := 923) (by decide +kernel)⟩
theorem lw_p38 : lw_okq (⟨"BitDesk", "noteChange", "(I)V"⟩, 15) := ⟨⟨by decide +kernel, by decide +kernel⟩, List.mem_of_getElem? (i := 22) (by decide +kernel), List.mem_of_getElem? (i := 944) (by decide +kernel), List.mem_of_getElem? (i := 945) (by decide +kernel)⟩
theorem lw_p39 : lw_okq (⟨"BitDesk", "store", "([II)I"⟩, 15) := ⟨⟨by decide +kernel, by decide +kernel⟩, List.mem_of_getElem? (i := 22) (by decide +kernel), List.mem_of_getElem? (i := 956) (by decide +kernel), List.mem_of_getElem? (i := 957) (by decide +kernel)⟩
theorem lw_p40 : lw_okq (⟨"BitDesk$Multiplier", "fillTable", "([III)V"⟩, 8) := ⟨⟨by decide +kernel, by decide +kernel⟩, List.mem_of_getElem? (i := 142) (by decide +kernel), List.mem_of_getElem? (i := 993) (by decide +kernel), List.mem_of_getElem? (i := 994) (by decide +kernel)⟩
theorem lw_p41 : lw_okq (⟨"BitDesk$Multiplier", "joined", "(II)I"⟩, 8) := ⟨⟨by decide +kernel, by decide +kernel⟩, List.mem_of_getElem? (i := 142) (by decide +kernel), List.mem_of_getElem? (i := 997) (by decide +kernel), List.mem_of_getElem? (i := 998) (by decide +kernel)⟩
theorem lw_p42 : lw_okq (⟨"BitDesk$Multiplier", "takeEntries", "([I[III)V"⟩, 8) := ⟨⟨by decide +kernel, by decide +kernel⟩, List.mem_of_getElem? (i := 142) (by decide +kernel), List.mem_of_getElem? (i := 1001) (by decide +kernel), List.mem_of_getElem? (i := 1002) (by decide +kernel)⟩
theorem lw_p43 : lw_okq (⟨"BitDesk", "noteWork", "()V"⟩, 15) := ⟨⟨by decide +kernel, by decide +kernel⟩, List.mem_of_getElem? (i := 22) (by decide +kernel), List.mem_of_getElem? (i := 1006) (by decide +kernel), List.mem_of_getElem? (i := 1007) (by decide +kernel)⟩
theorem lw_p44 : lw_okq (⟨"BitDesk", "dropNeedless", "([II)V"⟩, 15) := ⟨⟨by decide +kernel, by decide +kernel⟩, List.mem_of_getElem? (i := 22) (by decide +kernel), List.mem_of_getElem? (i := 1049) (by decide +kernel), List.mem_of_getElem? (i := 1050) (by decide +kernel)⟩
theorem lw_p45 : lw_okq (⟨"BitDeskModel", "sizePart", "()V"⟩, 25) := ⟨⟨by decide +kernel, by decide +kernel⟩, List.mem_of_getElem? (i := 1113) (by decide +kernel), List.mem_of_getElem? (i := 1216) (by decide +kernel), List.mem_of_getElem? (i := 1217) (by decide +kernel)⟩
theorem lw_p46 : lw_okq (⟨"BitDeskModel", "reads", "()V"⟩, 25) := ⟨⟨by decide +kernel, by decide +kernel⟩, List.mem_of_getElem? (i := 1113) (by decide +kernel), List.mem_of_getElem? (i := 1220) (by decide +kernel), List.mem_of_getElem? (i := 1221) (by decide +kernel)⟩
theorem lw_p47 : lw_okq (⟨"BitDeskModel", "next", "()I"⟩, 25) := ⟨⟨by decide +kernel, by decide +kernel⟩, List.mem_of_getElem? (i := 1113) (by decide +kernel), List.mem_of_getElem? (i := 1224) (by decide +kernel), List.mem_of_getElem? (i := 1225) (by decide +kernel)⟩
def lw_privs_3 : List (MethodName × Nat) := [(⟨"BitDesk", "lossWithout", "(III)I"⟩, 15), (⟨"BitDesk$Elimination", "eliminateAll", "([II)V"⟩, 4), (⟨"BitDesk$Elimination", "rowNotTaken", "(II)I"⟩, 4), (⟨"BitDesk$Elimination", "swapRows", "(II)V"⟩, 4), (⟨"BitDesk$Elimination", "clearOthers", "(III)V"⟩, 4), (⟨"BitDesk", "remember", "()V"⟩, 15), (⟨"BitDesk", "noteChange", "(I)V"⟩, 15), (⟨"BitDesk", "store", "([II)I"⟩, 15), (⟨"BitDesk$Multiplier", "fillTable", "([III)V"⟩, 8), (⟨"BitDesk$Multiplier", "joined", "(II)I"⟩, 8), (⟨"BitDesk$Multiplier", "takeEntries", "([I[III)V"⟩, 8), (⟨"BitDesk", "noteWork", "()V"⟩, 15), (⟨"BitDesk", "dropNeedless", "([II)V"⟩, 15), (⟨"BitDeskModel", "sizePart", "()V"⟩, 25), (⟨"BitDeskModel", "reads", "()V"⟩, 25), (⟨"BitDeskModel", "next", "()I"⟩, 25)]
theorem lw_r3 : ∀ q ∈ lw_privs_3, lw_okq q := List.forall_mem_cons.mpr ⟨lw_p32, List.forall_mem_cons.mpr ⟨lw_p33, List.forall_mem_cons.mpr ⟨lw_p34, List.forall_mem_cons.mpr ⟨lw_p35, List.forall_mem_cons.mpr ⟨lw_p36, List.forall_mem_cons.mpr ⟨lw_p37, List.forall_mem_cons.mpr ⟨lw_p38, List.forall_mem_cons.mpr ⟨lw_p39, List.forall_mem_cons.mpr ⟨lw_p40, List.forall_mem_cons.mpr ⟨lw_p41, List.forall_mem_cons.mpr ⟨lw_p42, List.forall_mem_cons.mpr ⟨lw_p43, List.forall_mem_cons.mpr ⟨lw_p44, List.forall_mem_cons.mpr ⟨lw_p45, List.forall_mem_cons.mpr ⟨lw_p46, List.forall_mem_cons.mpr ⟨lw_p47, fun _ h => absurd h List.not_mem_nil⟩⟩⟩⟩⟩⟩⟩⟩⟩⟩⟩⟩⟩⟩⟩⟩
theorem lw_p48 : lw_okq (⟨"BitDeskModel", "here", "()I"⟩, 25) := ⟨⟨by decide +kernel, by decide +kernel⟩, List.mem_of_getElem? (i := 1113) (by decide +kernel), List.mem_of_getElem? (i := 1228) (by decide +kernel), List.mem_of_getElem? (i := 1229) (by decide +kernel)⟩
theorem lw_p49 : lw_okq (⟨"BitDeskModel", "isWord", "(Ljava/lang/String;)Z"⟩, 25) := ⟨⟨by decide +kernel, by decide +kernel⟩, List.mem_of_getElem? (i := 1113) (by decide +kernel), List.mem_of_getElem? (i := 1238) (by decide +kernel), List.mem_of_getElem? (i := 1239) (by decide +kernel)⟩
theorem lw_p50 : lw_okq (⟨"BitDeskModel", "fails", "(I)V"⟩, 25) := ⟨⟨by decide +kernel, by decide +kernel⟩, List.mem_of_getElem? (i := 1113) (by decide +kernel), List.mem_of_getElem? (i := 1244) (by decide +kernel), List.mem_of_getElem? (i := 1245) (by decide +kernel)⟩
theorem lw_p51 : lw_okq (⟨"BitDeskModel", "number", "(II)I"⟩, 25) := ⟨⟨by decide +kernel, by decide +kernel⟩, List.mem_of_getElem? (i := 1113) (by decide +kernel), List.mem_of_getElem? (i := 1248) (by decide +kernel), List.mem_of_getElem? (i := 1249) (by decide +kernel)⟩
theorem lw_p52 : lw_okq (⟨"BitDeskModel", "isMore", "()Z"⟩, 25) := ⟨⟨by decide +kernel, by decide +kernel⟩, List.mem_of_getElem? (i := 1113) (by decide +kernel), List.mem_of_getElem? (i := 1256) (by decide +kernel), List.mem_of_getElem? (i := 1257) (by decide +kernel)⟩
theorem lw_p53 : lw_okq (⟨"BitDeskModel", "statement", "()V"⟩, 25) := ⟨⟨by decide +kernel, by decide +kernel⟩, List.mem_of_getElem? (i := 1113) (by decide +kernel), List.mem_of_getElem? (i := 1260) (by decide +kernel), List.mem_of_getElem? (i := 1261) (by decide +kernel)⟩
theorem lw_p54 : lw_okq (⟨"BitDeskModel", "edgePart", "()V"⟩, 25) := ⟨⟨by decide +kernel, by decide +kernel⟩, List.mem_of_getElem? (i := 1113) (by decide +kernel), List.mem_of_getElem? (i := 1265) (by decide +kernel), List.mem_of_getElem? (i := 1266) (by decide +kernel)⟩
theorem lw_p55 : lw_okq (⟨"BitDeskModel", "readSlot", "()I"⟩, 25) := ⟨⟨by decide +kernel, by decide +kernel⟩, List.mem_of_getElem? (i := 1113) (by decide +kernel), List.mem_of_getElem? (i := 1269) (by decide +kernel), List.mem_of_getElem? (i := 1270) (by decide +kernel)⟩
theorem lw_p56 : lw_okq (⟨"BitDeskModel", "readNode", "()I"⟩, 25) := ⟨⟨by decide +kernel, by decide +kernel⟩, List.mem_of_getElem? (i := 1113) (by decide +kernel), List.mem_of_getElem? (i := 1273) (by decide +kernel), List.mem_of_getElem? (i := 1274) (by decide +kernel)⟩
theorem lw_p57 : lw_okq (⟨"BitDeskModel", "rowPart", "()V"⟩, 25) := ⟨⟨by decide +kernel, by decide +kernel⟩, List.mem_of_getElem? (i := 1113) (by decide +kernel), List.mem_of_getElem? (i := 1278) (by decide +kernel), List.mem_of_getElem? (i := 1279) (by decide +kernel)⟩
theorem lw_p58 : lw_okq (⟨"BitDeskModel", "fillPart", "()V"⟩, 25) := ⟨⟨by decide +kernel, by decide +kernel⟩, List.mem_of_getElem? (i := 1113) (by decide +kernel), List.mem_of_getElem? (i := 1283) (by decide +kernel), List.mem_of_getElem? (i := 1284) (by decide +kernel)⟩
theorem lw_p59 : lw_okq (⟨"BitDeskModel", "kindHere", "()I"⟩, 25) := ⟨⟨by decide +kernel, by decide +kernel⟩, List.mem_of_getElem? (i := 1113) (by decide +kernel), List.mem_of_getElem? (i := 1287) (by decide +kernel), List.mem_of_getElem? (i := 1288) (by decide +kernel)⟩
theorem lw_p60 : lw_okq (⟨"BitDeskModel", "keepPart", "()V"⟩, 25) := ⟨⟨by decide +kernel, by decide +kernel⟩, List.mem_of_getElem? (i := 1113) (by decide +kernel), List.mem_of_getElem? (i := 1299) (by decide +kernel), List.mem_of_getElem? (i := 1300) (by decide +kernel)⟩
theorem lw_p61 : lw_okq (⟨"BitDeskModel", "madeAnew", "(I)V"⟩, 25) := ⟨⟨by decide +kernel, by decide +kernel⟩, List.mem_of_getElem? (i := 1113) (by decide +kernel), List.mem_of_getElem? (i := 1307) (by decide +kernel), List.mem_of_getElem? (i := 1308) (by decide +kernel)⟩
theorem lw_p62 : lw_okq (⟨"BitDeskModel", "size", "()I"⟩, 25) := ⟨⟨by decide +kernel, by decide +kernel⟩, List.mem_of_getElem? (i := 1113) (by decide +kernel), List.mem_of_getElem? (i := 1311) (by decide +kernel), List.mem_of_getElem? (i := 1312) (by decide +kernel)⟩
theorem lw_p63 : lw_okq (⟨"BitDeskModel", "looks", "(II)V"⟩, 25) := ⟨⟨by decide +kernel, by decide +kernel⟩, List.mem_of_getElem? (i := 1113) (by decide +kernel), List.mem_of_getElem? (i := 1315) (by decide +kernel), List.mem_of_getElem? (i := 1316) (by decide +kernel)⟩
def lw_privs_4 : List (MethodName × Nat) := [(⟨"BitDeskModel", "here", "()I"⟩, 25), (⟨"BitDeskModel", "isWord", "(Ljava/lang/String;)Z"⟩, 25), (⟨"BitDeskModel", "fails", "(I)V"⟩, 25), (⟨"BitDeskModel", "number", "(II)I"⟩, 25), (⟨"BitDeskModel", "isMore", "()Z"⟩, 25), (⟨"BitDeskModel", "statement", "()V"⟩, 25), (⟨"BitDeskModel", "edgePart", "()V"⟩, 25), (⟨"BitDeskModel", "readSlot", "()I"⟩, 25), (⟨"BitDeskModel", "readNode", "()I"⟩, 25), (⟨"BitDeskModel", "rowPart", "()V"⟩, 25), (⟨"BitDeskModel", "fillPart", "()V"⟩, 25), (⟨"BitDeskModel", "kindHere", "()I"⟩, 25), (⟨"BitDeskModel", "keepPart", "()V"⟩, 25), (⟨"BitDeskModel", "madeAnew", "(I)V"⟩, 25), (⟨"BitDeskModel", "size", "()I"⟩, 25), (⟨"BitDeskModel", "looks", "(II)V"⟩, 25)]
theorem lw_r4 : ∀ q ∈ lw_privs_4, lw_okq q := List.forall_mem_cons.mpr ⟨lw_p48, List.forall_mem_cons.mpr ⟨lw_p49, List.forall_mem_cons.mpr ⟨lw_p50, List.forall_mem_cons.mpr ⟨lw_p51, List.forall_mem_cons.mpr ⟨lw_p52, List.forall_mem_cons.mpr ⟨lw_p53, List.forall_mem_cons.mpr ⟨lw_p54, List.forall_mem_cons.mpr ⟨lw_p55, List.forall_mem_cons.mpr ⟨lw_p56, List.forall_mem_cons.mpr ⟨lw_p57, List.forall_mem_cons.mpr ⟨lw_p58, List.forall_mem_cons.mpr ⟨lw_p59, List.forall_mem_cons.mpr ⟨lw_p60, List.forall_mem_cons.mpr ⟨lw_p61, List.forall_mem_cons.mpr ⟨lw_p62, List.forall_mem_cons.mpr ⟨lw_p63, fun _ h => absurd h List.not_mem_nil⟩⟩⟩⟩⟩⟩⟩⟩⟩⟩⟩⟩⟩⟩⟩⟩
theorem lw_p64 : lw_okq (⟨"BitDeskModel", "isThrown", "(ZI)Z"⟩, 25) := ⟨⟨by decide +kernel, by decide +kernel⟩, List.mem_of_getElem? (i := 1113) (by decide +kernel), List.mem_of_getElem? (i := 1332) (by decide +kernel), List.mem_of_getElem? (i := 1333) (by decide +kernel)⟩
theorem lw_p65 : lw_okq (⟨"BitDeskModel", "keptMany", "()I"⟩, 25) := ⟨⟨by decide +kernel, by decide +kernel⟩, List.mem_of_getElem? (i := 1113) (by decide +kernel), List.mem_of_getElem? (i := 1336) (by decide +kernel), List.mem_of_getElem? (i := 1337) (by decide +kernel)⟩
theorem lw_p66 : lw_okq (⟨"BitDeskModel", "areIn", "(II)Z"⟩, 25) := ⟨⟨by decide +kernel, by decide +kernel⟩, List.mem_of_getElem? (i := 1113) (by decide +kernel), List.mem_of_getElem? (i := 1344) (by decide +kernel), List.mem_of_getElem? (i := 1345) (by decide +kernel)⟩
theorem lw_p67 : lw_okq (⟨"BitDeskModel", "isNode", "(I)Z"⟩, 25) := ⟨⟨by decide +kernel, by decide +kernel⟩, List.mem_of_getElem? (i := 1113) (by decide +kernel), List.mem_of_getElem? (i := 1352) (by decide +kernel), List.mem_of_getElem? (i := 1353) (by decide +kernel)⟩
theorem lw_p68 : lw_okq (⟨"BitDeskModel", "rowOf", "(II)J"⟩, 25) := ⟨⟨by decide +kernel, by decide +kernel⟩, List.mem_of_getElem? (i := 1113) (by decide +kernel), List.mem_of_getElem? (i := 1356) (by decide +kernel), List.mem_of_getElem? (i := 1357) (by decide +kernel)⟩
theorem lw_p69 : lw_okq (⟨"BitDeskModel", "onesOf", "(I)I"⟩, 25) := ⟨⟨by decide +kernel, by decide +kernel⟩, List.mem_of_getElem? (i := 1113) (by decide +kernel), List.mem_of_getElem? (i := 1382) (by decide +kernel), List.mem_of_getElem? (i := 1383) (by decide +kernel)⟩
theorem lw_p70 : lw_okq (⟨"BitDeskModel", "firstAs", "(II)I"⟩, 25) := ⟨⟨by decide +kernel, by decide +kernel⟩, List.mem_of_getElem? (i := 1113) (by decide +kernel), List.mem_of_getElem? (i := 1394) (by decide +kernel), List.mem_of_getElem? (i := 1395) (by decide +kernel)⟩
theorem lw_p71 : lw_okq (⟨"BitDeskModel", "all", "()J"⟩, 25) := ⟨⟨by decide +kernel, by decide +kernel⟩, List.mem_of_getElem? (i := 1113) (by decide +kernel), List.mem_of_getElem? (i := 1402) (by decide +kernel), List.mem_of_getElem? (i := 1403) (by decide +kernel)⟩
theorem lw_p72 : lw_okq (⟨"BitDeskModel", "classesAhead", "(II)I"⟩, 25) := ⟨⟨by decide +kernel, by decide +kernel⟩, List.mem_of_getElem? (i := 1113) (by decide +kernel), List.mem_of_getElem? (i := 1410) (by decide +kernel), List.mem_of_getElem? (i := 1411) (by decide +kernel)⟩
theorem lw_p73 : lw_okq (⟨"BitDeskModel", "closure", "(I)V"⟩, 25) := ⟨⟨by decide +kernel, by decide +kernel⟩, List.mem_of_getElem? (i := 1113) (by decide +kernel), List.mem_of_getElem? (i := 1434) (by decide +kernel), List.mem_of_getElem? (i := 1435) (by decide +kernel)⟩
theorem lw_p74 : lw_okq (⟨"BitDeskModel", "takes", "(I[J)V"⟩, 25) := ⟨⟨by decide +kernel, by decide +kernel⟩, List.mem_of_getElem? (i := 1113) (by decide +kernel), List.mem_of_getElem? (i := 1438) (by decide +kernel), List.mem_of_getElem? (i := 1439) (by decide +kernel)⟩
theorem lw_p75 : lw_okq (⟨"BitDeskModel", "closes", "([J)V"⟩, 25) := ⟨⟨by decide +kernel, by decide +kernel⟩, List.mem_of_getElem? (i := 1113) (by decide +kernel), List.mem_of_getElem? (i := 1442) (by decide +kernel), List.mem_of_getElem? (i := 1443) (by decide +kernel)⟩
theorem lw_p76 : lw_okq (⟨"BitDeskModel", "pairsOf", "(I)I"⟩, 25) := ⟨⟨by decide +kernel, by decide +kernel⟩, List.mem_of_getElem? (i := 1113) (by decide +kernel), List.mem_of_getElem? (i := 1454) (by decide +kernel), List.mem_of_getElem? (i := 1455) (by decide +kernel)⟩
theorem lw_p77 : lw_okq (⟨"BitDeskModel", "sumOf", "([J)I"⟩, 25) := ⟨⟨by decide +kernel, by decide +kernel⟩, List.mem_of_getElem? (i := 1113) (by decide +kernel), List.mem_of_getElem? (i := 1458) (by decide +kernel), List.mem_of_getElem? (i := 1459) (by decide +kernel)⟩
theorem lw_p78 : lw_okq (⟨"BitDeskModel", "componentOf", "(I)I"⟩, 25) := ⟨⟨by decide +kernel, by decide +kernel⟩, List.mem_of_getElem? (i := 1113) (by decide +kernel), List.mem_of_getElem? (i := 1470) (by decide +kernel), List.mem_of_getElem? (i := 1471) (by decide +kernel)⟩
theorem lw_p79 : lw_okq (⟨"BitDeskModel", "measures", "(II)V"⟩, 25) := ⟨⟨by decide +kernel, by decide +kernel⟩, List.mem_of_getElem? (i := 1113) (by decide +kernel), List.mem_of_getElem? (i := 1482) (by decide +kernel), List.mem_of_getElem? (i := 1483) (by decide +kernel)⟩
def lw_privs_5 : List (MethodName × Nat) := [(⟨"BitDeskModel", "isThrown", "(ZI)Z"⟩, 25), (⟨"BitDeskModel", "keptMany", "()I"⟩, 25), (⟨"BitDeskModel", "areIn", "(II)Z"⟩, 25), (⟨"BitDeskModel", "isNode", "(I)Z"⟩, 25), (⟨"BitDeskModel", "rowOf", "(II)J"⟩, 25), (⟨"BitDeskModel", "onesOf", "(I)I"⟩, 25), (⟨"BitDeskModel", "firstAs", "(II)I"⟩, 25), (⟨"BitDeskModel", "all", "()J"⟩, 25), (⟨"BitDeskModel", "classesAhead", "(II)I"⟩, 25), (⟨"BitDeskModel", "closure", "(I)V"⟩, 25), (⟨"BitDeskModel", "takes", "(I[J)V"⟩, 25), (⟨"BitDeskModel", "closes", "([J)V"⟩, 25), (⟨"BitDeskModel", "pairsOf", "(I)I"⟩, 25), (⟨"BitDeskModel", "sumOf", "([J)I"⟩, 25), (⟨"BitDeskModel", "componentOf", "(I)I"⟩, 25), (⟨"BitDeskModel", "measures", "(II)V"⟩, 25)]
theorem lw_r5 : ∀ q ∈ lw_privs_5, lw_okq q := List.forall_mem_cons.mpr ⟨lw_p64, List.forall_mem_cons.mpr ⟨lw_p65, List.forall_mem_cons.mpr ⟨lw_p66, List.forall_mem_cons.mpr ⟨lw_p67, List.forall_mem_cons.mpr ⟨lw_p68, List.forall_mem_cons.mpr ⟨lw_p69, List.forall_mem_cons.mpr ⟨lw_p70, List.forall_mem_cons.mpr ⟨lw_p71, List.forall_mem_cons.mpr ⟨lw_p72, List.forall_mem_cons.mpr ⟨lw_p73, List.forall_mem_cons.mpr ⟨lw_p74, List.forall_mem_cons.mpr ⟨lw_p75, List.forall_mem_cons.mpr ⟨lw_p76, List.forall_mem_cons.mpr ⟨lw_p77, List.forall_mem_cons.mpr ⟨lw_p78, List.forall_mem_cons.mpr ⟨lw_p79, fun _ h => absurd h List.not_mem_nil⟩⟩⟩⟩⟩⟩⟩⟩⟩⟩⟩⟩⟩⟩⟩⟩
theorem lw_p80 : lw_okq (⟨"BitDeskModel", "aroundOf", "(II)I"⟩, 25) := ⟨⟨by decide +kernel, by decide +kernel⟩, List.mem_of_getElem? (i := 1113) (by decide +kernel), List.mem_of_getElem? (i := 1494) (by decide +kernel), List.mem_of_getElem? (i := 1495) (by decide +kernel)⟩
theorem lw_p81 : lw_okq (⟨"BitDeskModel", "free", "(IJ)I"⟩, 25) := ⟨⟨by decide +kernel, by decide +kernel⟩, List.mem_of_getElem? (i := 1113) (by decide +kernel), List.mem_of_getElem? (i := 1506) (by decide +kernel), List.mem_of_getElem? (i := 1507) (by decide +kernel)⟩
theorem lw_p82 : lw_okq (⟨"BitDeskModel", "pairsTurned", "(III)I"⟩, 25) := ⟨⟨by decide +kernel, by decide +kernel⟩, List.mem_of_getElem? (i := 1113) (by decide +kernel), List.mem_of_getElem? (i := 1514) (by decide +kernel), List.mem_of_getElem? (i := 1515) (by decide +kernel)⟩
theorem lw_p83 : lw_okq (⟨"BitDeskModel", "mostTurned", "(II)I"⟩, 25) := ⟨⟨by decide +kernel, by decide +kernel⟩, List.mem_of_getElem? (i := 1113) (by decide +kernel), List.mem_of_getElem? (i := 1526) (by decide +kernel), List.mem_of_getElem? (i := 1527) (by decide +kernel)⟩
theorem lw_p84 : lw_okq (⟨"BitDeskModel", "reduces", "(I)V"⟩, 25) := ⟨⟨by decide +kernel, by decide +kernel⟩, List.mem_of_getElem? (i := 1113) (by decide +kernel), List.mem_of_getElem? (i := 1548) (by decide +kernel), List.mem_of_getElem? (i := 1549) (by decide +kernel)⟩
theorem lw_p85 : lw_okq (⟨"BitDeskModel", "changes", "(II)V"⟩, 25) := ⟨⟨by decide +kernel, by decide +kernel⟩, List.mem_of_getElem? (i := 1113) (by decide +kernel), List.mem_of_getElem? (i := 1552) (by decide +kernel), List.mem_of_getElem? (i := 1553) (by decide +kernel)⟩
theorem lw_p86 : lw_okq (⟨"BitDeskModel", "solved", "(IJ)J"⟩, 25) := ⟨⟨by decide +kernel, by decide +kernel⟩, List.mem_of_getElem? (i := 1113) (by decide +kernel), List.mem_of_getElem? (i := 1560) (by decide +kernel), List.mem_of_getElem? (i := 1561) (by decide +kernel)⟩
theorem lw_p87 : lw_okq (⟨"BitDeskModel", "keeps", "()V"⟩, 25) := ⟨⟨by decide +kernel, by decide +kernel⟩, List.mem_of_getElem? (i := 1113) (by decide +kernel), List.mem_of_getElem? (i := 1581) (by decide +kernel), List.mem_of_getElem? (i := 1582) (by decide +kernel)⟩
theorem lw_p88 : lw_okq (⟨"BitDeskModel", "setsRow", "(IIJ)V"⟩, 25) := ⟨⟨by decide +kernel, by decide +kernel⟩, List.mem_of_getElem? (i := 1113) (by decide +kernel), List.mem_of_getElem? (i := 1585) (by decide +kernel), List.mem_of_getElem? (i := 1586) (by decide +kernel)⟩
theorem lw_p89 : lw_okq (⟨"BitDeskModel", "lays", "([JI)I"⟩, 25) := ⟨⟨by decide +kernel, by decide +kernel⟩, List.mem_of_getElem? (i := 1113) (by decide +kernel), List.mem_of_getElem? (i := 1597) (by decide +kernel), List.mem_of_getElem? (i := 1598) (by decide +kernel)⟩
theorem lw_p90 : lw_okq (⟨"BitDeskModel", "multiplies", "([J[J[JZ)V"⟩, 25) := ⟨⟨by decide +kernel, by decide +kernel⟩, List.mem_of_getElem? (i := 1113) (by decide +kernel), List.mem_of_getElem? (i := 1616) (by decide +kernel), List.mem_of_getElem? (i := 1617) (by decide +kernel)⟩
theorem lw_p91 : lw_okq (⟨"BitDeskModel", "counts", "([J)V"⟩, 25) := ⟨⟨by decide +kernel, by decide +kernel⟩, List.mem_of_getElem? (i := 1113) (by decide +kernel), List.mem_of_getElem? (i := 1620) (by decide +kernel), List.mem_of_getElem? (i := 1621) (by decide +kernel)⟩
theorem lw_p92 : lw_okq (⟨"BitDeskModel", "moves", "([J[J)V"⟩, 25) := ⟨⟨by decide +kernel, by decide +kernel⟩, List.mem_of_getElem? (i := 1113) (by decide +kernel), List.mem_of_getElem? (i := 1629) (by decide +kernel), List.mem_of_getElem? (i := 1630) (by decide +kernel)⟩
theorem lw_p93 : lw_okq (⟨"BitDeskModel", "isSame", "([J[J)Z"⟩, 25) := ⟨⟨by decide +kernel, by decide +kernel⟩, List.mem_of_getElem? (i := 1113) (by decide +kernel), List.mem_of_getElem? (i := 1645) (by decide +kernel), List.mem_of_getElem? (i := 1646) (by decide +kernel)⟩
def lw_privs_6 : List (MethodName × Nat) := [(⟨"BitDeskModel", "aroundOf", "(II)I"⟩, 25), (⟨"BitDeskModel", "free", "(IJ)I"⟩, 25), (⟨"BitDeskModel", "pairsTurned", "(III)I"⟩, 25), (⟨"BitDeskModel", "mostTurned", "(II)I"⟩, 25), (⟨"BitDeskModel", "reduces", "(I)V"⟩, 25), (⟨"BitDeskModel", "changes", "(II)V"⟩, 25), (⟨"BitDeskModel", "solved", "(IJ)J"⟩, 25), (⟨"BitDeskModel", "keeps", "()V"⟩, 25), (⟨"BitDeskModel", "setsRow", "(IIJ)V"⟩, 25), (⟨"BitDeskModel", "lays", "([JI)I"⟩, 25), (⟨"BitDeskModel", "multiplies", "([J[J[JZ)V"⟩, 25), (⟨"BitDeskModel", "counts", "([J)V"⟩, 25), (⟨"BitDeskModel", "moves", "([J[J)V"⟩, 25), (⟨"BitDeskModel", "isSame", "([J[J)Z"⟩, 25)]
theorem lw_r6 : ∀ q ∈ lw_privs_6, lw_okq q := List.forall_mem_cons.mpr ⟨lw_p80, List.forall_mem_cons.mpr ⟨lw_p81, List.forall_mem_cons.mpr ⟨lw_p82, List.forall_mem_cons.mpr ⟨lw_p83, List.forall_mem_cons.mpr ⟨lw_p84, List.forall_mem_cons.mpr ⟨lw_p85, List.forall_mem_cons.mpr ⟨lw_p86, List.forall_mem_cons.mpr ⟨lw_p87, List.forall_mem_cons.mpr ⟨lw_p88, List.forall_mem_cons.mpr ⟨lw_p89, List.forall_mem_cons.mpr ⟨lw_p90, List.forall_mem_cons.mpr ⟨lw_p91, List.forall_mem_cons.mpr ⟨lw_p92, List.forall_mem_cons.mpr ⟨lw_p93, fun _ h => absurd h List.not_mem_nil⟩⟩⟩⟩⟩⟩⟩⟩⟩⟩⟩⟩⟩⟩
def lw_privs : List (MethodName × Nat) := lw_privs_1 ++ (lw_privs_2 ++ (lw_privs_3 ++ (lw_privs_4 ++ (lw_privs_5 ++ (lw_privs_6)))))
def lw_tbl : List Cond := k2_sels lw_privs ++ tables_1
theorem lw_privs_ok : ∀ q ∈ lw_privs, lw_okq q := by
  show ∀ q ∈ lw_privs_1 ++ (lw_privs_2 ++ (lw_privs_3 ++ (lw_privs_4 ++ (lw_privs_5 ++ (lw_privs_6))))), lw_okq q
  exact List.forall_mem_append.mpr ⟨lw_r1, List.forall_mem_append.mpr ⟨lw_r2, List.forall_mem_append.mpr ⟨lw_r3, List.forall_mem_append.mpr ⟨lw_r4, List.forall_mem_append.mpr ⟨lw_r5, lw_r6⟩⟩⟩⟩⟩
/-- the streams that the claim lets the run draw from -/
abbrev lw_cs : List Choice := [Jvm.Choice.named "NaN.bits"]
theorem lw_bits : nanBits ∈ lw_cs := by first | decide | exact List.mem_cons_self | simp [lw_cs, nanBits]
/-! ===== BEGIN words of one list among another's, by their places ===== -/
theorem goodIn_r {big : List Cond} (ws : List Cond) (ps : List Nat) (hp : ws = ps.filterMap (fun i => big[i]?)) (h : ws.all goodWord = true) : GoodIn big ws := by
  intro w hw
  have h1 := List.all_eq_true.mp h w hw
  rw [hp] at hw
  obtain ⟨i, -, hi⟩ := List.mem_filterMap.mp hw
  have hm : w ∈ big := by first | exact List.mem_of_getElem? hi | exact List.getElem?_mem hi
  exact ⟨hm, good_of_word h1⟩
theorem goodIn_app {big a b : List Cond} (ha : GoodIn big a) (hb : GoodIn big b) : GoodIn big (a ++ b) := fun w h => (List.mem_append.mp h).elim (ha w) (hb w)
theorem goodIn_ca {big a b : List Cond} {c : Cond} (ha : GoodIn big (c :: a)) (hb : GoodIn big b) : GoodIn big (c :: (a ++ b)) := fun w h => (List.mem_cons.mp h).elim (fun e => ha w (List.mem_cons.mpr (Or.inl e))) (fun h => (List.mem_append.mp h).elim (fun h => ha w (List.mem_cons.mpr (Or.inr h))) (hb w))
theorem goodIn_sub {big ws : List Cond} (hm : ∀ w ∈ ws, w ∈ big) (h : ws.all goodWord = true) : GoodIn big ws := fun w hw => ⟨hm w hw, good_of_word (List.all_eq_true.mp h w hw)⟩
/-! ===== END ===== -/

/-! ===== BEGIN exceptions that leave a method, and their catching by the caller (launches without stack traces) ===== -/
section VXA
/-! The laws vx_back, vx_callV, vx_callS, vx_callSW, vx_throw0, vx_throwS follow proofs of the library, with one case more: JvmDerived/Free/Laws.lean (Back.of_free), Shelf42/LK1.lean (callV, callS), Shelf/KitTraced.lean (throwNew0V, throwNewS). -/
/-- where a method has thrown q: the class by its name, the cell, what was written, the world -/
def vx_T (XC : String → State → State → Prop) (st : State) (q : Addr) (t : State) (mc ms : Nat) (free : Addr → Prop) : Prop :=
  ∃ (E : String) (ce : Cell) (L : List Loc), XC E st t ∧ t.heap[q]? = some ce ∧ ce.vm = .none ∧ st.vm.findClass E = some ce.cls ∧ st.WarmedH t.vm ∧ st.sameButNew ({ t with vm := st.vm } : State) L mc ms ∧ ∀ z ∈ L, free z.base
def vx_Q (Qc : Array Value → State → Outcome → State → Prop) (XC : String → State → State → Prop) (mc ms : Nat) (free : Addr → Prop) : Array Value → State → Outcome → State → Prop := fun a st o t =>
  (Qc a st o t ∧ ∃ L, FrameEnd st o t L mc ms ∧ ∀ q ∈ L, free q.base) ∨ ∃ q, o = .threw q ∧ vx_T XC st q t mc ms free
/-- a callee that returns or throws -/
def vx_Met (l : Launch) (y : MethodName) (ws : List Cond) (rm : Room) (Pc : Array Value → State → Prop) (Qc : Array Value → State → Outcome → State → Prop) (XC : String → State → State → Prop) (mc ms : Nat) (free : Addr → Prop) : Prop :=
  MetFree l y (headSpec ws rm) Pc (fun _ _ _ _ _ => True) (vx_Q Qc XC mc ms free)
def vx_Post (XC : String → State → State → Prop) (mc ms : Nat) (free : Addr → Prop) : Pt → Array Value → Addr → Pt → Prop := fun A a q B =>
  ∃ (g : JFrame) (mk : MethodId) (t : State) (L : List Loc) (E : String) (ce : Cell), B.U.heap = t.heap ∧ B.U.vm = t.vm ∧ XC E (A.U.calling g mk a) t ∧ t.heap[q]? = some ce ∧ ce.vm = .none ∧ A.U.vm.findClass E = some ce.cls ∧ B.locs = A.locs ++ L ∧ (∀ z ∈ L, free z.base) ∧ B.cells = A.cells + mc ∧ B.slots = A.slots + ms
def vx_Back (l : Launch) (R : Room) (p : Program) (e : Env) (below : List Frame) (s : State) (sargs : Array Value) (y : MethodName) (len W9 : Nat)
    (Pre : Pt → Array Value → Prop) (Post : Pt → Array Value → Option Value → Pt → Prop) (PostX : Pt → Array Value → Addr → Pt → Prop) : Prop :=
  ∀ (m : MethodId) (meth : Method) (c : Code) (A : Pt) (g : JFrame) (ig : Instr) (mk : MethodId) (a : Array Value),
    Stand p l e R s m sargs below meth c A.U A.locs A.cells A.slots → g.method = m → g.locals.size = c.maxLocals → decode c.code g.pc = .ok (ig, len) →
    2 * g.monitorRoom + (g.stack.map fun v => v.category).sum ≤ W9 → A.U.methodNamed? y = some mk → Pre A a →
    (∃ (v : Option Value) (B : Pt), Stand p l e R s m sargs below meth c B.U B.locs B.cells B.slots ∧ Post A a v B ∧
      Steps p.tables e below (doInvoke e (A.U.setTop g) [] mk a).1 (B.U.setTop { g with pc := g.pc + len, stack := v.toList ++ g.stack })) ∨
    (∃ (q : Addr) (B : Pt), Stand p l e R s m sargs below meth c B.U B.locs B.cells B.slots ∧ PostX A a q B ∧
      Steps p.tables e below (doInvoke e (A.U.setTop g) [] mk a).1 ((B.U.setTop g).pushFrame (.throwing q)))
section Payer
variable {l : Launch} {R : Room} {p : Program} {e : Env} {below : List Frame} {s : State} {sargs : Array Value} {y : MethodName} {len W9 : Nat}
theorem vx_back {ws : List Cond} {rm : Room} {Pc : Array Value → State → Prop} {Qc : Array Value → State → Outcome → State → Prop} {XC : String → State → State → Prop} {mc ms : Nat} {free : Addr → Prop} {bytes : ByteArray} {maxL : Nat} {ret : Option FieldType}
    (hM : vx_Met l y ws rm Pc Qc XC mc ms free) (hblind : FrameBlind Pc) (hrc : rm.cells = mc) (hrs : rm.slots = ms)
    (hframes : rm.frames + 1 ≤ R.frames) (hlocals : W9 + (maxL + 11) + rm.locals ≤ R.locals)
    (hws : ∀ w ∈ ws, ∀ a' U, s.WarmedH U.vm → w.before a' U = true) (hcode : Cond.code y bytes maxL ret ∈ ws) (hinit : ∀ a' U, s.WarmedH U.vm → (Cond.initialized y.cls).before a' U = true) :
    vx_Back l R p e below s sargs y len W9 (PreOf R mc ms Pc) (PostOf Qc mc ms free) (vx_Post XC mc ms free) := by
  intro m meth c A g ig mk a X hg hsize hdg hW hn hp
  have h1 : (headSpec ws rm).pre.before a A.U = true := atoms_intro fun w hw => hws w hw _ _ X.warmed
  have h2 : (Cond.code y bytes maxL ret).before a A.U = true := hws _ hcode _ _ X.warmed
  have h3 : (Cond.initialized y.cls).before a A.U = true := hinit _ _ X.warmed
  have h4 : A.cells + (headSpec ws rm).room.cells ≤ R.cells := by rw [show (headSpec ws rm).room.cells = mc from hrc]; exact hp.1
  have h5 : A.slots + (headSpec ws rm).room.slots ≤ R.slots := by rw [show (headSpec ws rm).room.slots = ms from hrs]; exact hp.2.1
  have hPc : Pc a (A.U.calling g mk a) := hblind _ _ _ _ hp.2.2
  obtain ⟨U, Ls, c0, s0⟩ := A
  dsimp only [Pt.U, Pt.locs, Pt.cells, Pt.slots] at h1 h2 h3 h4 h5 X hn hPc ⊢
  obtain ⟨methY, cY, hmY, hcY, -, hlY, -, -, -, -⟩ := Cond.code_spec hn h2
  obtain ⟨kY, hkY, -⟩ := className_of_methodNamed hn
  have hinitY : kY.init = .initialized := Cond.initialized_spec (findClass_of_methodNamed hn) hkY h3
  have h : At U g.method c below := by rw [hg]; exact X.here
  have hlocals9 : W9 + (maxL + 11) + (headSpec ws rm).room.locals ≤ R.locals := hlocals
  have happ : (headSpec ws rm).appliesLoose y e.platform (U.calling g mk a) = true :=
    Spec.appliesLoose_calling (g := g) h hdg hn hkY hinitY
      (X.room_calling (g := g) (R' := (headSpec ws rm).room) hsize hmY hcY hframes (by rw [hlY]; omega) h4 h5) h1
  obtain ⟨mid, hmid⟩ := h.above
  have hfr : (U.setTop g).frames = (.java g :: mid) ++ below := by rw [State.frames_setTop' g h.top, hmid]; rfl
  obtain ⟨o, s₂, hsteps, -, hend, hq⟩ := Steps.callFree hM p X.admits X.cas X.clock (acts := []) hfr happ hPc trivial
  have hq' : vx_Q Qc XC mc ms free a (U.calling g mk a) o s₂ := hq
  rw [State.frames_setTop' g h.top] at hend
  obtain ⟨g₀, hg0⟩ := Option.isSome_iff_exists.mp h.top
  obtain ⟨r, hr⟩ := State.topJava?_eq_some.mp hg0
  have hr' : (({ U with heap := s₂.heap, slotsUsed := s₂.slotsUsed } : State).setVm s₂.vm).frames = .java g₀ :: r := hr
  rcases hq' with ⟨hqc, L, hfe, hL⟩ | ⟨q, rfl, E, ce, L, hx, hce, hcv, hcl, hW₂, hsm, hL⟩
  · obtain ⟨⟨v, rfl⟩, hW₂, e2, q2, q3, q4, q5, q6⟩ := id hfe
    have e3 : s₂ = ({ (U.calling g mk a).setFrames s₂.frames with heap := s₂.heap, slotsUsed := s₂.slotsUsed } : State).setVm s₂.vm := by
      have : s₂ = ({ s₂ with vm := (U.calling g mk a).vm } : State).setVm s₂.vm := rfl
      rw [e2] at this
      exact this
    obtain ⟨c₂, i₂, len₂, hc₂, hd₂, hf₂⟩ := hend
    have hW' : U.WarmedH s₂.vm := hW₂
    have hcc : c₂ = c := by
      have h1 : s₂.code? g.method = U.code? g.method := by
        rw [State.code?_eq, State.code?_eq, hW'.alike.method?]
      exact Option.some.inj (hc₂.symm.trans (h1.trans h.code))
    subst hcc
    have hlen : len₂ = len := by rw [hdg] at hd₂; cases hd₂; rfl
    subst hlen
    have hs₂ : s₂ = (({ U with heap := s₂.heap, slotsUsed := s₂.slotsUsed } : State).setVm s₂.vm).setTop { g with pc := g.pc + len₂, stack := v.toList ++ g.stack } := by
      refine e3.trans ?_
      rw [hf₂, State.calling_eq h.top, State.setFrames_setFrames, State.setTop_of_frames _ hr', hr]
      rfl
    have hsame : U.sameButNew ({ U with heap := s₂.heap, slotsUsed := s₂.slotsUsed } : State) L mc ms := by
      refine ⟨?_, q2, q3, q4, q5, q6⟩
      obtain ⟨t, ht, -⟩ := State.frames_cons hr
      show ({ U with heap := s₂.heap, slotsUsed := s₂.slotsUsed } : State) = { U.setFrames U.frames with heap := s₂.heap, slotsUsed := s₂.slotsUsed }
      rw [State.setFrames_self ht]
    subst hg
    refine Or.inl ⟨v, ⟨(({ U with heap := s₂.heap, slotsUsed := s₂.slotsUsed } : State).setVm s₂.vm), Ls ++ L, c0 + mc, s0 + ms⟩,
      ⟨X.admits, X.cas, X.clock, X.frames, X.room, X.hears, X.method, X.code, (X.here.setHeapUsed s₂.heap s₂.slotsUsed).setVm hW'.alike, X.tail, State.WarmedH.trans X.warmed hW', X.limits, X.bytes, X.same.trans (hsame.setVm s.vm)⟩,
      ⟨g, mk, s₂, L, rfl, rfl, hqc, rfl, hL, rfl, rfl⟩, ?_⟩
    show Steps p.tables e below _ ((({ U with heap := s₂.heap, slotsUsed := s₂.slotsUsed } : State).setVm s₂.vm).setTop { g with pc := g.pc + len₂, stack := v.toList ++ g.stack })
    rw [← hs₂]
    exact hsteps
  · obtain ⟨e2, q2, q3, q4, q5, q6⟩ := id hsm
    have e3 : s₂ = ({ (U.calling g mk a).setFrames s₂.frames with heap := s₂.heap, slotsUsed := s₂.slotsUsed } : State).setVm s₂.vm := by
      have : s₂ = ({ s₂ with vm := (U.calling g mk a).vm } : State).setVm s₂.vm := rfl
      rw [e2] at this
      exact this
    have hf₂ : s₂.frames = .throwing q :: .java g :: U.frames.tail := hend
    have hW' : U.WarmedH s₂.vm := hW₂
    have hs₂ : s₂ = ((({ U with heap := s₂.heap, slotsUsed := s₂.slotsUsed } : State).setVm s₂.vm).setTop g).pushFrame (.throwing q) := by
      refine e3.trans ?_
      rw [hf₂, State.calling_eq h.top, State.setFrames_setFrames, State.pushFrame, State.frames_setTop _ hr', State.setTop_of_frames _ hr', State.setFrames_setFrames, hr]
      rfl
    have hsame : U.sameButNew ({ U with heap := s₂.heap, slotsUsed := s₂.slotsUsed } : State) L mc ms := by
      refine ⟨?_, q2, q3, q4, q5, q6⟩
      obtain ⟨t, ht, -⟩ := State.frames_cons hr
      show ({ U with heap := s₂.heap, slotsUsed := s₂.slotsUsed } : State) = { U.setFrames U.frames with heap := s₂.heap, slotsUsed := s₂.slotsUsed }
      rw [State.setFrames_self ht]
    subst hg
    refine Or.inr ⟨q, ⟨(({ U with heap := s₂.heap, slotsUsed := s₂.slotsUsed } : State).setVm s₂.vm), Ls ++ L, c0 + mc, s0 + ms⟩,
      ⟨X.admits, X.cas, X.clock, X.frames, X.room, X.hears, X.method, X.code, (X.here.setHeapUsed s₂.heap s₂.slotsUsed).setVm hW'.alike, X.tail, State.WarmedH.trans X.warmed hW', X.limits, X.bytes, X.same.trans (hsame.setVm s.vm)⟩,
      ⟨g, mk, s₂, L, E, ce, rfl, rfl, hx, hce, hcv, hcl, rfl, hL, rfl, rfl⟩, ?_⟩
    show Steps p.tables e below _ (((({ U with heap := s₂.heap, slotsUsed := s₂.slotsUsed } : State).setVm s₂.vm).setTop g).pushFrame (.throwing q))
    rw [← hs₂]
    exact hsteps
end Payer
section Calls
variable {p : Program} {l : Launch} {e : Env} {R : Room} {s : State} {m : MethodId} {args : Array Value} {below : List Frame} {meth : Method} {c : Code} {T : State} {locs : List Loc} {cells slots : Nat}
theorem vx_callV (X : Stand p l e R s m args below meth c T locs cells slots) (hexec : p.tables.exec = Jvm.exec) {own C : String} {index : Nat} {y : MethodName} {bytes : ByteArray} {maxL : Nat} {ret : Option FieldType}
    (hown : s.vm.findClass own = some m.cls) (hlink : (Cond.methodLink own index y).before args s = true) (hinst : (Cond.instanceMethod y).before args s = true) (hsel : (Cond.selects C y y).before args s = true)
    (hcode : (Cond.code y bytes maxL ret).before args s = true) (hy : y.cls ≠ "java/lang/invoke/MethodHandle" ∧ y.cls ≠ "java/lang/invoke/VarHandle")
    {W9 : Nat} {Pre : Pt → Array Value → Prop} {Post : Pt → Array Value → Option Value → Pt → Prop} {PostX : Pt → Array Value → Addr → Pt → Prop} (hK : vx_Back l R p e below s args y 3 W9 Pre Post PostX)
    {b : Addr} {cellB : Cell} (hcell : T.heap[b]? = some cellB) (hobj : cellB.vm.isStatics = false) (hcls : s.vm.findClass C = some cellB.cls)
    {g : JFrame} (hg : g.method = m) (hsize : g.locals.size = c.maxLocals) {argsL rest : List Value} (hlen : ∀ sig, parseMethodDescriptor y.desc = some sig → argsL.length = sig.parameters.length)
    (hstack : g.stack = argsL.reverse ++ .ref b :: rest) (hW : 2 * g.monitorRoom + (rest.map fun v => v.category).sum ≤ W9) (hdg : decode c.code g.pc = .ok (.invokevirtual index, 3))
    (hpre : ∀ vm₁, s.WarmedH vm₁ → Pre ⟨T.setVm vm₁, locs, cells, slots⟩ (Value.ref b :: argsL).toArray) :
    (∃ (v : Option Value) (vm₁ : Vm) (B : Pt), s.WarmedH vm₁ ∧ Stand p l e R s m args below meth c B.U B.locs B.cells B.slots ∧ Post ⟨T.setVm vm₁, locs, cells, slots⟩ (Value.ref b :: argsL).toArray v B ∧
      ∀ target, Steps p.tables e below (B.U.setTop { g with pc := g.pc + 3, stack := v.toList ++ rest }) target → Steps p.tables e below (T.setTop g) target) ∨
    (∃ (q : Addr) (vm₁ : Vm) (B : Pt), s.WarmedH vm₁ ∧ Stand p l e R s m args below meth c B.U B.locs B.cells B.slots ∧ PostX ⟨T.setVm vm₁, locs, cells, slots⟩ (Value.ref b :: argsL).toArray q B ∧
      Steps p.tables e below (T.setTop g) ((B.U.setTop { g with stack := rest }).pushFrame (.throwing q))) := by
  obtain ⟨mk, methM, hnamed, hmethM, hstM, habM⟩ := Cond.instanceMethod_spec hinst
  obtain ⟨methM', cM, hmethM', -, -, -, -, -, -, hsigM⟩ := Cond.code_spec hnamed hcode
  cases hmethM.symm.trans hmethM'
  obtain ⟨c2, r2, m2, q1, q2, q3, q4, kP, hkP, hkPi⟩ := Cond.selects_spec hsel
  cases hcls.symm.trans q1
  cases (State.methodFound?_of_named hnamed hy).symm.trans q2
  cases hnamed.symm.trans q3
  have hselP : selectMethod e.platform s.vm cellB.cls mk = .method mk := by rw [Launch.admits_selectMethod X.admits]; exact q4
  obtain ⟨vm₁, X₁, hstep₁⟩ := X.invokevirtual hexec hown hlink hnamed hmethM hstM hkP hkPi hy (a := b) (cell := cellB) hcell
    (fun z h => by rw [h] at hobj; cases hobj) hselP hmethM habM hkP hkPi (g := g) hg (argsL := argsL) (rest := rest) (hlen _ hsigM) hstack hdg
  rcases hK m meth c ⟨T.setVm vm₁, locs, cells, slots⟩ { g with stack := rest } (.invokevirtual index) mk (Value.ref b :: argsL).toArray X₁ hg hsize hdg hW (X₁.named hnamed) (hpre vm₁ X₁.warmed) with ⟨v, B, X', hpost, hsteps⟩ | ⟨q, B, X', hpost, hsteps⟩
  · exact Or.inl ⟨v, vm₁, B, X₁.warmed, X', hpost, fun target h => hstep₁ _ fun acts => by rw [doInvoke_state]; exact hsteps.trans h⟩
  · exact Or.inr ⟨q, vm₁, B, X₁.warmed, X', hpost, hstep₁ _ fun acts => by rw [doInvoke_state]; exact hsteps⟩
theorem vx_callS (X : Stand p l e R s m args below meth c T locs cells slots) (hexec : p.tables.exec = Jvm.exec) {own : String} {index : Nat} {y : MethodName} {bytes : ByteArray} {maxL : Nat} {ret : Option FieldType}
    (hown : s.vm.findClass own = some m.cls) (hlink : (Cond.methodLink own index y).before args s = true) (hstat : (Cond.static y).before args s = true) (hinit : (Cond.initialized y.cls).before args s = true)
    (hcode : (Cond.code y bytes maxL ret).before args s = true) (hy : y.cls ≠ "java/lang/invoke/MethodHandle" ∧ y.cls ≠ "java/lang/invoke/VarHandle")
    {W9 : Nat} {Pre : Pt → Array Value → Prop} {Post : Pt → Array Value → Option Value → Pt → Prop} {PostX : Pt → Array Value → Addr → Pt → Prop} (hK : vx_Back l R p e below s args y 3 W9 Pre Post PostX)
    {g : JFrame} (hg : g.method = m) (hsize : g.locals.size = c.maxLocals) {argsL rest : List Value} (hlen : ∀ sig, parseMethodDescriptor y.desc = some sig → argsL.length = sig.parameters.length)
    (hstack : g.stack = argsL.reverse ++ rest) (hW : 2 * g.monitorRoom + (rest.map fun v => v.category).sum ≤ W9) (hdg : decode c.code g.pc = .ok (.invokestatic index, 3))
    (hpre : ∀ vm₁, s.WarmedH vm₁ → Pre ⟨T.setVm vm₁, locs, cells, slots⟩ argsL.toArray) :
    (∃ (v : Option Value) (vm₁ : Vm) (B : Pt), s.WarmedH vm₁ ∧ Stand p l e R s m args below meth c B.U B.locs B.cells B.slots ∧ Post ⟨T.setVm vm₁, locs, cells, slots⟩ argsL.toArray v B ∧
      ∀ target, Steps p.tables e below (B.U.setTop { g with pc := g.pc + 3, stack := v.toList ++ rest }) target → Steps p.tables e below (T.setTop g) target) ∨
    (∃ (q : Addr) (vm₁ : Vm) (B : Pt), s.WarmedH vm₁ ∧ Stand p l e R s m args below meth c B.U B.locs B.cells B.slots ∧ PostX ⟨T.setVm vm₁, locs, cells, slots⟩ argsL.toArray q B ∧
      Steps p.tables e below (T.setTop g) ((B.U.setTop { g with stack := rest }).pushFrame (.throwing q))) := by
  obtain ⟨mk, hnamed⟩ := Cond.code_named hcode
  obtain ⟨methM, cM, hmethM, -, -, -, -, -, -, hsigM⟩ := Cond.code_spec hnamed hcode
  have hstatic : methM.isStatic = true := Cond.static_spec hnamed hmethM hstat
  obtain ⟨kP, hkP, -⟩ := className_of_methodNamed hnamed
  have hinitP : kP.init = .initialized := Cond.initialized_spec (findClass_of_methodNamed hnamed) hkP hinit
  obtain ⟨vm₁, X₁, hstep₁⟩ := X.invokestatic hexec hown hlink hnamed hmethM hstatic hkP hinitP hy (g := g) hg (argsL := argsL) (rest := rest) (hlen _ hsigM) hstack hdg
  rcases hK m meth c ⟨T.setVm vm₁, locs, cells, slots⟩ { g with stack := rest } (.invokestatic index) mk argsL.toArray X₁ hg hsize hdg hW (X₁.named hnamed) (hpre vm₁ X₁.warmed) with ⟨v, B, X', hpost, hsteps⟩ | ⟨q, B, X', hpost, hsteps⟩
  · exact Or.inl ⟨v, vm₁, B, X₁.warmed, X', hpost, fun target h => hstep₁ _ fun acts => by rw [doInvoke_state]; exact hsteps.trans h⟩
  · exact Or.inr ⟨q, vm₁, B, X₁.warmed, X', hpost, hstep₁ _ fun acts => by rw [doInvoke_state]; exact hsteps⟩
end Calls
theorem vx_cls {s : State} {T : State} {vm₁ : Vm} {E : String} {k : ClassId} (hW : s.WarmedH vm₁) (h : (T.setVm vm₁).vm.findClass E = some k) : s.vm.findClass E = some k := by
  have h1 : vm₁.findClass E = some k := h
  rw [hW.alike.findClass] at h1
  exact h1
/-- the method's frame g, with q thrown over it -/
def vx_W (p : Program) (l : Launch) (e : Env) (R : Room) (s : State) (m : MethodId) (args : Array Value) (below : List Frame) (meth : Method) (c : Code) (H : Heap) (locs : List Loc) (cells slots : Nat) (Q : State → Prop) (g : JFrame) (q : Addr) : Prop :=
  ∀ T : State, T.heap = H → Stand p l e R s m args below meth c T locs cells slots → ∃ t, Steps p.tables e below ((T.setTop g).pushFrame (.throwing q)) t ∧ Q t
def vx_Run (p : Program) (l : Launch) (e : Env) (R : Room) (s : State) (m : MethodId) (args : Array Value) (below : List Frame) (meth : Method) (c : Code) (H : Heap) (locs : List Loc) (cells slots mc ms : Nat) (g : JFrame) (rest : List Value) (Qa : State → Outcome → State → Prop) (XC : String → State → State → Prop) (free : Addr → Prop) : Prop :=
  ∀ T : State, T.heap = H → Stand p l e R s m args below meth c T locs cells slots →
    (∃ (v : Option Value) (st₀ t T' : State) (L : List Loc), st₀.heap = H ∧ Stand p l e R s m args below meth c T' (locs ++ L) (cells + mc) (slots + ms) ∧ (∀ q ∈ L, free q.base) ∧ T'.heap = t.heap ∧ T'.vm = t.vm ∧ Qa st₀ (.returned v) t ∧
      Goes p e below T g T' { g with pc := g.pc + 3, stack := v.toList ++ rest }) ∨
    (∃ (q : Addr) (st₀ t T' : State) (L : List Loc) (E : String) (ce : Cell), st₀.heap = H ∧ Stand p l e R s m args below meth c T' (locs ++ L) (cells + mc) (slots + ms) ∧ (∀ z ∈ L, free z.base) ∧ T'.heap = t.heap ∧ T'.vm = t.vm ∧ XC E st₀ t ∧ t.heap[q]? = some ce ∧ ce.vm = .none ∧ s.vm.findClass E = some ce.cls ∧
      Steps p.tables e below (T.setTop g) ((T'.setTop { g with stack := rest }).pushFrame (.throwing q)))
def vx_X {S : Type} (px : S → Prop) (B : String → S → State → Prop) (A : Nat → Prop) : String → State → State → Prop := fun E st t => ∃ u : S, px u ∧ B E u t ∧ va_F A st t
section Runs
variable {p : Program} {l : Launch} {e : Env} {R : Room} {s : State} {m : MethodId} {args : Array Value} {below : List Frame} {meth : Method} {c : Code} {H : Heap} {locs : List Loc} {cells slots : Nat}
variable {y : MethodName} {bytes cc : ByteArray} {maxL nL mc ms n index : Nat} {ret : Option FieldType} {ws : List Cond} {rm : Room} {Pc : Array Value → State → Prop} {Qc : Array Value → State → Outcome → State → Prop} {XC : String → State → State → Prop} {free : Addr → Prop} {Ts : List Cond} {own C : String} {b : Addr} {As rest : List Value} {g : JFrame}
theorem vx_callBack (cb : CallB R s args own index y bytes maxL ret ws rm mc ms n) (hM : vx_Met l y ws rm Pc Qc XC mc ms free) (hbl : FrameBlind Pc) : vx_Back l R p e below s args y 3 8 (PreOf R mc ms Pc) (PostOf Qc mc ms free) (vx_Post XC mc ms free) := by
  obtain ⟨hrc, hrs, hfr, hlo, hws, hcw, -, hini, -⟩ := cb
  exact vx_back (bytes := bytes) (maxL := maxL) (ret := ret) hM hbl hrc hrs hfr hlo hws hcw (fun a' U hW => word_at hW (Or.inl (by first | rfl | simp [Cond.onTables, Cond.keeps, Cond.steady])) hini)
theorem vx_runV (S : CallFix p m c cc nL s args Ts own) (hM : vx_Met l y ws rm Pc Qc XC mc ms free) (cw : CallW R s args own C index y bytes maxL ret ws rm mc ms n) (hp : PreV s H C b Pc As)
    (hg : g.method = m) (hn : As.length = n) (hsize : g.locals.size = nL) (hstack : g.stack = As.reverse ++ .ref b :: rest) (hW : 2 * g.monitorRoom + (rest.map fun v => v.category).sum ≤ 8) (hdg : decode cc g.pc = .ok (.invokevirtual index, 3)) (hf : cells + mc ≤ R.cells ∧ slots + ms ≤ R.slots) :
    vx_Run p l e R s m args below meth c H locs cells slots mc ms g rest (Qc (Value.ref b :: As).toArray) XC free := by
  have hK : vx_Back l R p e below s args y 3 8 (PreOf R mc ms Pc) (PostOf Qc mc ms free) (vx_Post XC mc ms free) := vx_callBack cw.1 hM hp.1
  obtain ⟨⟨-, -, -, -, -, -, hcode, -, hy, hlen, hl⟩, hin, hse⟩ := cw
  obtain ⟨hx, hb, hml, ho, -⟩ := S
  obtain ⟨-, ⟨cellB, hcB, hoB, hclB⟩, hPc⟩ := hp
  intro T hT X
  rcases vx_callV X hx (C := C) (bytes := bytes) (maxL := maxL) (ret := ret) ho hl hin hse hcode hy hK (by rw [hT]; exact hcB) hoB hclB hg (hsize.trans hml.symm) (argsL := As) (rest := rest) (fun sig h => hn.trans (hlen sig h)) hstack hW (by rw [hb]; exact hdg)
    (fun vm₁ hW₁ => ⟨hf.1, hf.2, hPc (T.setVm vm₁) hT hW₁⟩) with ⟨v, vm₁, ⟨U', l2, c2, s2⟩, hW₁, X', ⟨g', mk, t, L, e1, e2, hq, h1, hL, h2, h3⟩, st⟩ | ⟨q, vm₁, ⟨U', l2, c2, s2⟩, hW₁, X', ⟨g', mk, t, L, E, ce, e1, e2, hq, hce, hcv, hcl, h1, hL, h2, h3⟩, st⟩
  · dsimp only [Pt.U, Pt.locs, Pt.cells, Pt.slots] at X' e1 e2 h1 h2 h3 st
    subst h1; subst h2; subst h3
    exact Or.inl ⟨v, (T.setVm vm₁).calling g' mk (Value.ref b :: As).toArray, t, U', L, hT, X', hL, e1, e2, hq, st⟩
  · dsimp only [Pt.U, Pt.locs, Pt.cells, Pt.slots] at X' e1 e2 h1 h2 h3 st hcl
    subst h1; subst h2; subst h3
    exact Or.inr ⟨q, (T.setVm vm₁).calling g' mk (Value.ref b :: As).toArray, t, U', L, E, ce, hT, X', hL, e1, e2, hq, hce, hcv, vx_cls hW₁ hcl, st⟩
theorem vx_runS (S : CallFix p m c cc nL s args Ts own) (hM : vx_Met l y ws rm Pc Qc XC mc ms free) (cw : CallB R s args own index y bytes maxL ret ws rm mc ms n ∧ (Cond.static y).before args s = true) (hp : PreS s H Pc As)
    (hg : g.method = m) (hn : As.length = n) (hsize : g.locals.size = nL) (hstack : g.stack = As.reverse ++ rest) (hW : 2 * g.monitorRoom + (rest.map fun v => v.category).sum ≤ 8) (hdg : decode cc g.pc = .ok (.invokestatic index, 3)) (hf : cells + mc ≤ R.cells ∧ slots + ms ≤ R.slots) :
    vx_Run p l e R s m args below meth c H locs cells slots mc ms g rest (Qc As.toArray) XC free := by
  have hK : vx_Back l R p e below s args y 3 8 (PreOf R mc ms Pc) (PostOf Qc mc ms free) (vx_Post XC mc ms free) := vx_callBack cw.1 hM hp.1
  obtain ⟨⟨-, -, -, -, -, -, hcode, hini, hy, hlen, hl⟩, hstt⟩ := cw
  obtain ⟨hx, hb, hml, ho, -⟩ := S
  intro T hT X
  rcases vx_callS X hx (bytes := bytes) (maxL := maxL) (ret := ret) ho hl hstt hini hcode hy hK hg (hsize.trans hml.symm) (argsL := As) (rest := rest) (fun sig h => hn.trans (hlen sig h)) hstack hW (by rw [hb]; exact hdg)
    (fun vm₁ hW₁ => ⟨hf.1, hf.2, hp.2 (T.setVm vm₁) hT hW₁⟩) with ⟨v, vm₁, ⟨U', l2, c2, s2⟩, hW₁, X', ⟨g', mk, t, L, e1, e2, hq, h1, hL, h2, h3⟩, st⟩ | ⟨q, vm₁, ⟨U', l2, c2, s2⟩, hW₁, X', ⟨g', mk, t, L, E, ce, e1, e2, hq, hce, hcv, hcl, h1, hL, h2, h3⟩, st⟩
  · dsimp only [Pt.U, Pt.locs, Pt.cells, Pt.slots] at X' e1 e2 h1 h2 h3 st
    subst h1; subst h2; subst h3
    exact Or.inl ⟨v, (T.setVm vm₁).calling g' mk As.toArray, t, U', L, hT, X', hL, e1, e2, hq, st⟩
  · dsimp only [Pt.U, Pt.locs, Pt.cells, Pt.slots] at X' e1 e2 h1 h2 h3 st hcl
    subst h1; subst h2; subst h3
    exact Or.inr ⟨q, (T.setVm vm₁).calling g' mk As.toArray, t, U', L, E, ce, hT, X', hL, e1, e2, hq, hce, hcv, vx_cls hW₁ hcl, st⟩
end Runs
section Rows
variable {p : Program} {l : Launch} {e : Env} {R : Room} {s : State} {m : MethodId} {args : Array Value} {below : List Frame} {meth : Method} {c : Code} {H : Heap} {locs : List Loc} {cells slots : Nat} {Q : State → Prop}
variable {mc ms : Nat} {free : Addr → Prop} {A0 A1 : Nat → Prop} {H0 : Heap} {a : Array Value} {pc : Nat} {ls : Array Slot} {st0 rest : List Value}
theorem vx_keep {st₀ t T' : State} {L : List Loc} (h0 : st₀.heap = H) (e1 : T'.heap = t.heap) (hS : va_S A0 H0 H locs) (hA : ∀ q, q < H.size → A1 q → A0 q) (hf : ∀ q, free q → A0 q) (hL : ∀ q ∈ L, free q.base) (hF : va_F A1 st₀ t) :
    H.size ≤ T'.heap.size ∧ (∀ q : Nat, q < H.size → ¬ A1 q → T'.heap[q]? = H[q]?) ∧ va_S A0 H0 T'.heap (locs ++ L) := by
  obtain ⟨hz, hk⟩ := hF
  rw [h0] at hz hk
  exact ⟨by rw [e1]; exact hz, fun q h1 h2 => by rw [e1]; exact hk q h1 h2,
    ⟨Nat.le_trans hS.1 (by rw [e1]; exact hz), fun q h1 h2 => by rw [e1, hk q (Nat.lt_of_lt_of_le h1 hS.1) (fun z => h2 (hA q (Nat.lt_of_lt_of_le h1 hS.1) z))]; exact hS.2.1 q h1 h2, fun q hq => by
      rcases List.mem_append.mp hq with h | h
      · exact hS.2.2 q h
      · exact hf _ (hL q h)⟩⟩
theorem vx_calli {S SX : Type} {post : Int32 → S → Prop} {px : SX → Prop} {B : S → State → Prop} {BX : String → SX → State → Prop} {AX : Nat → Prop} (hr : vx_Run p l e R s m args below meth c H locs cells slots mc ms (F0 m pc ls st0) rest (va_Qi post B A1 a) (vx_X px BX AX) free) (hS : va_S A0 H0 H locs) (hA : ∀ q, q < H.size → A1 q → A0 q) (hf : ∀ q, free q → A0 q) (hAX : ∀ q, q < H.size → AX q → A0 q)
    (kx : ∀ (E : String) (ce : Cell) (q9 : Addr) (u : SX) (t : State) (H1 : Heap) (locs1 : List Loc), t.heap = H1 → s.vm.Alike t.vm → px u → BX E u t → H.size ≤ H1.size → (∀ q : Nat, q < H.size → ¬ AX q → H1[q]? = H[q]?) → va_S A0 H0 H1 locs1 → H1[q9]? = some ce → ce.vm = .none → s.vm.findClass E = some ce.cls → vx_W p l e R s m args below meth c H1 locs1 (cells + mc) (slots + ms) Q (F0 m pc ls rest) q9)
    (kk : ∀ (r : Int32) (u : S) (t : State) (H1 : Heap) (locs1 : List Loc), t.heap = H1 → s.vm.Alike t.vm → post r u → B u t → H.size ≤ H1.size → (∀ q : Nat, q < H.size → ¬ A1 q → H1[q]? = H[q]?) → va_S A0 H0 H1 locs1 → W p l e R s m args below meth c H1 locs1 (cells + mc) (slots + ms) Q (F0 m (pc + 3) ls (.int r :: rest))) : W p l e R s m args below meth c H locs cells slots Q (F0 m pc ls st0) := by
  intro T hT X
  rcases hr T hT X with ⟨v, st₀, t, T', L, h0, X', hL, e1, e2, ⟨⟨r, u, hv, hp, hb⟩, hF⟩, st⟩ | ⟨q, st₀, t, T', L, E, ce, h0, X', hL, e1, e2, ⟨u, hp, hb, hF⟩, hce, hcv, hcl, st⟩
  · cases hv
    obtain ⟨k1, k2, k3⟩ := vx_keep h0 e1 hS hA hf hL hF
    obtain ⟨t2, a1, b1⟩ := kk r u t T'.heap (locs ++ L) e1.symm (by rw [← e2]; exact X'.warmed.alike) hp hb k1 k2 k3 T' rfl X'
    exact ⟨t2, st t2 a1, b1⟩
  · obtain ⟨k1, k2, k3⟩ := vx_keep h0 e1 hS hAX hf hL hF
    obtain ⟨t2, a1, b1⟩ := kx E ce q u t T'.heap (locs ++ L) e1.symm (by rw [← e2]; exact X'.warmed.alike) hp hb k1 k2 k3 (by rw [e1]; exact hce) hcv hcl T' rfl X'
    exact ⟨t2, st.trans a1, b1⟩
theorem vx_calll {S SX : Type} {post : Int64 → S → Prop} {px : SX → Prop} {B : S → State → Prop} {BX : String → SX → State → Prop} {AX : Nat → Prop} (hr : vx_Run p l e R s m args below meth c H locs cells slots mc ms (F0 m pc ls st0) rest (va_Ql post B A1 a) (vx_X px BX AX) free) (hS : va_S A0 H0 H locs) (hA : ∀ q, q < H.size → A1 q → A0 q) (hf : ∀ q, free q → A0 q) (hAX : ∀ q, q < H.size → AX q → A0 q)
    (kx : ∀ (E : String) (ce : Cell) (q9 : Addr) (u : SX) (t : State) (H1 : Heap) (locs1 : List Loc), t.heap = H1 → s.vm.Alike t.vm → px u → BX E u t → H.size ≤ H1.size → (∀ q : Nat, q < H.size → ¬ AX q → H1[q]? = H[q]?) → va_S A0 H0 H1 locs1 → H1[q9]? = some ce → ce.vm = .none → s.vm.findClass E = some ce.cls → vx_W p l e R s m args below meth c H1 locs1 (cells + mc) (slots + ms) Q (F0 m pc ls rest) q9)
    (kk : ∀ (r : Int64) (u : S) (t : State) (H1 : Heap) (locs1 : List Loc), t.heap = H1 → s.vm.Alike t.vm → post r u → B u t → H.size ≤ H1.size → (∀ q : Nat, q < H.size → ¬ A1 q → H1[q]? = H[q]?) → va_S A0 H0 H1 locs1 → W p l e R s m args below meth c H1 locs1 (cells + mc) (slots + ms) Q (F0 m (pc + 3) ls (.long r :: rest))) : W p l e R s m args below meth c H locs cells slots Q (F0 m pc ls st0) := by
  intro T hT X
  rcases hr T hT X with ⟨v, st₀, t, T', L, h0, X', hL, e1, e2, ⟨⟨r, u, hv, hp, hb⟩, hF⟩, st⟩ | ⟨q, st₀, t, T', L, E, ce, h0, X', hL, e1, e2, ⟨u, hp, hb, hF⟩, hce, hcv, hcl, st⟩
  · cases hv
    obtain ⟨k1, k2, k3⟩ := vx_keep h0 e1 hS hA hf hL hF
    obtain ⟨t2, a1, b1⟩ := kk r u t T'.heap (locs ++ L) e1.symm (by rw [← e2]; exact X'.warmed.alike) hp hb k1 k2 k3 T' rfl X'
    exact ⟨t2, st t2 a1, b1⟩
  · obtain ⟨k1, k2, k3⟩ := vx_keep h0 e1 hS hAX hf hL hF
    obtain ⟨t2, a1, b1⟩ := kx E ce q u t T'.heap (locs ++ L) e1.symm (by rw [← e2]; exact X'.warmed.alike) hp hb k1 k2 k3 (by rw [e1]; exact hce) hcv hcl T' rfl X'
    exact ⟨t2, st.trans a1, b1⟩
theorem vx_callf {S SX : Type} {post : UInt32 → S → Prop} {px : SX → Prop} {B : S → State → Prop} {BX : String → SX → State → Prop} {AX : Nat → Prop} (hr : vx_Run p l e R s m args below meth c H locs cells slots mc ms (F0 m pc ls st0) rest (va_Qf post B A1 a) (vx_X px BX AX) free) (hS : va_S A0 H0 H locs) (hA : ∀ q, q < H.size → A1 q → A0 q) (hf : ∀ q, free q → A0 q) (hAX : ∀ q, q < H.size → AX q → A0 q)
    (kx : ∀ (E : String) (ce : Cell) (q9 : Addr) (u : SX) (t : State) (H1 : Heap) (locs1 : List Loc), t.heap = H1 → s.vm.Alike t.vm → px u → BX E u t → H.size ≤ H1.size → (∀ q : Nat, q < H.size → ¬ AX q → H1[q]? = H[q]?) → va_S A0 H0 H1 locs1 → H1[q9]? = some ce → ce.vm = .none → s.vm.findClass E = some ce.cls → vx_W p l e R s m args below meth c H1 locs1 (cells + mc) (slots + ms) Q (F0 m pc ls rest) q9)
    (kk : ∀ (r : UInt32) (u : S) (t : State) (H1 : Heap) (locs1 : List Loc), t.heap = H1 → s.vm.Alike t.vm → post r u → B u t → H.size ≤ H1.size → (∀ q : Nat, q < H.size → ¬ A1 q → H1[q]? = H[q]?) → va_S A0 H0 H1 locs1 → W p l e R s m args below meth c H1 locs1 (cells + mc) (slots + ms) Q (F0 m (pc + 3) ls (.float r :: rest))) : W p l e R s m args below meth c H locs cells slots Q (F0 m pc ls st0) := by
  intro T hT X
  rcases hr T hT X with ⟨v, st₀, t, T', L, h0, X', hL, e1, e2, ⟨⟨r, u, hv, hp, hb⟩, hF⟩, st⟩ | ⟨q, st₀, t, T', L, E, ce, h0, X', hL, e1, e2, ⟨u, hp, hb, hF⟩, hce, hcv, hcl, st⟩
  · cases hv
    obtain ⟨k1, k2, k3⟩ := vx_keep h0 e1 hS hA hf hL hF
    obtain ⟨t2, a1, b1⟩ := kk r u t T'.heap (locs ++ L) e1.symm (by rw [← e2]; exact X'.warmed.alike) hp hb k1 k2 k3 T' rfl X'
    exact ⟨t2, st t2 a1, b1⟩
  · obtain ⟨k1, k2, k3⟩ := vx_keep h0 e1 hS hAX hf hL hF
    obtain ⟨t2, a1, b1⟩ := kx E ce q u t T'.heap (locs ++ L) e1.symm (by rw [← e2]; exact X'.warmed.alike) hp hb k1 k2 k3 (by rw [e1]; exact hce) hcv hcl T' rfl X'
    exact ⟨t2, st.trans a1, b1⟩
theorem vx_calld {S SX : Type} {post : UInt64 → S → Prop} {px : SX → Prop} {B : S → State → Prop} {BX : String → SX → State → Prop} {AX : Nat → Prop} (hr : vx_Run p l e R s m args below meth c H locs cells slots mc ms (F0 m pc ls st0) rest (va_Qd post B A1 a) (vx_X px BX AX) free) (hS : va_S A0 H0 H locs) (hA : ∀ q, q < H.size → A1 q → A0 q) (hf : ∀ q, free q → A0 q) (hAX : ∀ q, q < H.size → AX q → A0 q)
    (kx : ∀ (E : String) (ce : Cell) (q9 : Addr) (u : SX) (t : State) (H1 : Heap) (locs1 : List Loc), t.heap = H1 → s.vm.Alike t.vm → px u → BX E u t → H.size ≤ H1.size → (∀ q : Nat, q < H.size → ¬ AX q → H1[q]? = H[q]?) → va_S A0 H0 H1 locs1 → H1[q9]? = some ce → ce.vm = .none → s.vm.findClass E = some ce.cls → vx_W p l e R s m args below meth c H1 locs1 (cells + mc) (slots + ms) Q (F0 m pc ls rest) q9)
    (kk : ∀ (r : UInt64) (u : S) (t : State) (H1 : Heap) (locs1 : List Loc), t.heap = H1 → s.vm.Alike t.vm → post r u → B u t → H.size ≤ H1.size → (∀ q : Nat, q < H.size → ¬ A1 q → H1[q]? = H[q]?) → va_S A0 H0 H1 locs1 → W p l e R s m args below meth c H1 locs1 (cells + mc) (slots + ms) Q (F0 m (pc + 3) ls (.double r :: rest))) : W p l e R s m args below meth c H locs cells slots Q (F0 m pc ls st0) := by
  intro T hT X
  rcases hr T hT X with ⟨v, st₀, t, T', L, h0, X', hL, e1, e2, ⟨⟨r, u, hv, hp, hb⟩, hF⟩, st⟩ | ⟨q, st₀, t, T', L, E, ce, h0, X', hL, e1, e2, ⟨u, hp, hb, hF⟩, hce, hcv, hcl, st⟩
  · cases hv
    obtain ⟨k1, k2, k3⟩ := vx_keep h0 e1 hS hA hf hL hF
    obtain ⟨t2, a1, b1⟩ := kk r u t T'.heap (locs ++ L) e1.symm (by rw [← e2]; exact X'.warmed.alike) hp hb k1 k2 k3 T' rfl X'
    exact ⟨t2, st t2 a1, b1⟩
  · obtain ⟨k1, k2, k3⟩ := vx_keep h0 e1 hS hAX hf hL hF
    obtain ⟨t2, a1, b1⟩ := kx E ce q u t T'.heap (locs ++ L) e1.symm (by rw [← e2]; exact X'.warmed.alike) hp hb k1 k2 k3 (by rw [e1]; exact hce) hcv hcl T' rfl X'
    exact ⟨t2, st.trans a1, b1⟩
theorem vx_callv {S SX : Type} {post : S → Prop} {px : SX → Prop} {B : S → State → Prop} {BX : String → SX → State → Prop} {AX : Nat → Prop} (hr : vx_Run p l e R s m args below meth c H locs cells slots mc ms (F0 m pc ls st0) rest (va_Qv post B A1 a) (vx_X px BX AX) free) (hS : va_S A0 H0 H locs) (hA : ∀ q, q < H.size → A1 q → A0 q) (hf : ∀ q, free q → A0 q) (hAX : ∀ q, q < H.size → AX q → A0 q)
    (kx : ∀ (E : String) (ce : Cell) (q9 : Addr) (u : SX) (t : State) (H1 : Heap) (locs1 : List Loc), t.heap = H1 → s.vm.Alike t.vm → px u → BX E u t → H.size ≤ H1.size → (∀ q : Nat, q < H.size → ¬ AX q → H1[q]? = H[q]?) → va_S A0 H0 H1 locs1 → H1[q9]? = some ce → ce.vm = .none → s.vm.findClass E = some ce.cls → vx_W p l e R s m args below meth c H1 locs1 (cells + mc) (slots + ms) Q (F0 m pc ls rest) q9)
    (kk : ∀ (u : S) (t : State) (H1 : Heap) (locs1 : List Loc), t.heap = H1 → s.vm.Alike t.vm → post u → B u t → H.size ≤ H1.size → (∀ q : Nat, q < H.size → ¬ A1 q → H1[q]? = H[q]?) → va_S A0 H0 H1 locs1 → W p l e R s m args below meth c H1 locs1 (cells + mc) (slots + ms) Q (F0 m (pc + 3) ls (rest))) : W p l e R s m args below meth c H locs cells slots Q (F0 m pc ls st0) := by
  intro T hT X
  rcases hr T hT X with ⟨v, st₀, t, T', L, h0, X', hL, e1, e2, ⟨⟨u, hv, hp, hb⟩, hF⟩, st⟩ | ⟨q, st₀, t, T', L, E, ce, h0, X', hL, e1, e2, ⟨u, hp, hb, hF⟩, hce, hcv, hcl, st⟩
  · cases hv
    obtain ⟨k1, k2, k3⟩ := vx_keep h0 e1 hS hA hf hL hF
    obtain ⟨t2, a1, b1⟩ := kk u t T'.heap (locs ++ L) e1.symm (by rw [← e2]; exact X'.warmed.alike) hp hb k1 k2 k3 T' rfl X'
    exact ⟨t2, st t2 a1, b1⟩
  · obtain ⟨k1, k2, k3⟩ := vx_keep h0 e1 hS hAX hf hL hF
    obtain ⟨t2, a1, b1⟩ := kx E ce q u t T'.heap (locs ++ L) e1.symm (by rw [← e2]; exact X'.warmed.alike) hp hb k1 k2 k3 (by rw [e1]; exact hce) hcv hcl T' rfl X'
    exact ⟨t2, st.trans a1, b1⟩
/-- caught by the row x of this method's table; the rows ahead don't take it -/
theorem vx_catch {own name : String} {E : String} {ce : Cell} {q : Addr} (hown : s.vm.findClass own = some m.cls) (pre : List ExceptionTableEntry) (x : ExceptionTableEntry) (suf : List ExceptionTableEntry) (hsplit : c.exceptionTable.toList = pre ++ x :: suf)
    (hpass : ∀ z ∈ pre, covers z pc = false ∨ (z.catchType ≠ 0 ∧ ∃ nm : String, (Cond.classLink own z.catchType nm).before args s = true ∧ va_Nc E nm s)) (hx : covers x pc = true) (h0 : x.catchType ≠ 0)
    (hlink : (Cond.classLink own x.catchType name).before args s = true) (hcast : (Cond.castable E name).before args s = true) (hcell : H[q]? = some ce) (hv : ce.vm = .none) (hcl : s.vm.findClass E = some ce.cls)
    (kk : W p l e R s m args below meth c H locs cells slots Q (F0 m x.handlerPc ls [.ref q])) : vx_W p l e R s m args below meth c H locs cells slots Q (F0 m pc ls rest) q := by
  intro T hT X
  have hpl : e.platform.magicAccessors = ({} : Platform).magicAccessors := by rw [X.admits.platform]
  obtain ⟨c3, c4, hc3, hc4, hasg⟩ := Cond.castable_spec hcast
  cases Option.some.inj (hc3.symm.trans hcl)
  obtain ⟨c5, hc5, hcl5⟩ := Cond.classLink_spec hown hlink e.platform hpl
  cases Option.some.inj (hc4.symm.trans hc5)
  obtain ⟨vm', X', st⟩ := X.thenCaughtThrough q (g := F0 m pc ls rest) rfl (Steps.refl _) (by rw [hT]; exact hcell) (by rw [hv]; rfl) (by obtain ⟨k9, h9, -⟩ := Vm.findClass_spec hcl; exact ⟨k9, h9⟩) pre x suf hsplit
    (fun z hz => by
      rcases hpass z hz with h | ⟨hz0, nm, hl1, hn1⟩
      · exact Or.inl h
      · obtain ⟨c6, hc6, hcl6⟩ := Cond.classLink_spec hown hl1 e.platform hpl
        obtain ⟨a8, b8, h1, h2, h3⟩ := hn1
        cases Option.some.inj (h1.symm.trans hcl)
        cases Option.some.inj (h2.symm.trans hc6)
        exact Or.inr ⟨hz0, _, hcl6, h3⟩) hx (Or.inr ⟨h0, c4, hcl5, hasg⟩)
  obtain ⟨t, a1, b1⟩ := kk (T.setVm vm') hT X'
  exact ⟨t, st.trans a1, b1⟩
end Rows
section Ends
variable {p : Program} {l : Launch} {e : Env} {R : Room} {s : State} {m : MethodId} {args : Array Value} {below : List Frame} {meth : Method} {c : Code} {H : Heap} {locs : List Loc} {cells slots : Nat} {Q : State → Prop}
variable {mc ms : Nat} {free : Addr → Prop} {A0 A1 : Nat → Prop} {H0 : Heap} {a : Array Value} {ls : Array Slot} {st0 rest : List Value}
variable {Qc : Array Value → State → Outcome → State → Prop} {XC : String → State → State → Prop}
/-- what a body that may throw owes at its end -/
def vx_MQ (below : List Frame) (Qc : Array Value → State → Outcome → State → Prop) (XC : String → State → State → Prop) (a : Array Value) (s : State) (mc ms : Nat) (free : Addr → Prop) : State → Prop := fun t =>
  ∃ o, t.status = .running ∧ Ended t below o ∧ vx_Q Qc XC mc ms free a s o t
theorem vx_ret {g : JFrame} {mc ms : Nat} (k : W p l e R s m args below meth c H locs cells slots (MQ below Qc args s mc ms free) g) : W p l e R s m args below meth c H locs cells slots (vx_MQ below Qc XC args s mc ms free) g := by
  intro T hT X
  obtain ⟨t, a1, o, b1, b2, b3, b4⟩ := k T hT X
  exact ⟨t, a1, o, b1, b2, Or.inl ⟨b3, b4⟩⟩
/-- not caught here: it goes on to the caller -/
theorem vx_widen {g : JFrame} {q : Addr} {k n : Nat} (h1 : cells ≤ k) (h2 : slots ≤ n) (kk : vx_W p l e R s m args below meth c H locs k n Q g q) : vx_W p l e R s m args below meth c H locs cells slots Q g q := fun T hT X => kk T hT (stand_widen X h1 h2)
theorem vx_out {pc : Nat} {E : String} {ce : Cell} {q : Addr} {mc ms : Nat} (hout : ∀ x ∈ c.exceptionTable.toList, covers x pc = false) (hlocks : meth.locks = false) (hcell : H[q]? = some ce) (hv : ce.vm = .none) (hcl : s.vm.findClass E = some ce.cls)
    (hx : ∀ t : State, t.heap = H → s.vm.Alike t.vm → XC E s t) (hf : ∀ z ∈ locs, free z.base) (hc : cells ≤ mc) (hs : slots ≤ ms) :
    vx_W p l e R s m args below meth c H locs cells slots (vx_MQ below Qc XC args s mc ms free) (F0 m pc ls rest) q := by
  intro T hT X
  obtain ⟨st1, hrun, hend, hW, hsm⟩ := X.leaveThrown q (g := F0 m pc ls rest) rfl rfl rfl hout hlocks
  have hcell9 : (T.setFrames (.throwing q :: below)).heap[q]? = some ce := by
    show T.heap[q]? = some ce
    rw [hT]; exact hcell
  exact ⟨_, st1, .threw q, hrun, hend, Or.inr ⟨q, rfl, E, ce, locs, hx _ hT hW.alike, hcell9, hv, hcl, hW, hsm.mono hc hs, hf⟩⟩
theorem vx_frame {U : State} {k n : Nat} (h : s.sameButNew ({ U with vm := s.vm } : State) locs k n) : s.heap.size ≤ U.heap.size ∧ ∀ q : Nat, q < s.heap.size → (∀ z ∈ locs, z.base ≠ q) → U.heap[q]? = s.heap[q]? := by
  obtain ⟨-, h2, -, -, -, h6⟩ := h
  refine ⟨h2, fun q hq hz => ?_⟩
  obtain ⟨c9, e1, e2, e3, e4⟩ := h6 q _ (Array.getElem?_eq_getElem hq)
  have hs : c9.slots = (s.heap[q]).slots := Array.ext_getElem? fun i => e4 i fun hm => hz _ hm rfl
  have h9 : c9 = s.heap[q] := by
    rw [hs] at e2
    exact e2
  have e5 : U.heap[q]? = some c9 := e1
  rw [e5, h9, Array.getElem?_eq_getElem hq]
/-- the words of a throw but the four that speak of the heap -/
def vx_no (w : Cond) : Bool := decide (w ≠ .isRef (.static Bundle.tN "UNASSIGNED_STACK" Bundle.steD)) && decide (w ≠ .isRef (.static Bundle.tN "SUPPRESSED_SENTINEL" Bundle.listD)) && decide (w ≠ .laysStatic Bundle.tN "UNASSIGNED_STACK" Bundle.steD) && decide (w ≠ .laysStatic Bundle.tN "SUPPRESSED_SENTINEL" Bundle.listD)
def vx_at0 (own : String) (ic : Nat) (X : String) (names : List String) : List Cond := (Bundle.ownAtoms0 own ic X names).filter vx_no
def vx_atS (own : String) (ic : Nat) (X : String) (names : List String) : List Cond := (Bundle.ownAtoms own ic X names).filter vx_no
/-- a word that the tables alone decide, or a good one -/
def vx_ot (w : Cond) : Bool := w.onTables || goodWord w
theorem vx_ot_at {args a' : Array Value} {s U : State} {w : Cond} (hW : s.WarmedH U.vm) (hvm : s.vm = U.vm) (hg : vx_ot w = true) (h : w.before args s = true) : w.before a' U = true := by
  simp only [vx_ot, Bool.or_eq_true] at hg
  rcases hg with hg | hg
  · exact va_tabs hg hvm h
  · exact word_at hW (good_of_word hg) h
/-- a list's words: the good ones out of the method's own list, the others by premises of their own -/
theorem vx_hat {args : Array Value} {s : State} {L B : List Cond} (h1 : ∀ w ∈ L.filter goodWord, w.before args s = true) (h2 : ∀ w ∈ L.filter (fun w => !goodWord w), w ∈ B) (h3 : ∀ w ∈ B, w.before args s = true) : ∀ w ∈ L, w.before args s = true := by
  intro w hw
  by_cases g : goodWord w = true
  · exact h1 w (List.mem_filter.mpr ⟨hw, g⟩)
  · refine h3 w (h2 w (List.mem_filter.mpr ⟨hw, ?_⟩))
    show (!goodWord w) = true
    cases hgw : goodWord w
    · rfl
    · exact absurd hgw g
theorem vx_c {args : Array Value} {s : State} {w : Cond} {B : List Cond} (h : w.before args s = true) (t : ∀ w ∈ B, w.before args s = true) : ∀ w' ∈ w :: B, w'.before args s = true := fun w' h' => (List.mem_cons.mp h').elim (fun e => by rw [e]; exact h) (t w')
theorem vx_n {args : Array Value} {s : State} : ∀ w ∈ ([] : List Cond), w.before args s = true := fun _ h => nomatch h
theorem vx_own {args : Array Value} {s : State} {L : List Cond} (h1 : ∀ w ∈ L.filter vx_no, w.before args s = true)
    (hU : (Cond.isRef (.static Bundle.tN "UNASSIGNED_STACK" Bundle.steD)).before args s = true) (hN : (Cond.isRef (.static Bundle.tN "SUPPRESSED_SENTINEL" Bundle.listD)).before args s = true)
    (lU : (Cond.laysStatic Bundle.tN "UNASSIGNED_STACK" Bundle.steD).before args s = true) (lN : (Cond.laysStatic Bundle.tN "SUPPRESSED_SENTINEL" Bundle.listD).before args s = true) : ∀ w ∈ L, w.before args s = true := by
  intro w hw
  by_cases e1 : w = .isRef (.static Bundle.tN "UNASSIGNED_STACK" Bundle.steD)
  · rw [e1]; exact hU
  · by_cases e2 : w = .isRef (.static Bundle.tN "SUPPRESSED_SENTINEL" Bundle.listD)
    · rw [e2]; exact hN
    · by_cases e3 : w = .laysStatic Bundle.tN "UNASSIGNED_STACK" Bundle.steD
      · rw [e3]; exact lU
      · by_cases e4 : w = .laysStatic Bundle.tN "SUPPRESSED_SENTINEL" Bundle.listD
        · rw [e4]; exact lN
        · exact h1 w (List.mem_filter.mpr ⟨hw, by unfold vx_no; rw [decide_eq_true e1, decide_eq_true e2, decide_eq_true e3, decide_eq_true e4]; rfl⟩)
/-- where a static field lies, its class's statics cell in H -/
def vx_L (C n d : String) (A : Nat → Prop) (U : State) (H : Heap) : Prop := ∃ (c : ClassId) (k : Class) (i : Nat) (f : Field) (a : Nat) (cell : Cell), U.vm.findClass C = some c ∧ U.fieldFound? C n d = some (c, k, i, f) ∧ f.isStatic = true ∧ k.statics = some a ∧ H[a]? = some cell ∧ cell.vm.isStatics = true ∧ cell.cls = c ∧ f.slot < cell.slots.size ∧ k.staticTypes[f.slot]? = some f.type ∧ ¬ A a
theorem vx_L.moved {C n d : String} {A : Nat → Prop} {u U : State} {H : Heap} (hvm : u.vm.Alike U.vm) (h : vx_L C n d A u H) : vx_L C n d A U H := by
  obtain ⟨c, k, i, f, a, cell, h1, h2, h3, h4, h5, h6, h7, h8, h9, h10⟩ := h
  obtain ⟨k', hi', he⟩ := State.fieldFound?_setVm hvm h2
  exact ⟨c, k', i, f, a, cell, by rw [hvm.findClass]; exact h1, hi', h3, by rw [he]; exact h4, h5, h6, h7, h8, by rw [he]; exact h9, h10⟩
theorem vx_L.kept {C n d : String} {A : Nat → Prop} {U : State} {H H1 : Heap} (h : vx_L C n d A U H) (hq : ∀ a : Nat, a < H.size → ¬ A a → H1[a]? = H[a]?) : vx_L C n d A U H1 := by
  obtain ⟨c, k, i, f, a, cell, h1, h2, h3, h4, h5, h6, h7, h8, h9, h10⟩ := h
  exact ⟨c, k, i, f, a, cell, h1, h2, h3, h4, by rw [hq a (Array.getElem?_eq_some_iff.mp h5).1 h10]; exact h5, h6, h7, h8, h9, h10⟩
theorem vx_L.narrow {C n d : String} {A B : Nat → Prop} {U : State} {H : Heap} (h : vx_L C n d A U H) (hAB : ∀ q, B q → A q) : vx_L C n d B U H := by
  obtain ⟨c, k, i, f, a, cell, h1, h2, h3, h4, h5, h6, h7, h8, h9, h10⟩ := h
  exact ⟨c, k, i, f, a, cell, h1, h2, h3, h4, h5, h6, h7, h8, h9, fun z => h10 (hAB _ z)⟩
theorem vx_L.word {C n d : String} {A : Nat → Prop} {s : State} {args : Array Value} (h : vx_L C n d A s s.heap) : (Cond.laysStatic C n d).before args s = true := by
  obtain ⟨c, k, i, f, a, cell, h1, h2, h3, h4, h5, h6, h7, h8, h9, -⟩ := h
  show (Cond.laysStatic C n d).holds args s none s [] = true
  exact Cond.laysStatic_of h1 h2 h3 h4 h5 h6 h7 h8 h9
/-- .. and what it holds: null or some reference -/
def vx_Zq (C n d : String) (A : Nat → Prop) (U : State) (H : Heap) : Prop := va_Zq C n d A U H ∧ vx_L C n d A U H
theorem vx_Zq.moved {C n d : String} {A : Nat → Prop} {u U : State} {H : Heap} (hvm : u.vm.Alike U.vm) (h : vx_Zq C n d A u H) : vx_Zq C n d A U H := ⟨va_Zq.moved hvm h.1, vx_L.moved hvm h.2⟩
theorem vx_Zq.kept {C n d : String} {A : Nat → Prop} {U : State} {H H1 : Heap} (h : vx_Zq C n d A U H) (hq : ∀ a : Nat, a < H.size → ¬ A a → H1[a]? = H[a]?) : vx_Zq C n d A U H1 := ⟨va_Zq.kept h.1 hq, vx_L.kept h.2 hq⟩
theorem vx_Zq.narrow {C n d : String} {A B : Nat → Prop} {U : State} {H : Heap} (h : vx_Zq C n d A U H) (hAB : ∀ q, B q → A q) : vx_Zq C n d B U H := ⟨va_Zq.narrow h.1 hAB, vx_L.narrow h.2 hAB⟩
theorem vx_Zqof {args : Array Value} {s : State} {C n d : String} {A : Nat → Prop} (hl : (Cond.laysStatic C n d).before args s = true) (hini : (Cond.initialized C).before args s = true) (h : (Cond.isRef (.static C n d)).before args s = true) (hA : ∀ a : Nat, a < s.heap.size → ¬ A a) : vx_Zq C n d A s s.heap := by
  refine ⟨va_Zqof hl hini h hA, ?_⟩
  obtain ⟨c, k, i, f, a, cell, h1, h2, h3, h4, h5, h6, h7, h8, h9⟩ := Cond.laysStatic_spec hl
  exact ⟨c, k, i, f, a, cell, h1, h2, h3, h4, h5, h6, h7, h8, h9, hA a (Array.getElem?_eq_some_iff.mp h5).1⟩
theorem vx_isRef {C n d : String} {v : Value} {A : Nat → Prop} {s : State} {args : Array Value} (h : va_Z C n d v A s s.heap) (hv : v.isRef = true) : (Cond.isRef (.static C n d)).before args s = true := by
  obtain ⟨cf, kf, fi, f, a, cell, h1, h2, h3, h4, h5, h6, h7, -⟩ := h
  have he : (Term.static C n d).eval args s none [] s = some v := by
    simp [Term.eval, State.fieldNamed?, h1, h2, h4, h5, h6, h7]
  simp only [Cond.before, Cond.holds, Cond.value, he]
  cases v <;> simp_all [Value.isRef]
theorem vx_isRefq {C n d : String} {A : Nat → Prop} {s : State} {args : Array Value} (h : va_Zq C n d A s s.heap) : (Cond.isRef (.static C n d)).before args s = true := by
  rcases h with h | ⟨t, h⟩
  · exact vx_isRef h rfl
  · exact vx_isRef h rfl
/-- the same frame, seen from here: as if the method were called anew in this heap -/
theorem vx_rebase {T : State} (X : Stand p l e R s m args below meth c T locs cells slots) {R' : Room} (hf : R'.frames ≤ R.frames) (hl : R'.locals ≤ R.locals) (hc : cells + R'.cells ≤ R.cells) (hs : slots + R'.slots ≤ R.slots) :
    Stand p l e R' ((T.setVm s.vm).setFrames (.invoking m args :: below)) m args below meth c T [] 0 0 := by
  have htop : (T.setVm s.vm).topJava?.isSome := X.here.top
  have hF : ((T.setVm s.vm).setFrames (.invoking m args :: below)).frames = .invoking m args :: below := State.frames_setFrames _ (State.cur_lt_of_top htop)
  obtain ⟨g₀, hg0⟩ := Option.isSome_iff_exists.mp htop
  obtain ⟨r, hr⟩ := State.topJava?_eq_some.mp hg0
  have hl9 : e.platform.stackLimits (T.setVm s.vm).me = e.platform.stackLimits s.me := X.limits
  have hb9 : (T.setVm s.vm).me.stackBytes = s.me.stackBytes := X.bytes
  refine ⟨X.admits, X.cas, X.clock, hF, ?_, X.hears, X.method, X.code, X.here, X.tail, X.warmed, ?_, ?_, ?_⟩
  · have h := X.room
    have hU : ((T.setVm s.vm).setFrames (.invoking m args :: below)).localsInUse = s.localsInUse := by
      rw [State.localsInUse_invoking hF (meth := meth) (c := c) X.method X.code, State.localsInUse_invoking X.frames X.method X.code]
    simp only [State.hasRoom, Bool.and_eq_true, decide_eq_true_eq] at h ⊢
    obtain ⟨⟨⟨⟨h1, h2, h3, h4, h5, h6⟩, h7⟩, h8⟩, h9⟩ := h
    rw [X.frames, List.length_cons] at h2 h3
    have q1 := X.heapSize
    have q2 := X.used
    simp only [hF, hU, List.length_cons, State.stackLimits_setFrames, State.stackBytes_setFrames, hl9, hb9]
    refine ⟨⟨⟨⟨by omega, by omega, by omega, by omega, by omega, h6⟩, ?_⟩, ?_⟩, X.book⟩
    · show T.heap.size + R'.cells ≤ e.platform.maxCells
      omega
    · show T.slotsUsed + R'.slots ≤ e.platform.maxSlots
      omega
  · rw [State.stackLimits_setFrames]; rfl
  · rw [State.stackBytes_setFrames]; rfl
  · refine ⟨?_, Nat.le_refl _, Nat.le_refl _, ?_, ?_, fun a c9 h9 => ⟨c9, h9, rfl, rfl, fun _ _ => rfl⟩⟩
    · obtain ⟨t, ht, -⟩ := State.frames_cons hr
      show T.setVm s.vm = { ((T.setVm s.vm).setFrames (.invoking m args :: below)).setFrames (T.setVm s.vm).frames with heap := T.heap, slotsUsed := T.slotsUsed }
      rw [State.setFrames_setFrames, State.setFrames_self ht]
      rfl
    · show T.slotsUsed = T.slotsUsed + ((T.heap.toList.drop T.heap.size).map (·.slots.size)).sum
      rw [List.drop_eq_nil_of_le (Nat.le_of_eq Array.length_toList)]
      rfl
    · show ((T.heap.toList.drop T.heap.size).map (·.slots.size)).sum ≤ 0
      rw [List.drop_eq_nil_of_le (Nat.le_of_eq Array.length_toList)]
      exact Nat.le_refl _
/-- 'throw new E()': new; dup; invokespecial; athrow -/
theorem vx_throw0 {cc : ByteArray} {pc : Nat} (hexec : p.tables.exec = Jvm.exec) (hb : c.code = cc) (hl : l.stackTraces = false) {own cls : String} {names : List String} {ik ic mc ms : Nat} {A : Nat → Prop}
    (hown : s.vm.findClass own = some m.cls) (hcls : Bundle.fit cls = true) (hnames : ∀ n ∈ names, Bundle.fit n = true)
    (hk : (Cond.classLink own ik cls).before args s = true) (hini : (Cond.initialized cls).before args s = true) (hat : ∀ w ∈ vx_at0 own ic cls names, w.before args s = true)
    (hgood : ∀ w ∈ Cond.classLink own ik cls :: Cond.initialized cls :: vx_at0 own ic cls names, vx_ot w = true)
    (hU : vx_Zq Bundle.tN "UNASSIGNED_STACK" Bundle.steD A s s.heap) (hN : vx_Zq Bundle.tN "SUPPRESSED_SENTINEL" Bundle.listD A s s.heap) (hS : va_S A s.heap H locs) (hsize : ls.size = c.maxLocals)
    (d0 : decode cc pc = .ok (.new ik, 3)) (d3 : decode cc (pc + 3) = .ok (.dup, 1)) (d4 : decode cc (pc + 4) = .ok (.invokespecial ic, 3)) (d7 : decode cc (pc + 7) = .ok (.athrow, 1))
    (hout : ∀ x ∈ c.exceptionTable.toList, covers x (pc + 7) = false)
    (hRframes : names.length + 3 < R.frames) (hRlocals : (rest.map fun v => v.category).sum + (13 * (names.length + 1) + 42) ≤ R.locals) (hRcells : cells + 1 ≤ R.cells) (hRslots : slots + 6 ≤ R.slots) (hlocks : meth.locks = false)
    (hx : ∀ t : State, s.vm.Alike t.vm → H.size ≤ t.heap.size → (∀ q : Nat, q < H.size → t.heap[q]? = H[q]?) → XC cls s t)
    (hf : ∀ z ∈ locs, free z.base) (hc : cells + 1 ≤ mc) (hs : slots + 6 ≤ ms) :
    W p l e R s m args below meth c H locs cells slots (vx_MQ below Qc XC args s mc ms free) (F0 m pc ls rest) := by
  intro T hT X
  have htr : e.platform.stackTraces = false := (show e.platform.stackTraces = l.stackTraces by rw [X.admits.platform]).trans hl
  have Y := vx_rebase X (R' := { frames := R.frames, locals := R.locals, cells := 1, slots := 6 }) (Nat.le_refl _) (Nat.le_refl _) hRcells hRslots
  obtain ⟨s', hA⟩ : ∃ z, z = (T.setVm s.vm).setFrames (.invoking m args :: below) := ⟨_, rfl⟩
  rw [← hA] at Y
  have hvm : s'.vm = s.vm := by rw [hA]; rfl
  have hhp : s'.heap = H := by rw [hA]; exact hT
  have hW0 : s.WarmedH s'.vm := by rw [hvm]; exact State.WarmedH.refl s
  have hat' : ∀ w ∈ vx_at0 own ic cls names, w.before args s' = true := fun w hw => vx_ot_at hW0 hvm.symm (hgood w (List.mem_cons_of_mem _ (List.mem_cons_of_mem _ hw))) (hat w hw)
  have hk' : (Cond.classLink own ik cls).before args s' = true := vx_ot_at hW0 hvm.symm (hgood _ List.mem_cons_self) hk
  have hini' : (Cond.initialized cls).before args s' = true := vx_ot_at hW0 hvm.symm (hgood _ (List.mem_cons_of_mem _ List.mem_cons_self)) hini
  have hU' : vx_Zq Bundle.tN "UNASSIGNED_STACK" Bundle.steD A s' s'.heap := by rw [hhp]; exact vx_Zq.moved hW0.alike (hU.kept hS.2.1)
  have hN' : vx_Zq Bundle.tN "SUPPRESSED_SENTINEL" Bundle.listD A s' s'.heap := by rw [hhp]; exact vx_Zq.moved hW0.alike (hN.kept hS.2.1)
  have h : ∀ w ∈ Bundle.ownAtoms0 own ic cls names, w.before args s' = true := vx_own hat' (vx_isRefq hU'.1) (vx_isRefq hN'.1) hU'.2.word hN'.2.word
  have hown' : s'.vm.findClass own = some m.cls := by rw [hvm]; exact hown
  have hins : (Cond.instantiable cls 6).before args s' = true := h _ (by simp [Bundle.ownAtoms0])
  obtain ⟨vm₁, cX, kX, hfX, hkX, -, -, X₁, st1⟩ := Y.newCold hexec (own := own) (C := cls) (index := ik) (n := 6) hown' hk' hins hini'
    (g := F0 m pc ls rest) rfl (by rw [hb]; exact d0) (Nat.le_refl _) (Nat.le_refl _)
  generalize hT1 : (T.setVm vm₁).pushCell { cls := cX, slots := kX.instanceTypes.map defaultValue, vm := .none } = T1 at X₁ st1
  have hcat : (Value.ref T.heap.size).category = 1 := rfl
  have hcellA : T1.heap[T.heap.size]? = some (freshCell cX kX) := by rw [← hT1]; exact State.heap_pushCell_size _ _
  have d3' : decode c.code (pc + 3) = .ok (.dup, 1) := by rw [hb]; exact d3
  obtain ⟨U, hsteps, hrun, hend, hW, hsame, ce, hce, hO⟩ := X₁.ctorThrow0 hexec htr (own := own) (cls := cls) (names := names) (ic := ic) hown' hcls hnames h (fun x hx => nomatch hx) hfX hkX hcellA (by rw [hhp, hT]; exact Nat.le_refl _)
    (g := { method := m, pc := pc + 4, locals := ls, stack := .ref T.heap.size :: .ref T.heap.size :: rest, locked := none }) rfl hsize rfl rfl (rest := rest) rfl
    (by rw [hb]; exact d4) (by rw [hb]; exact d7) hout hRframes (by simp only [List.map_cons, List.sum_cons, hcat]; omega) hlocks
  obtain ⟨f1, f2⟩ := vx_frame hsame
  rw [hhp] at f1 f2
  have hWs : s.WarmedH U.vm := State.WarmedH.trans hW0 hW
  have hcl : s.vm.findClass cls = some ce.cls := by
    have h9 := hO.cls
    rw [hvm] at h9
    exact h9
  have hall : s.sameButNew ({ U with vm := s.vm } : State) locs mc ms := by
    subst hA
    obtain ⟨e1, e2⟩ := hsame
    rw [State.setFrames_setFrames] at e1
    have h2 : (T.setVm s.vm).sameButNew ({ U with vm := s.vm } : State) [] (0 + 1) (0 + 6) := ⟨e1, e2⟩
    have h3 := X.same.trans h2
    rw [List.append_nil] at h3
    exact h3.mono hc hs
  refine ⟨U, ?_, .threw T.heap.size, hrun, hend, Or.inr ⟨T.heap.size, rfl, cls, ce, locs, hx U hWs.alike f1 (fun q hq => f2 q hq (fun z hz => nomatch hz)), hce, hO.vm, hcl, hWs, hall, hf⟩⟩
  refine st1 _ ?_
  show Steps p.tables e below (T1.setTop { method := m, pc := pc + 3, locals := ls, stack := .ref T.heap.size :: rest, locked := none }) _
  jvm_step X₁.here [X₁.here.top, hexec, d3', Value.category]
  exact hsteps
/-- 'throw new E("text")': new; dup; ldc; invokespecial; athrow -/
theorem vx_throwS {cc : ByteArray} {pc : Nat} (hexec : p.tables.exec = Jvm.exec) (hb : c.code = cc) (hl : l.stackTraces = false) {own cls text : String} {names : List String} {ik is ic mc ms sa : Nat} {A : Nat → Prop}
    (hown : s.vm.findClass own = some m.cls) (hcls : Bundle.fit cls = true) (hnames : ∀ n ∈ names, Bundle.fit n = true)
    (hk : (Cond.classLink own ik cls).before args s = true) (hini : (Cond.initialized cls).before args s = true) (hstr : vk_R own is text sa s) (hat : ∀ w ∈ vx_atS own ic cls names, w.before args s = true)
    (hgood : ∀ w ∈ Cond.classLink own ik cls :: Cond.initialized cls :: vx_atS own ic cls names, vx_ot w = true)
    (hU : vx_Zq Bundle.tN "UNASSIGNED_STACK" Bundle.steD A s s.heap) (hN : vx_Zq Bundle.tN "SUPPRESSED_SENTINEL" Bundle.listD A s s.heap) (hS : va_S A s.heap H locs) (hsize : ls.size = c.maxLocals)
    (d0 : decode cc pc = .ok (.new ik, 3)) (d3 : decode cc (pc + 3) = .ok (.dup, 1)) (d4 : decode cc (pc + 4) = .ok (.ldc is, 2)) (d6 : decode cc (pc + 6) = .ok (.invokespecial ic, 3)) (d9 : decode cc (pc + 9) = .ok (.athrow, 1))
    (hout : ∀ x ∈ c.exceptionTable.toList, covers x (pc + 9) = false)
    (hRframes : names.length + 3 < R.frames) (hRlocals : (rest.map fun v => v.category).sum + (13 * (names.length + 1) + 43) ≤ R.locals) (hRcells : cells + 1 ≤ R.cells) (hRslots : slots + 6 ≤ R.slots) (hlocks : meth.locks = false)
    (hx : ∀ t : State, s.vm.Alike t.vm → H.size ≤ t.heap.size → (∀ q : Nat, q < H.size → t.heap[q]? = H[q]?) → XC cls s t)
    (hf : ∀ z ∈ locs, free z.base) (hc : cells + 1 ≤ mc) (hs : slots + 6 ≤ ms) :
    W p l e R s m args below meth c H locs cells slots (vx_MQ below Qc XC args s mc ms free) (F0 m pc ls rest) := by
  intro T hT X
  have htr : e.platform.stackTraces = false := (show e.platform.stackTraces = l.stackTraces by rw [X.admits.platform]).trans hl
  have Y := vx_rebase X (R' := { frames := R.frames, locals := R.locals, cells := 1, slots := 6 }) (Nat.le_refl _) (Nat.le_refl _) hRcells hRslots
  obtain ⟨s', hA⟩ : ∃ z, z = (T.setVm s.vm).setFrames (.invoking m args :: below) := ⟨_, rfl⟩
  rw [← hA] at Y
  have hvm : s'.vm = s.vm := by rw [hA]; rfl
  have hhp : s'.heap = H := by rw [hA]; exact hT
  have hW0 : s.WarmedH s'.vm := by rw [hvm]; exact State.WarmedH.refl s
  have hat' : ∀ w ∈ vx_atS own ic cls names, w.before args s' = true := fun w hw => vx_ot_at hW0 hvm.symm (hgood w (List.mem_cons_of_mem _ (List.mem_cons_of_mem _ hw))) (hat w hw)
  have hk' : (Cond.classLink own ik cls).before args s' = true := vx_ot_at hW0 hvm.symm (hgood _ List.mem_cons_self) hk
  have hini' : (Cond.initialized cls).before args s' = true := vx_ot_at hW0 hvm.symm (hgood _ (List.mem_cons_of_mem _ List.mem_cons_self)) hini
  have hU' : vx_Zq Bundle.tN "UNASSIGNED_STACK" Bundle.steD A s' s'.heap := by rw [hhp]; exact vx_Zq.moved hW0.alike (hU.kept hS.2.1)
  have hN' : vx_Zq Bundle.tN "SUPPRESSED_SENTINEL" Bundle.listD A s' s'.heap := by rw [hhp]; exact vx_Zq.moved hW0.alike (hN.kept hS.2.1)
  have h : ∀ w ∈ Bundle.ownAtoms own ic cls names, w.before args s' = true := vx_own hat' (vx_isRefq hU'.1) (vx_isRefq hN'.1) hU'.2.word hN'.2.word
  have hown' : s'.vm.findClass own = some m.cls := by rw [hvm]; exact hown
  have hins : (Cond.instantiable cls 6).before args s' = true := h _ (by simp [Bundle.ownAtoms])
  obtain ⟨vm₁, cX, kX, hfX, hkX, -, -, X₁, st1⟩ := Y.newCold hexec (own := own) (C := cls) (index := ik) (n := 6) hown' hk' hins hini'
    (g := F0 m pc ls rest) rfl (by rw [hb]; exact d0) (Nat.le_refl _) (Nat.le_refl _)
  generalize hT1 : (T.setVm vm₁).pushCell { cls := cX, slots := kX.instanceTypes.map defaultValue, vm := .none } = T1 at X₁ st1
  have hcat : (Value.ref T.heap.size).category = 1 := rfl
  have hcellA : T1.heap[T.heap.size]? = some (freshCell cX kX) := by rw [← hT1]; exact State.heap_pushCell_size _ _
  have d3' : decode c.code (pc + 3) = .ok (.dup, 1) := by rw [hb]; exact d3
  have d4' : decode c.code (pc + 4) = .ok (.ldc is, 2) := by rw [hb]; exact d4
  have hstr' : vk_R own is text sa s' := vk_R.warm hW0 hstr
  obtain ⟨U, hsteps, hrun, hend, hW, hsame, ce, hce, hO⟩ := X₁.ctorThrowS hexec htr (own := own) (cls := cls) (names := names) (ic := ic) hown' hcls hnames h (fun x hx => nomatch hx) hfX hkX hcellA (by rw [hhp, hT]; exact Nat.le_refl _) (msg := .ref sa) rfl
    (g := { method := m, pc := pc + 6, locals := ls, stack := .ref sa :: .ref T.heap.size :: .ref T.heap.size :: rest, locked := none }) rfl hsize rfl rfl (rest := rest) rfl
    (by rw [hb]; exact d6) (by rw [hb]; exact d9) hout hRframes (by simp only [List.map_cons, List.sum_cons, hcat]; omega) hlocks
  obtain ⟨f1, f2⟩ := vx_frame hsame
  rw [hhp] at f1 f2
  have hWs : s.WarmedH U.vm := State.WarmedH.trans hW0 hW
  have hcl : s.vm.findClass cls = some ce.cls := by
    have h9 := hO.cls
    rw [hvm] at h9
    exact h9
  have hall : s.sameButNew ({ U with vm := s.vm } : State) locs mc ms := by
    subst hA
    obtain ⟨e1, e2⟩ := hsame
    rw [State.setFrames_setFrames] at e1
    have h2 : (T.setVm s.vm).sameButNew ({ U with vm := s.vm } : State) [] (0 + 1) (0 + 6) := ⟨e1, e2⟩
    have h3 := X.same.trans h2
    rw [List.append_nil] at h3
    exact h3.mono hc hs
  refine ⟨U, ?_, .threw T.heap.size, hrun, hend, Or.inr ⟨T.heap.size, rfl, cls, ce, locs, hx U hWs.alike f1 (fun q hq => f2 q hq (fun z hz => nomatch hz)), hce, hO.vm, hcl, hWs, hall, hf⟩⟩
  refine st1 _ ?_
  show Steps p.tables e below (T1.setTop { method := m, pc := pc + 3, locals := ls, stack := .ref T.heap.size :: rest, locked := none }) _
  jvm_step X₁.here [X₁.here.top, hexec, d3', Value.category]
  exact X₁.ldcString hexec (own := own) (text := text) (index := is) (a := sa) hown' hstr'.1 hstr'.2
    (g := { method := m, pc := pc + 4, locals := ls, stack := .ref T.heap.size :: .ref T.heap.size :: rest, locked := none }) rfl d4' _ hsteps
/-- 'throw new E("text")', the text by a wide index -/
theorem vx_throwSW {cc : ByteArray} {pc : Nat} (hexec : p.tables.exec = Jvm.exec) (hb : c.code = cc) (hl : l.stackTraces = false) {own cls text : String} {names : List String} {ik is ic mc ms sa : Nat} {A : Nat → Prop}
    (hown : s.vm.findClass own = some m.cls) (hcls : Bundle.fit cls = true) (hnames : ∀ n ∈ names, Bundle.fit n = true)
    (hk : (Cond.classLink own ik cls).before args s = true) (hini : (Cond.initialized cls).before args s = true) (hstr : vk_R own is text sa s) (hat : ∀ w ∈ vx_atS own ic cls names, w.before args s = true)
    (hgood : ∀ w ∈ Cond.classLink own ik cls :: Cond.initialized cls :: vx_atS own ic cls names, vx_ot w = true)
    (hU : vx_Zq Bundle.tN "UNASSIGNED_STACK" Bundle.steD A s s.heap) (hN : vx_Zq Bundle.tN "SUPPRESSED_SENTINEL" Bundle.listD A s s.heap) (hS : va_S A s.heap H locs) (hsize : ls.size = c.maxLocals)
    (d0 : decode cc pc = .ok (.new ik, 3)) (d3 : decode cc (pc + 3) = .ok (.dup, 1)) (d4 : decode cc (pc + 4) = .ok (.ldc_w is, 3)) (d7 : decode cc (pc + 7) = .ok (.invokespecial ic, 3)) (d10 : decode cc (pc + 10) = .ok (.athrow, 1))
    (hout : ∀ x ∈ c.exceptionTable.toList, covers x (pc + 10) = false)
    (hRframes : names.length + 3 < R.frames) (hRlocals : (rest.map fun v => v.category).sum + (13 * (names.length + 1) + 43) ≤ R.locals) (hRcells : cells + 1 ≤ R.cells) (hRslots : slots + 6 ≤ R.slots) (hlocks : meth.locks = false)
    (hx : ∀ t : State, s.vm.Alike t.vm → H.size ≤ t.heap.size → (∀ q : Nat, q < H.size → t.heap[q]? = H[q]?) → XC cls s t)
    (hf : ∀ z ∈ locs, free z.base) (hc : cells + 1 ≤ mc) (hs : slots + 6 ≤ ms) :
    W p l e R s m args below meth c H locs cells slots (vx_MQ below Qc XC args s mc ms free) (F0 m pc ls rest) := by
  intro T hT X
  have htr : e.platform.stackTraces = false := (show e.platform.stackTraces = l.stackTraces by rw [X.admits.platform]).trans hl
  have Y := vx_rebase X (R' := { frames := R.frames, locals := R.locals, cells := 1, slots := 6 }) (Nat.le_refl _) (Nat.le_refl _) hRcells hRslots
  obtain ⟨s', hA⟩ : ∃ z, z = (T.setVm s.vm).setFrames (.invoking m args :: below) := ⟨_, rfl⟩
  rw [← hA] at Y
  have hvm : s'.vm = s.vm := by rw [hA]; rfl
  have hhp : s'.heap = H := by rw [hA]; exact hT
  have hW0 : s.WarmedH s'.vm := by rw [hvm]; exact State.WarmedH.refl s
  have hat' : ∀ w ∈ vx_atS own ic cls names, w.before args s' = true := fun w hw => vx_ot_at hW0 hvm.symm (hgood w (List.mem_cons_of_mem _ (List.mem_cons_of_mem _ hw))) (hat w hw)
  have hk' : (Cond.classLink own ik cls).before args s' = true := vx_ot_at hW0 hvm.symm (hgood _ List.mem_cons_self) hk
  have hini' : (Cond.initialized cls).before args s' = true := vx_ot_at hW0 hvm.symm (hgood _ (List.mem_cons_of_mem _ List.mem_cons_self)) hini
  have hU' : vx_Zq Bundle.tN "UNASSIGNED_STACK" Bundle.steD A s' s'.heap := by rw [hhp]; exact vx_Zq.moved hW0.alike (hU.kept hS.2.1)
  have hN' : vx_Zq Bundle.tN "SUPPRESSED_SENTINEL" Bundle.listD A s' s'.heap := by rw [hhp]; exact vx_Zq.moved hW0.alike (hN.kept hS.2.1)
  have h : ∀ w ∈ Bundle.ownAtoms own ic cls names, w.before args s' = true := vx_own hat' (vx_isRefq hU'.1) (vx_isRefq hN'.1) hU'.2.word hN'.2.word
  have hown' : s'.vm.findClass own = some m.cls := by rw [hvm]; exact hown
  have hins : (Cond.instantiable cls 6).before args s' = true := h _ (by simp [Bundle.ownAtoms])
  obtain ⟨vm₁, cX, kX, hfX, hkX, -, -, X₁, st1⟩ := Y.newCold hexec (own := own) (C := cls) (index := ik) (n := 6) hown' hk' hins hini'
    (g := F0 m pc ls rest) rfl (by rw [hb]; exact d0) (Nat.le_refl _) (Nat.le_refl _)
  generalize hT1 : (T.setVm vm₁).pushCell { cls := cX, slots := kX.instanceTypes.map defaultValue, vm := .none } = T1 at X₁ st1
  have hcat : (Value.ref T.heap.size).category = 1 := rfl
  have hcellA : T1.heap[T.heap.size]? = some (freshCell cX kX) := by rw [← hT1]; exact State.heap_pushCell_size _ _
  have d3' : decode c.code (pc + 3) = .ok (.dup, 1) := by rw [hb]; exact d3
  have d4' : decode c.code (pc + 4) = .ok (.ldc_w is, 3) := by rw [hb]; exact d4
  have hstr' : vk_R own is text sa s' := vk_R.warm hW0 hstr
  obtain ⟨U, hsteps, hrun, hend, hW, hsame, ce, hce, hO⟩ := X₁.ctorThrowS hexec htr (own := own) (cls := cls) (names := names) (ic := ic) hown' hcls hnames h (fun x hx => nomatch hx) hfX hkX hcellA (by rw [hhp, hT]; exact Nat.le_refl _) (msg := .ref sa) rfl
    (g := { method := m, pc := pc + 7, locals := ls, stack := .ref sa :: .ref T.heap.size :: .ref T.heap.size :: rest, locked := none }) rfl hsize rfl rfl (rest := rest) rfl
    (by rw [hb]; exact d7) (by rw [hb]; exact d10) hout hRframes (by simp only [List.map_cons, List.sum_cons, hcat]; omega) hlocks
  obtain ⟨f1, f2⟩ := vx_frame hsame
  rw [hhp] at f1 f2
  have hWs : s.WarmedH U.vm := State.WarmedH.trans hW0 hW
  have hcl : s.vm.findClass cls = some ce.cls := by
    have h9 := hO.cls
    rw [hvm] at h9
    exact h9
  have hall : s.sameButNew ({ U with vm := s.vm } : State) locs mc ms := by
    subst hA
    obtain ⟨e1, e2⟩ := hsame
    rw [State.setFrames_setFrames] at e1
    have h2 : (T.setVm s.vm).sameButNew ({ U with vm := s.vm } : State) [] (0 + 1) (0 + 6) := ⟨e1, e2⟩
    have h3 := X.same.trans h2
    rw [List.append_nil] at h3
    exact h3.mono hc hs
  refine ⟨U, ?_, .threw T.heap.size, hrun, hend, Or.inr ⟨T.heap.size, rfl, cls, ce, locs, hx U hWs.alike f1 (fun q hq => f2 q hq (fun z hz => nomatch hz)), hce, hO.vm, hcl, hWs, hall, hf⟩⟩
  refine st1 _ ?_
  show Steps p.tables e below (T1.setTop { method := m, pc := pc + 3, locals := ls, stack := .ref T.heap.size :: rest, locked := none }) _
  jvm_step X₁.here [X₁.here.top, hexec, d3', Value.category]
  exact X₁.ldcStringW hexec (own := own) (text := text) (index := is) (a := sa) hown' hstr'.1 hstr'.2
    (g := { method := m, pc := pc + 4, locals := ls, stack := .ref T.heap.size :: .ref T.heap.size :: rest, locked := none }) rfl d4' _ hsteps
end Ends
section Bodies
variable {l : Launch}
theorem vx_ofW {y : MethodName} {ws ws' : List Cond} {rm : Room} {Pc : Array Value → State → Prop} {Qc : Array Value → State → Outcome → State → Prop} {XC : String → State → State → Prop} {mc ms : Nat} {free : Addr → Prop} {cc : ByteArray} {maxL : Nat} {ret : Option FieldType}
    (hy : plainName y.cls = true) (hw : ws = Cond.code y cc maxL ret :: ws')
    (body : ∀ p e s m args below meth c s₁, BodyLoose p l y (headSpec ws rm) cc maxL ret e s m args below meth c s₁ → c.maxLocals = maxL → (∀ x ∈ c.exceptionTable.toList, False) → Pc args s →
      W p l e (headSpec ws rm).room s m args below meth c s.heap [] 0 0 (vx_MQ below Qc XC args s mc ms free) (entryFrame m args maxL)) : vx_Met l y ws rm Pc Qc XC mc ms free := by
  refine MetFree.of_bodyS (code := cc) (maxLocals := maxL) (ret := ret) hy ?_ ?_
  · intro args s m h hn
    obtain ⟨meth, c, h1, h2, h3, h4, h5, h6, -, -⟩ := Cond.code_spec hn (atoms_spec (ws := ws) h _ (by rw [hw]; exact List.mem_cons_self))
    exact ⟨meth, c, h1, h2, h3, h4, h5, h6⟩
  · intro p e s m args below meth c s₁ B hml hP _
    have hh0 : s₁.heap = s.heap := by rw [B.state]; rfl
    have ht : ∀ x ∈ c.exceptionTable.toList, False := by
      obtain ⟨meth9, c9, h1, h2, -, -, -, -, h7, -⟩ := Cond.code_spec B.named (atoms_spec (ws := ws) B.pre _ (by rw [hw]; exact List.mem_cons_self))
      cases Option.some.inj (h1.symm.trans B.method)
      cases Option.some.inj (h2.symm.trans (Stand.of_body B).code)
      intro x hx
      rw [Array.isEmpty_iff.mp h7] at hx
      cases hx
    obtain ⟨t, a1, o, b1, b2, b3⟩ := body p e s m args below meth c s₁ B hml ht hP s₁ hh0 (Stand.of_body B)
    exact ⟨t, o, a1, b1, b2, b3⟩
/-- the table of a body with handlers -/
theorem vx_table {p : Program} {x y : MethodName} {S : Spec} {cc bytes : ByteArray} {maxL maxL' : Nat} {ret ret' : Option FieldType} {e : Env} {s s₁ : State} {m : MethodId} {args : Array Value} {below : List Frame} {meth : Method} {c : Code} {hh : List (Nat × Nat × Nat × Nat)}
    (B : BodyLoose p l y S cc maxL ret e s m args below meth c s₁) (h : (Cond.codeWith y bytes maxL' ret' hh).before args s = true) : c.exceptionTable.toList = tableOf hh := by
  obtain ⟨m9, meth9, c9, hn9, h1, h2, -, -, h6, -⟩ := Cond.codeWith_spec h
  cases Option.some.inj (hn9.symm.trans B.named)
  cases Option.some.inj (h1.symm.trans B.method)
  cases Option.some.inj (h2.symm.trans (Stand.of_body B).code)
  rw [← h6, table_eq]
end Bodies
end VXA
/-! ===== END ===== -/
/-! ===== BEGIN a static call of a method with an exception table ===== -/
section VXS
variable {p : Program} {l : Launch} {e : Env} {R : Room} {s : State} {m : MethodId} {args : Array Value} {below : List Frame} {meth : Method} {c : Code} {T : State} {H : Heap} {locs : List Loc} {cells slots : Nat}
abbrev vx_CSW (R : Room) (s : State) (args : Array Value) (own : String) (index : Nat) (y : MethodName) (bytes : ByteArray) (maxL : Nat) (ret : Option FieldType) (hh : List (Nat × Nat × Nat × Nat)) (ws : List Cond) (rm : Room) (mc ms n : Nat) : Prop :=
  (rm.cells = mc ∧ rm.slots = ms ∧ rm.frames + 1 ≤ R.frames ∧ 8 + (maxL + 11) + rm.locals ≤ R.locals ∧ (∀ w ∈ ws, ∀ (a' : Array Value) (U : State), s.WarmedH U.vm → w.before a' U = true) ∧ Cond.codeWith y bytes maxL ret hh ∈ ws) ∧
  (Cond.codeWith y bytes maxL ret hh).before args s = true ∧ (Cond.initialized y.cls).before args s = true ∧ (y.cls ≠ "java/lang/invoke/MethodHandle" ∧ y.cls ≠ "java/lang/invoke/VarHandle") ∧
  (∀ sig, parseMethodDescriptor y.desc = some sig → n = sig.parameters.length) ∧ (Cond.methodLink own index y).before args s = true ∧ (Cond.static y).before args s = true
theorem vx_cwSW {own : String} {index maxL mc ms : Nat} {y : MethodName} {bytes : ByteArray} {ret : Option FieldType} {hh : List (Nat × Nat × Nat × Nat)} {Ts ws ws' : List Cond} {rm : Room} (n : Nat) (ht : ∀ w ∈ Ts, w.before args s = true) (hT : GoodIn Ts (va_wsS own index y ws)) (hw : ws = Cond.codeWith y bytes maxL ret hh :: ws') (hrc : rm.cells = mc) (hrs : rm.slots = ms)
    (hd : y.cls ≠ "java/lang/invoke/MethodHandle" ∧ y.cls ≠ "java/lang/invoke/VarHandle" ∧ (parseMethodDescriptor y.desc).map (fun d => d.parameters.length) = some n) (hR : rm.frames + 1 ≤ R.frames ∧ 8 + (maxL + 11) + rm.locals ≤ R.locals) :
    vx_CSW R s args own index y bytes maxL ret hh ws rm mc ms n := by
  have ok : ∀ w ∈ va_wsS own index y ws, w.before args s = true := fun w h => ht w (hT w h).1
  have hG : GoodIn Ts ws := fun w h => hT w (by unfold va_wsS; exact List.mem_append_right _ h)
  have hc : Cond.codeWith y bytes maxL ret hh ∈ ws := by rw [hw]; exact List.mem_cons_self
  refine ⟨⟨hrc, hrs, hR.1, hR.2, pay_in ht hG, hc⟩, ht _ (hG _ hc).1, ok _ (by simp [va_wsS]), ⟨hd.1, hd.2.1⟩, fun sig h => ?_, ok _ (by simp [va_wsS]), ok _ (by simp [va_wsS])⟩
  have h2 := hd.2.2
  rw [h] at h2
  exact (Option.some.inj h2).symm
theorem vx_callSW (X : Stand p l e R s m args below meth c T locs cells slots) (hexec : p.tables.exec = Jvm.exec) {own : String} {index : Nat} {y : MethodName} {bytes : ByteArray} {maxL : Nat} {ret : Option FieldType} {hh : List (Nat × Nat × Nat × Nat)}
    (hown : s.vm.findClass own = some m.cls) (hlink : (Cond.methodLink own index y).before args s = true) (hstat : (Cond.static y).before args s = true) (hinit : (Cond.initialized y.cls).before args s = true)
    (hcode : (Cond.codeWith y bytes maxL ret hh).before args s = true) (hy : y.cls ≠ "java/lang/invoke/MethodHandle" ∧ y.cls ≠ "java/lang/invoke/VarHandle")
    {W9 : Nat} {Pre : Pt → Array Value → Prop} {Post : Pt → Array Value → Option Value → Pt → Prop} (hK : Back l R p e below s args y 3 W9 Pre Post)
    {g : JFrame} (hg : g.method = m) (hsize : g.locals.size = c.maxLocals) {argsL rest : List Value} (hlen : ∀ sig, parseMethodDescriptor y.desc = some sig → argsL.length = sig.parameters.length)
    (hstack : g.stack = argsL.reverse ++ rest) (hW : 2 * g.monitorRoom + (rest.map fun v => v.category).sum ≤ W9) (hdg : decode c.code g.pc = .ok (.invokestatic index, 3))
    (hpre : ∀ vm₁, s.WarmedH vm₁ → Pre ⟨T.setVm vm₁, locs, cells, slots⟩ argsL.toArray) :
    ∃ (v : Option Value) (vm₁ : Vm) (B : Pt), s.WarmedH vm₁ ∧ Stand p l e R s m args below meth c B.U B.locs B.cells B.slots ∧ Post ⟨T.setVm vm₁, locs, cells, slots⟩ argsL.toArray v B ∧
      ∀ target, Steps p.tables e below (B.U.setTop { g with pc := g.pc + 3, stack := v.toList ++ rest }) target → Steps p.tables e below (T.setTop g) target := by
  obtain ⟨mk, methM, cM, hnamed, hmethM, -, -, -, -, -, -, hsigM⟩ := Cond.codeWith_spec hcode
  have hstatic : methM.isStatic = true := Cond.static_spec hnamed hmethM hstat
  obtain ⟨kP, hkP, -⟩ := className_of_methodNamed hnamed
  have hinitP : kP.init = .initialized := Cond.initialized_spec (findClass_of_methodNamed hnamed) hkP hinit
  obtain ⟨vm₁, X₁, hstep₁⟩ := X.invokestatic hexec hown hlink hnamed hmethM hstatic hkP hinitP hy (g := g) hg (argsL := argsL) (rest := rest) (hlen _ hsigM) hstack hdg
  obtain ⟨v, B, X', hpost, hsteps⟩ := hK m meth c ⟨T.setVm vm₁, locs, cells, slots⟩ { g with stack := rest } (.invokestatic index) mk argsL.toArray X₁ hg hsize hdg hW (X₁.named hnamed) (hpre vm₁ X₁.warmed)
  exact ⟨v, vm₁, B, X₁.warmed, X', hpost, fun target h => hstep₁ _ fun acts => by rw [doInvoke_state]; exact hsteps.trans h⟩
theorem vx_runSW {y : MethodName} {bytes cc : ByteArray} {maxL nL mc ms n index : Nat} {ret : Option FieldType} {hh : List (Nat × Nat × Nat × Nat)} {ws : List Cond} {rm : Room} {Pc : Array Value → State → Prop} {Qc : Array Value → State → Outcome → State → Prop} {free : Addr → Prop} {Ts : List Cond} {own : String} {As rest : List Value} {g : JFrame}
    (S : CallFix p m c cc nL s args Ts own) (hM : Met l y ws rm Pc Qc mc ms free) (cw : vx_CSW R s args own index y bytes maxL ret hh ws rm mc ms n) (hp : PreS s H Pc As)
    (hg : g.method = m) (hn : As.length = n) (hsize : g.locals.size = nL) (hstack : g.stack = As.reverse ++ rest) (hW : 2 * g.monitorRoom + (rest.map fun v => v.category).sum ≤ 8) (hdg : decode cc g.pc = .ok (.invokestatic index, 3)) (hf : cells + mc ≤ R.cells ∧ slots + ms ≤ R.slots) :
    va_Run p l e R s m args below meth c H locs cells slots mc ms g rest (Qc As.toArray) (free) := by
  obtain ⟨⟨hrc, hrs, hfr, hlo, hws, hcw⟩, hcode, hini, hy, hlen, hl, hstt⟩ := cw
  have hK : Back l R p e below s args y 3 8 (PreOf R mc ms Pc) (PostOf Qc mc ms free) := va_backW (hh := hh) (bytes := bytes) (maxL := maxL) (ret := ret) hM hp.1 hrc hrs hfr hlo hws hcw (fun a' U hW => word_at hW (Or.inl (by first | rfl | simp [Cond.onTables, Cond.keeps, Cond.steady])) hini)
  obtain ⟨hx, hb, hml, ho, -⟩ := S
  intro T hT X
  obtain ⟨v, vm₁, ⟨U', l2, c2, s2⟩, hW₁, X', ⟨g', mk, t, L, e1, e2, hq, h1, hL, h2, h3⟩, st⟩ := vx_callSW X hx (hh := hh) (bytes := bytes) (maxL := maxL) (ret := ret) ho hl hstt hini hcode hy hK hg (hsize.trans hml.symm) (argsL := As) (rest := rest) (fun sig h => hn.trans (hlen sig h)) hstack hW (by rw [hb]; exact hdg)
    (fun vm₁ hW₁ => ⟨hf.1, hf.2, hp.2 (T.setVm vm₁) hT hW₁⟩)
  dsimp only [Pt.U, Pt.locs, Pt.cells, Pt.slots] at X' e1 e2 h1 h2 h3 st
  subst h1; subst h2; subst h3
  exact ⟨v, (T.setVm vm₁).calling g' mk As.toArray, t, U', L, hT, X', hL, e1, e2, hq, st⟩
/-- not caught here, past rows that name other classes: it goes on to the caller -/
theorem vx_outP {p : Program} {l : Launch} {e : Env} {R : Room} {s : State} {m : MethodId} {args : Array Value} {below : List Frame} {meth : Method} {c : Code} {H : Heap} {locs : List Loc} {cells slots : Nat} {free : Addr → Prop} {ls : Array Slot} {rest : List Value} {Qc : Array Value → State → Outcome → State → Prop} {XC : String → State → State → Prop}
    {pc : Nat} {own E : String} {ce : Cell} {q : Addr} {mc ms : Nat} (hown : s.vm.findClass own = some m.cls) (hlocks : meth.locks = false)
    (hpass : ∀ z ∈ c.exceptionTable.toList, covers z pc = false ∨ (z.catchType ≠ 0 ∧ ∃ nm : String, (Cond.classLink own z.catchType nm).before args s = true ∧ va_Nc E nm s)) (hcell : H[q]? = some ce) (hv : ce.vm = .none) (hcl : s.vm.findClass E = some ce.cls)
    (hx : ∀ t : State, t.heap = H → s.vm.Alike t.vm → XC E s t) (hf : ∀ z ∈ locs, free z.base) (hc : cells ≤ mc) (hs : slots ≤ ms) :
    vx_W p l e R s m args below meth c H locs cells slots (vx_MQ below Qc XC args s mc ms free) (F0 m pc ls rest) q := by
  intro T hT X
  have hpl : e.platform.magicAccessors = ({} : Platform).magicAccessors := by rw [X.admits.platform]
  obtain ⟨vm', hW', X', st⟩ := X.outThrough hlocks q (g := F0 m pc ls rest) rfl rfl rfl (cell := ce) (by rw [hT]; exact hcell) (by rw [hv]; rfl)
    (by obtain ⟨k9, h9, -⟩ := Vm.findClass_spec hcl; exact ⟨k9, h9⟩) (fun z hz => by
      rcases hpass z hz with h | ⟨hz0, nm, hl1, hn1⟩
      · exact Or.inl h
      · obtain ⟨c6, hc6, hcl6⟩ := Cond.classLink_spec hown hl1 e.platform hpl
        obtain ⟨a8, b8, h1, h2, h3⟩ := hn1
        cases Option.some.inj (h1.symm.trans hcl)
        cases Option.some.inj (h2.symm.trans hc6)
        exact Or.inr ⟨hz0, _, hcl6, h3⟩)
  obtain ⟨g₀, hfr⟩ := X'.frames_eq
  have hcell9 : ((T.setVm vm').setFrames (.throwing q :: below)).heap[q]? = some ce := by
    show T.heap[q]? = some ce
    rw [hT]; exact hcell
  have hend : Ended ((T.setVm vm').setFrames (.throwing q :: below)) below (.threw q) := State.frames_setFrames _ (State.cur_lt_of_frames hfr)
  refine ⟨(T.setVm vm').setFrames (.throwing q :: below), ?_, .threw q, X'.here.running, hend, Or.inr ⟨q, rfl, E, ce, locs, hx _ hT (X'.ends _).1.alike, hcell9, hv, hcl, (X'.ends _).1, (X'.ends _).2.mono hc hs, hf⟩⟩
  rw [X.pushThrowing_eq]
  exact st
/-- a thing of a world lies in the heap -/
theorem vx_lt {D : va_G} {cl : List vw_C} {ws : va_W} {H1 : Heap} (h : va_P D cl ws H1) {k : Nat} {q : Nat × va_E} (hk : ws[k]? = some q) : q.1 < H1.size := (h k q hk).lt
end VXS
/-! ===== END ===== -/
/-! ===== BEGIN methods with a table of their own: called by a name, returning or throwing ===== -/
section VXH
/-! vx_backW, vx_callVX, vx_callSX, vx_callVW, vx_runVW, vx_runVX, vx_runSX, vx_ofWH follow the same proofs as their sisters above (Free/Laws.lean, Shelf42/LK1.lean); vx_outP calls Shelf42/NT130.lean (outThrough). -/
section
variable {l : Launch} {R : Room} {p : Program} {e : Env} {below : List Frame} {s : State} {sargs : Array Value} {y : MethodName} {len W9 : Nat}
theorem vx_backW {ws : List Cond} {rm : Room} {Pc : Array Value → State → Prop} {Qc : Array Value → State → Outcome → State → Prop} {XC : String → State → State → Prop} {mc ms : Nat} {free : Addr → Prop} {bytes : ByteArray} {maxL : Nat} {ret : Option FieldType} {hh : List (Nat × Nat × Nat × Nat)}
    (hM : vx_Met l y ws rm Pc Qc XC mc ms free) (hblind : FrameBlind Pc) (hrc : rm.cells = mc) (hrs : rm.slots = ms)
    (hframes : rm.frames + 1 ≤ R.frames) (hlocals : W9 + (maxL + 11) + rm.locals ≤ R.locals)
    (hws : ∀ w ∈ ws, ∀ a' U, s.WarmedH U.vm → w.before a' U = true) (hcode : Cond.codeWith y bytes maxL ret hh ∈ ws) (hinit : ∀ a' U, s.WarmedH U.vm → (Cond.initialized y.cls).before a' U = true) :
    vx_Back l R p e below s sargs y len W9 (PreOf R mc ms Pc) (PostOf Qc mc ms free) (vx_Post XC mc ms free) := by
  intro m meth c A g ig mk a X hg hsize hdg hW hn hp
  have h1 : (headSpec ws rm).pre.before a A.U = true := atoms_intro fun w hw => hws w hw _ _ X.warmed
  have h2 : (Cond.codeWith y bytes maxL ret hh).before a A.U = true := hws _ hcode _ _ X.warmed
  have h3 : (Cond.initialized y.cls).before a A.U = true := hinit _ _ X.warmed
  have h4 : A.cells + (headSpec ws rm).room.cells ≤ R.cells := by rw [show (headSpec ws rm).room.cells = mc from hrc]; exact hp.1
  have h5 : A.slots + (headSpec ws rm).room.slots ≤ R.slots := by rw [show (headSpec ws rm).room.slots = ms from hrs]; exact hp.2.1
  have hPc : Pc a (A.U.calling g mk a) := hblind _ _ _ _ hp.2.2
  obtain ⟨U, Ls, c0, s0⟩ := A
  dsimp only [Pt.U, Pt.locs, Pt.cells, Pt.slots] at h1 h2 h3 h4 h5 X hn hPc ⊢
  obtain ⟨m9, methY, cY, hn9, hmY, hcY, -, hlY, -⟩ := Cond.codeWith_spec h2
  cases Option.some.inj (hn9.symm.trans hn)
  obtain ⟨kY, hkY, -⟩ := className_of_methodNamed hn
  have hinitY : kY.init = .initialized := Cond.initialized_spec (findClass_of_methodNamed hn) hkY h3
  have h : At U g.method c below := by rw [hg]; exact X.here
  have hlocals9 : W9 + (maxL + 11) + (headSpec ws rm).room.locals ≤ R.locals := hlocals
  have happ : (headSpec ws rm).appliesLoose y e.platform (U.calling g mk a) = true :=
    Spec.appliesLoose_calling (g := g) h hdg hn hkY hinitY
      (X.room_calling (g := g) (R' := (headSpec ws rm).room) hsize hmY hcY hframes (by rw [hlY]; omega) h4 h5) h1
  obtain ⟨mid, hmid⟩ := h.above
  have hfr : (U.setTop g).frames = (.java g :: mid) ++ below := by rw [State.frames_setTop' g h.top, hmid]; rfl
  obtain ⟨o, s₂, hsteps, -, hend, hq⟩ := Steps.callFree hM p X.admits X.cas X.clock (acts := []) hfr happ hPc trivial
  have hq' : vx_Q Qc XC mc ms free a (U.calling g mk a) o s₂ := hq
  rw [State.frames_setTop' g h.top] at hend
  obtain ⟨g₀, hg0⟩ := Option.isSome_iff_exists.mp h.top
  obtain ⟨r, hr⟩ := State.topJava?_eq_some.mp hg0
  have hr' : (({ U with heap := s₂.heap, slotsUsed := s₂.slotsUsed } : State).setVm s₂.vm).frames = .java g₀ :: r := hr
  rcases hq' with ⟨hqc, L, hfe, hL⟩ | ⟨q, rfl, E, ce, L, hx, hce, hcv, hcl, hW₂, hsm, hL⟩
  · obtain ⟨⟨v, rfl⟩, hW₂, e2, q2, q3, q4, q5, q6⟩ := id hfe
    have e3 : s₂ = ({ (U.calling g mk a).setFrames s₂.frames with heap := s₂.heap, slotsUsed := s₂.slotsUsed } : State).setVm s₂.vm := by
      have : s₂ = ({ s₂ with vm := (U.calling g mk a).vm } : State).setVm s₂.vm := rfl
      rw [e2] at this
      exact this
    obtain ⟨c₂, i₂, len₂, hc₂, hd₂, hf₂⟩ := hend
    have hW' : U.WarmedH s₂.vm := hW₂
    have hcc : c₂ = c := by
      have h1 : s₂.code? g.method = U.code? g.method := by
        rw [State.code?_eq, State.code?_eq, hW'.alike.method?]
      exact Option.some.inj (hc₂.symm.trans (h1.trans h.code))
    subst hcc
    have hlen : len₂ = len := by rw [hdg] at hd₂; cases hd₂; rfl
    subst hlen
    have hs₂ : s₂ = (({ U with heap := s₂.heap, slotsUsed := s₂.slotsUsed } : State).setVm s₂.vm).setTop { g with pc := g.pc + len₂, stack := v.toList ++ g.stack } := by
      refine e3.trans ?_
      rw [hf₂, State.calling_eq h.top, State.setFrames_setFrames, State.setTop_of_frames _ hr', hr]
      rfl
    have hsame : U.sameButNew ({ U with heap := s₂.heap, slotsUsed := s₂.slotsUsed } : State) L mc ms := by
      refine ⟨?_, q2, q3, q4, q5, q6⟩
      obtain ⟨t, ht, -⟩ := State.frames_cons hr
      show ({ U with heap := s₂.heap, slotsUsed := s₂.slotsUsed } : State) = { U.setFrames U.frames with heap := s₂.heap, slotsUsed := s₂.slotsUsed }
      rw [State.setFrames_self ht]
    subst hg
    refine Or.inl ⟨v, ⟨(({ U with heap := s₂.heap, slotsUsed := s₂.slotsUsed } : State).setVm s₂.vm), Ls ++ L, c0 + mc, s0 + ms⟩,
      ⟨X.admits, X.cas, X.clock, X.frames, X.room, X.hears, X.method, X.code, (X.here.setHeapUsed s₂.heap s₂.slotsUsed).setVm hW'.alike, X.tail, State.WarmedH.trans X.warmed hW', X.limits, X.bytes, X.same.trans (hsame.setVm s.vm)⟩,
      ⟨g, mk, s₂, L, rfl, rfl, hqc, rfl, hL, rfl, rfl⟩, ?_⟩
    show Steps p.tables e below _ ((({ U with heap := s₂.heap, slotsUsed := s₂.slotsUsed } : State).setVm s₂.vm).setTop { g with pc := g.pc + len₂, stack := v.toList ++ g.stack })
    rw [← hs₂]
    exact hsteps
  · obtain ⟨e2, q2, q3, q4, q5, q6⟩ := id hsm
    have e3 : s₂ = ({ (U.calling g mk a).setFrames s₂.frames with heap := s₂.heap, slotsUsed := s₂.slotsUsed } : State).setVm s₂.vm := by
      have : s₂ = ({ s₂ with vm := (U.calling g mk a).vm } : State).setVm s₂.vm := rfl
      rw [e2] at this
      exact this
    have hf₂ : s₂.frames = .throwing q :: .java g :: U.frames.tail := hend
    have hW' : U.WarmedH s₂.vm := hW₂
    have hs₂ : s₂ = ((({ U with heap := s₂.heap, slotsUsed := s₂.slotsUsed } : State).setVm s₂.vm).setTop g).pushFrame (.throwing q) := by
      refine e3.trans ?_
      rw [hf₂, State.calling_eq h.top, State.setFrames_setFrames, State.pushFrame, State.frames_setTop _ hr', State.setTop_of_frames _ hr', State.setFrames_setFrames, hr]
      rfl
    have hsame : U.sameButNew ({ U with heap := s₂.heap, slotsUsed := s₂.slotsUsed } : State) L mc ms := by
      refine ⟨?_, q2, q3, q4, q5, q6⟩
      obtain ⟨t, ht, -⟩ := State.frames_cons hr
      show ({ U with heap := s₂.heap, slotsUsed := s₂.slotsUsed } : State) = { U.setFrames U.frames with heap := s₂.heap, slotsUsed := s₂.slotsUsed }
      rw [State.setFrames_self ht]
    subst hg
    refine Or.inr ⟨q, ⟨(({ U with heap := s₂.heap, slotsUsed := s₂.slotsUsed } : State).setVm s₂.vm), Ls ++ L, c0 + mc, s0 + ms⟩,
      ⟨X.admits, X.cas, X.clock, X.frames, X.room, X.hears, X.method, X.code, (X.here.setHeapUsed s₂.heap s₂.slotsUsed).setVm hW'.alike, X.tail, State.WarmedH.trans X.warmed hW', X.limits, X.bytes, X.same.trans (hsame.setVm s.vm)⟩,
      ⟨g, mk, s₂, L, E, ce, rfl, rfl, hx, hce, hcv, hcl, rfl, hL, rfl, rfl⟩, ?_⟩
    show Steps p.tables e below _ (((({ U with heap := s₂.heap, slotsUsed := s₂.slotsUsed } : State).setVm s₂.vm).setTop g).pushFrame (.throwing q))
    rw [← hs₂]
    exact hsteps
end
variable {p : Program} {l : Launch} {e : Env} {R : Room} {s : State} {m : MethodId} {args : Array Value} {below : List Frame} {meth : Method} {c : Code} {T : State} {H : Heap} {locs : List Loc} {cells slots : Nat}
theorem vx_callVX (X : Stand p l e R s m args below meth c T locs cells slots) (hexec : p.tables.exec = Jvm.exec) {own C : String} {index : Nat} {y : MethodName} {bytes : ByteArray} {maxL : Nat} {ret : Option FieldType} {hh : List (Nat × Nat × Nat × Nat)}
    (hown : s.vm.findClass own = some m.cls) (hlink : (Cond.methodLink own index y).before args s = true) (hinst : (Cond.instanceMethod y).before args s = true) (hsel : (Cond.selects C y y).before args s = true)
    (hcode : (Cond.codeWith y bytes maxL ret hh).before args s = true) (hy : y.cls ≠ "java/lang/invoke/MethodHandle" ∧ y.cls ≠ "java/lang/invoke/VarHandle")
    {W9 : Nat} {Pre : Pt → Array Value → Prop} {Post : Pt → Array Value → Option Value → Pt → Prop} {PostX : Pt → Array Value → Addr → Pt → Prop} (hK : vx_Back l R p e below s args y 3 W9 Pre Post PostX)
    {b : Addr} {cellB : Cell} (hcell : T.heap[b]? = some cellB) (hobj : cellB.vm.isStatics = false) (hcls : s.vm.findClass C = some cellB.cls)
    {g : JFrame} (hg : g.method = m) (hsize : g.locals.size = c.maxLocals) {argsL rest : List Value} (hlen : ∀ sig, parseMethodDescriptor y.desc = some sig → argsL.length = sig.parameters.length)
    (hstack : g.stack = argsL.reverse ++ .ref b :: rest) (hW : 2 * g.monitorRoom + (rest.map fun v => v.category).sum ≤ W9) (hdg : decode c.code g.pc = .ok (.invokevirtual index, 3))
    (hpre : ∀ vm₁, s.WarmedH vm₁ → Pre ⟨T.setVm vm₁, locs, cells, slots⟩ (Value.ref b :: argsL).toArray) :
    (∃ (v : Option Value) (vm₁ : Vm) (B : Pt), s.WarmedH vm₁ ∧ Stand p l e R s m args below meth c B.U B.locs B.cells B.slots ∧ Post ⟨T.setVm vm₁, locs, cells, slots⟩ (Value.ref b :: argsL).toArray v B ∧
      ∀ target, Steps p.tables e below (B.U.setTop { g with pc := g.pc + 3, stack := v.toList ++ rest }) target → Steps p.tables e below (T.setTop g) target) ∨
    (∃ (q : Addr) (vm₁ : Vm) (B : Pt), s.WarmedH vm₁ ∧ Stand p l e R s m args below meth c B.U B.locs B.cells B.slots ∧ PostX ⟨T.setVm vm₁, locs, cells, slots⟩ (Value.ref b :: argsL).toArray q B ∧
      Steps p.tables e below (T.setTop g) ((B.U.setTop { g with stack := rest }).pushFrame (.throwing q))) := by
  obtain ⟨mk, methM, hnamed, hmethM, hstM, habM⟩ := Cond.instanceMethod_spec hinst
  obtain ⟨m8, methM', cM, hn8, hmethM', -, -, -, -, -, -, hsigM⟩ := Cond.codeWith_spec hcode
  cases Option.some.inj (hn8.symm.trans hnamed)
  cases hmethM.symm.trans hmethM'
  obtain ⟨c2, r2, m2, q1, q2, q3, q4, kP, hkP, hkPi⟩ := Cond.selects_spec hsel
  cases hcls.symm.trans q1
  cases (State.methodFound?_of_named hnamed hy).symm.trans q2
  cases hnamed.symm.trans q3
  have hselP : selectMethod e.platform s.vm cellB.cls mk = .method mk := by rw [Launch.admits_selectMethod X.admits]; exact q4
  obtain ⟨vm₁, X₁, hstep₁⟩ := X.invokevirtual hexec hown hlink hnamed hmethM hstM hkP hkPi hy (a := b) (cell := cellB) hcell
    (fun z h => by rw [h] at hobj; cases hobj) hselP hmethM habM hkP hkPi (g := g) hg (argsL := argsL) (rest := rest) (hlen _ hsigM) hstack hdg
  rcases hK m meth c ⟨T.setVm vm₁, locs, cells, slots⟩ { g with stack := rest } (.invokevirtual index) mk (Value.ref b :: argsL).toArray X₁ hg hsize hdg hW (X₁.named hnamed) (hpre vm₁ X₁.warmed) with ⟨v, B, X', hpost, hsteps⟩ | ⟨q, B, X', hpost, hsteps⟩
  · exact Or.inl ⟨v, vm₁, B, X₁.warmed, X', hpost, fun target h => hstep₁ _ fun acts => by rw [doInvoke_state]; exact hsteps.trans h⟩
  · exact Or.inr ⟨q, vm₁, B, X₁.warmed, X', hpost, hstep₁ _ fun acts => by rw [doInvoke_state]; exact hsteps⟩
theorem vx_callSX (X : Stand p l e R s m args below meth c T locs cells slots) (hexec : p.tables.exec = Jvm.exec) {own : String} {index : Nat} {y : MethodName} {bytes : ByteArray} {maxL : Nat} {ret : Option FieldType} {hh : List (Nat × Nat × Nat × Nat)}
    (hown : s.vm.findClass own = some m.cls) (hlink : (Cond.methodLink own index y).before args s = true) (hstat : (Cond.static y).before args s = true) (hinit : (Cond.initialized y.cls).before args s = true)
    (hcode : (Cond.codeWith y bytes maxL ret hh).before args s = true) (hy : y.cls ≠ "java/lang/invoke/MethodHandle" ∧ y.cls ≠ "java/lang/invoke/VarHandle")
    {W9 : Nat} {Pre : Pt → Array Value → Prop} {Post : Pt → Array Value → Option Value → Pt → Prop} {PostX : Pt → Array Value → Addr → Pt → Prop} (hK : vx_Back l R p e below s args y 3 W9 Pre Post PostX)
    {g : JFrame} (hg : g.method = m) (hsize : g.locals.size = c.maxLocals) {argsL rest : List Value} (hlen : ∀ sig, parseMethodDescriptor y.desc = some sig → argsL.length = sig.parameters.length)
    (hstack : g.stack = argsL.reverse ++ rest) (hW : 2 * g.monitorRoom + (rest.map fun v => v.category).sum ≤ W9) (hdg : decode c.code g.pc = .ok (.invokestatic index, 3))
    (hpre : ∀ vm₁, s.WarmedH vm₁ → Pre ⟨T.setVm vm₁, locs, cells, slots⟩ argsL.toArray) :
    (∃ (v : Option Value) (vm₁ : Vm) (B : Pt), s.WarmedH vm₁ ∧ Stand p l e R s m args below meth c B.U B.locs B.cells B.slots ∧ Post ⟨T.setVm vm₁, locs, cells, slots⟩ argsL.toArray v B ∧
      ∀ target, Steps p.tables e below (B.U.setTop { g with pc := g.pc + 3, stack := v.toList ++ rest }) target → Steps p.tables e below (T.setTop g) target) ∨
    (∃ (q : Addr) (vm₁ : Vm) (B : Pt), s.WarmedH vm₁ ∧ Stand p l e R s m args below meth c B.U B.locs B.cells B.slots ∧ PostX ⟨T.setVm vm₁, locs, cells, slots⟩ argsL.toArray q B ∧
      Steps p.tables e below (T.setTop g) ((B.U.setTop { g with stack := rest }).pushFrame (.throwing q))) := by
  obtain ⟨mk, methM, cM, hnamed, hmethM, -, -, -, -, -, -, hsigM⟩ := Cond.codeWith_spec hcode
  have hstatic : methM.isStatic = true := Cond.static_spec hnamed hmethM hstat
  obtain ⟨kP, hkP, -⟩ := className_of_methodNamed hnamed
  have hinitP : kP.init = .initialized := Cond.initialized_spec (findClass_of_methodNamed hnamed) hkP hinit
  obtain ⟨vm₁, X₁, hstep₁⟩ := X.invokestatic hexec hown hlink hnamed hmethM hstatic hkP hinitP hy (g := g) hg (argsL := argsL) (rest := rest) (hlen _ hsigM) hstack hdg
  rcases hK m meth c ⟨T.setVm vm₁, locs, cells, slots⟩ { g with stack := rest } (.invokestatic index) mk argsL.toArray X₁ hg hsize hdg hW (X₁.named hnamed) (hpre vm₁ X₁.warmed) with ⟨v, B, X', hpost, hsteps⟩ | ⟨q, B, X', hpost, hsteps⟩
  · exact Or.inl ⟨v, vm₁, B, X₁.warmed, X', hpost, fun target h => hstep₁ _ fun acts => by rw [doInvoke_state]; exact hsteps.trans h⟩
  · exact Or.inr ⟨q, vm₁, B, X₁.warmed, X', hpost, hstep₁ _ fun acts => by rw [doInvoke_state]; exact hsteps⟩
theorem vx_callVW (X : Stand p l e R s m args below meth c T locs cells slots) (hexec : p.tables.exec = Jvm.exec) {own C : String} {index : Nat} {y : MethodName} {bytes : ByteArray} {maxL : Nat} {ret : Option FieldType} {hh : List (Nat × Nat × Nat × Nat)}
    (hown : s.vm.findClass own = some m.cls) (hlink : (Cond.methodLink own index y).before args s = true) (hinst : (Cond.instanceMethod y).before args s = true) (hsel : (Cond.selects C y y).before args s = true)
    (hcode : (Cond.codeWith y bytes maxL ret hh).before args s = true) (hy : y.cls ≠ "java/lang/invoke/MethodHandle" ∧ y.cls ≠ "java/lang/invoke/VarHandle")
    {W9 : Nat} {Pre : Pt → Array Value → Prop} {Post : Pt → Array Value → Option Value → Pt → Prop} (hK : Back l R p e below s args y 3 W9 Pre Post)
    {b : Addr} {cellB : Cell} (hcell : T.heap[b]? = some cellB) (hobj : cellB.vm.isStatics = false) (hcls : s.vm.findClass C = some cellB.cls)
    {g : JFrame} (hg : g.method = m) (hsize : g.locals.size = c.maxLocals) {argsL rest : List Value} (hlen : ∀ sig, parseMethodDescriptor y.desc = some sig → argsL.length = sig.parameters.length)
    (hstack : g.stack = argsL.reverse ++ .ref b :: rest) (hW : 2 * g.monitorRoom + (rest.map fun v => v.category).sum ≤ W9) (hdg : decode c.code g.pc = .ok (.invokevirtual index, 3))
    (hpre : ∀ vm₁, s.WarmedH vm₁ → Pre ⟨T.setVm vm₁, locs, cells, slots⟩ (Value.ref b :: argsL).toArray) :
    ∃ (v : Option Value) (vm₁ : Vm) (B : Pt), s.WarmedH vm₁ ∧ Stand p l e R s m args below meth c B.U B.locs B.cells B.slots ∧ Post ⟨T.setVm vm₁, locs, cells, slots⟩ (Value.ref b :: argsL).toArray v B ∧
      ∀ target, Steps p.tables e below (B.U.setTop { g with pc := g.pc + 3, stack := v.toList ++ rest }) target → Steps p.tables e below (T.setTop g) target := by
  obtain ⟨mk, methM, hnamed, hmethM, hstM, habM⟩ := Cond.instanceMethod_spec hinst
  obtain ⟨m8, methM', cM, hn8, hmethM', -, -, -, -, -, -, hsigM⟩ := Cond.codeWith_spec hcode
  cases Option.some.inj (hn8.symm.trans hnamed)
  cases hmethM.symm.trans hmethM'
  obtain ⟨c2, r2, m2, q1, q2, q3, q4, kP, hkP, hkPi⟩ := Cond.selects_spec hsel
  cases hcls.symm.trans q1
  cases (State.methodFound?_of_named hnamed hy).symm.trans q2
  cases hnamed.symm.trans q3
  have hselP : selectMethod e.platform s.vm cellB.cls mk = .method mk := by rw [Launch.admits_selectMethod X.admits]; exact q4
  obtain ⟨vm₁, X₁, hstep₁⟩ := X.invokevirtual hexec hown hlink hnamed hmethM hstM hkP hkPi hy (a := b) (cell := cellB) hcell
    (fun z h => by rw [h] at hobj; cases hobj) hselP hmethM habM hkP hkPi (g := g) hg (argsL := argsL) (rest := rest) (hlen _ hsigM) hstack hdg
  obtain ⟨v, B, X', hpost, hsteps⟩ := hK m meth c ⟨T.setVm vm₁, locs, cells, slots⟩ { g with stack := rest } (.invokevirtual index) mk (Value.ref b :: argsL).toArray X₁ hg hsize hdg hW (X₁.named hnamed) (hpre vm₁ X₁.warmed)
  exact ⟨v, vm₁, B, X₁.warmed, X', hpost, fun target h => hstep₁ _ fun acts => by rw [doInvoke_state]; exact hsteps.trans h⟩
abbrev vx_CVW (R : Room) (s : State) (args : Array Value) (own C : String) (index : Nat) (y : MethodName) (bytes : ByteArray) (maxL : Nat) (ret : Option FieldType) (hh : List (Nat × Nat × Nat × Nat)) (ws : List Cond) (rm : Room) (mc ms n : Nat) : Prop :=
  (rm.cells = mc ∧ rm.slots = ms ∧ rm.frames + 1 ≤ R.frames ∧ 8 + (maxL + 11) + rm.locals ≤ R.locals ∧ (∀ w ∈ ws, ∀ (a' : Array Value) (U : State), s.WarmedH U.vm → w.before a' U = true) ∧ Cond.codeWith y bytes maxL ret hh ∈ ws) ∧
  (Cond.codeWith y bytes maxL ret hh).before args s = true ∧ (Cond.initialized y.cls).before args s = true ∧ (y.cls ≠ "java/lang/invoke/MethodHandle" ∧ y.cls ≠ "java/lang/invoke/VarHandle") ∧
  (∀ sig, parseMethodDescriptor y.desc = some sig → n = sig.parameters.length) ∧ (Cond.methodLink own index y).before args s = true ∧ (Cond.instanceMethod y).before args s = true ∧ (Cond.selects C y y).before args s = true
theorem vx_cwVW {own C : String} {index maxL mc ms : Nat} {y : MethodName} {bytes : ByteArray} {ret : Option FieldType} {hh : List (Nat × Nat × Nat × Nat)} {Ts ws ws' : List Cond} {rm : Room} (n : Nat) (ht : ∀ w ∈ Ts, w.before args s = true) (hT : GoodIn Ts (wsV own index C y ws)) (hw : ws = Cond.codeWith y bytes maxL ret hh :: ws') (hrc : rm.cells = mc) (hrs : rm.slots = ms)
    (hd : y.cls = C ∧ y.cls ≠ "java/lang/invoke/MethodHandle" ∧ y.cls ≠ "java/lang/invoke/VarHandle" ∧ (parseMethodDescriptor y.desc).map (fun d => d.parameters.length) = some n) (hR : rm.frames + 1 ≤ R.frames ∧ 8 + (maxL + 11) + rm.locals ≤ R.locals) :
    vx_CVW R s args own C index y bytes maxL ret hh ws rm mc ms n := by
  obtain ⟨hC, hd⟩ := hd
  subst hC
  have ok : ∀ w ∈ wsV own index y.cls y ws, w.before args s = true := fun w h => ht w (hT w h).1
  have hG : GoodIn Ts ws := fun w h => hT w (by unfold wsV; exact List.mem_append_right _ h)
  have hc : Cond.codeWith y bytes maxL ret hh ∈ ws := by rw [hw]; exact List.mem_cons_self
  refine ⟨⟨hrc, hrs, hR.1, hR.2, pay_in ht hG, hc⟩, ht _ (hG _ hc).1, ok _ (by simp [wsV]), ⟨hd.1, hd.2.1⟩, fun sig h => ?_, ok _ (by simp [wsV]), ok _ (by simp [wsV]), ok _ (by simp [wsV])⟩
  have h2 := hd.2.2
  rw [h] at h2
  exact (Option.some.inj h2).symm
theorem vx_runVW {y : MethodName} {bytes cc : ByteArray} {maxL nL mc ms n index : Nat} {ret : Option FieldType} {hh : List (Nat × Nat × Nat × Nat)} {ws : List Cond} {rm : Room} {Pc : Array Value → State → Prop} {Qc : Array Value → State → Outcome → State → Prop} {free : Addr → Prop} {Ts : List Cond} {own C : String} {b : Addr} {As rest : List Value} {g : JFrame}
    (S : CallFix p m c cc nL s args Ts own) (hM : Met l y ws rm Pc Qc mc ms free) (cw : vx_CVW R s args own C index y bytes maxL ret hh ws rm mc ms n) (hp : PreV s H C b Pc As)
    (hg : g.method = m) (hn : As.length = n) (hsize : g.locals.size = nL) (hstack : g.stack = As.reverse ++ .ref b :: rest) (hW : 2 * g.monitorRoom + (rest.map fun v => v.category).sum ≤ 8) (hdg : decode cc g.pc = .ok (.invokevirtual index, 3)) (hf : cells + mc ≤ R.cells ∧ slots + ms ≤ R.slots) :
    va_Run p l e R s m args below meth c H locs cells slots mc ms g rest (Qc (Value.ref b :: As).toArray) free := by
  obtain ⟨⟨hrc, hrs, hfr, hlo, hws, hcw⟩, hcode, hini, hy, hlen, hl, hin, hse⟩ := cw
  have hK : Back l R p e below s args y 3 8 (PreOf R mc ms Pc) (PostOf Qc mc ms free) := va_backW (hh := hh) (bytes := bytes) (maxL := maxL) (ret := ret) hM hp.1 hrc hrs hfr hlo hws hcw (fun a' U hW => word_at hW (Or.inl (by first | rfl | simp [Cond.onTables, Cond.keeps, Cond.steady])) hini)
  obtain ⟨hx, hb, hml, ho, -⟩ := S
  obtain ⟨-, ⟨cellB, hcB, hoB, hclB⟩, hPc⟩ := hp
  intro T hT X
  obtain ⟨v, vm₁, ⟨U', l2, c2, s2⟩, hW₁, X', ⟨g', mk, t, L, e1, e2, hq, h1, hL, h2, h3⟩, st⟩ := vx_callVW X hx (C := C) (hh := hh) (bytes := bytes) (maxL := maxL) (ret := ret) ho hl hin hse hcode hy hK (by rw [hT]; exact hcB) hoB hclB hg (hsize.trans hml.symm) (argsL := As) (rest := rest) (fun sig h => hn.trans (hlen sig h)) hstack hW (by rw [hb]; exact hdg)
    (fun vm₁ hW₁ => ⟨hf.1, hf.2, hPc (T.setVm vm₁) hT hW₁⟩)
  dsimp only [Pt.U, Pt.locs, Pt.cells, Pt.slots] at X' e1 e2 h1 h2 h3 st
  subst h1; subst h2; subst h3
  exact ⟨v, (T.setVm vm₁).calling g' mk (Value.ref b :: As).toArray, t, U', L, hT, X', hL, e1, e2, hq, st⟩
section
variable {y : MethodName} {bytes cc : ByteArray} {maxL nL mc ms n index : Nat} {ret : Option FieldType} {ws : List Cond} {rm : Room} {Pc : Array Value → State → Prop} {Qc : Array Value → State → Outcome → State → Prop} {XC : String → State → State → Prop} {free : Addr → Prop} {Ts : List Cond} {own C : String} {b : Addr} {As rest : List Value} {g : JFrame}
theorem vx_runVX {hh : List (Nat × Nat × Nat × Nat)} (S : CallFix p m c cc nL s args Ts own) (hM : vx_Met l y ws rm Pc Qc XC mc ms free) (cw : vx_CVW R s args own C index y bytes maxL ret hh ws rm mc ms n) (hp : PreV s H C b Pc As)
    (hg : g.method = m) (hn : As.length = n) (hsize : g.locals.size = nL) (hstack : g.stack = As.reverse ++ .ref b :: rest) (hW : 2 * g.monitorRoom + (rest.map fun v => v.category).sum ≤ 8) (hdg : decode cc g.pc = .ok (.invokevirtual index, 3)) (hf : cells + mc ≤ R.cells ∧ slots + ms ≤ R.slots) :
    vx_Run p l e R s m args below meth c H locs cells slots mc ms g rest (Qc (Value.ref b :: As).toArray) XC free := by
  obtain ⟨⟨hrc, hrs, hfr, hlo, hws, hcw⟩, hcode, hini, hy, hlen, hl, hin, hse⟩ := cw
  have hK : vx_Back l R p e below s args y 3 8 (PreOf R mc ms Pc) (PostOf Qc mc ms free) (vx_Post XC mc ms free) := vx_backW (hh := hh) (bytes := bytes) (maxL := maxL) (ret := ret) hM hp.1 hrc hrs hfr hlo hws hcw (fun a' U hW => word_at hW (Or.inl (by first | rfl | simp [Cond.onTables, Cond.keeps, Cond.steady])) hini)
  obtain ⟨hx, hb, hml, ho, -⟩ := S
  obtain ⟨-, ⟨cellB, hcB, hoB, hclB⟩, hPc⟩ := hp
  intro T hT X
  rcases vx_callVX X hx (C := C) (hh := hh) (bytes := bytes) (maxL := maxL) (ret := ret) ho hl hin hse hcode hy hK (by rw [hT]; exact hcB) hoB hclB hg (hsize.trans hml.symm) (argsL := As) (rest := rest) (fun sig h => hn.trans (hlen sig h)) hstack hW (by rw [hb]; exact hdg)
    (fun vm₁ hW₁ => ⟨hf.1, hf.2, hPc (T.setVm vm₁) hT hW₁⟩) with ⟨v, vm₁, ⟨U', l2, c2, s2⟩, hW₁, X', ⟨g', mk, t, L, e1, e2, hq, h1, hL, h2, h3⟩, st⟩ | ⟨q, vm₁, ⟨U', l2, c2, s2⟩, hW₁, X', ⟨g', mk, t, L, E, ce, e1, e2, hq, hce, hcv, hcl, h1, hL, h2, h3⟩, st⟩
  · dsimp only [Pt.U, Pt.locs, Pt.cells, Pt.slots] at X' e1 e2 h1 h2 h3 st
    subst h1; subst h2; subst h3
    exact Or.inl ⟨v, (T.setVm vm₁).calling g' mk (Value.ref b :: As).toArray, t, U', L, hT, X', hL, e1, e2, hq, st⟩
  · dsimp only [Pt.U, Pt.locs, Pt.cells, Pt.slots] at X' e1 e2 h1 h2 h3 st hcl
    subst h1; subst h2; subst h3
    exact Or.inr ⟨q, (T.setVm vm₁).calling g' mk (Value.ref b :: As).toArray, t, U', L, E, ce, hT, X', hL, e1, e2, hq, hce, hcv, vx_cls hW₁ hcl, st⟩
theorem vx_runSX {hh : List (Nat × Nat × Nat × Nat)} (S : CallFix p m c cc nL s args Ts own) (hM : vx_Met l y ws rm Pc Qc XC mc ms free) (cw : vx_CSW R s args own index y bytes maxL ret hh ws rm mc ms n) (hp : PreS s H Pc As)
    (hg : g.method = m) (hn : As.length = n) (hsize : g.locals.size = nL) (hstack : g.stack = As.reverse ++ rest) (hW : 2 * g.monitorRoom + (rest.map fun v => v.category).sum ≤ 8) (hdg : decode cc g.pc = .ok (.invokestatic index, 3)) (hf : cells + mc ≤ R.cells ∧ slots + ms ≤ R.slots) :
    vx_Run p l e R s m args below meth c H locs cells slots mc ms g rest (Qc As.toArray) XC free := by
  obtain ⟨⟨hrc, hrs, hfr, hlo, hws, hcw⟩, hcode, hini, hy, hlen, hl, hstt⟩ := cw
  have hK : vx_Back l R p e below s args y 3 8 (PreOf R mc ms Pc) (PostOf Qc mc ms free) (vx_Post XC mc ms free) := vx_backW (hh := hh) (bytes := bytes) (maxL := maxL) (ret := ret) hM hp.1 hrc hrs hfr hlo hws hcw (fun a' U hW => word_at hW (Or.inl (by first | rfl | simp [Cond.onTables, Cond.keeps, Cond.steady])) hini)
  obtain ⟨hx, hb, hml, ho, -⟩ := S
  intro T hT X
  rcases vx_callSX X hx (hh := hh) (bytes := bytes) (maxL := maxL) (ret := ret) ho hl hstt hini hcode hy hK hg (hsize.trans hml.symm) (argsL := As) (rest := rest) (fun sig h => hn.trans (hlen sig h)) hstack hW (by rw [hb]; exact hdg)
    (fun vm₁ hW₁ => ⟨hf.1, hf.2, hp.2 (T.setVm vm₁) hT hW₁⟩) with ⟨v, vm₁, ⟨U', l2, c2, s2⟩, hW₁, X', ⟨g', mk, t, L, e1, e2, hq, h1, hL, h2, h3⟩, st⟩ | ⟨q, vm₁, ⟨U', l2, c2, s2⟩, hW₁, X', ⟨g', mk, t, L, E, ce, e1, e2, hq, hce, hcv, hcl, h1, hL, h2, h3⟩, st⟩
  · dsimp only [Pt.U, Pt.locs, Pt.cells, Pt.slots] at X' e1 e2 h1 h2 h3 st
    subst h1; subst h2; subst h3
    exact Or.inl ⟨v, (T.setVm vm₁).calling g' mk As.toArray, t, U', L, hT, X', hL, e1, e2, hq, st⟩
  · dsimp only [Pt.U, Pt.locs, Pt.cells, Pt.slots] at X' e1 e2 h1 h2 h3 st hcl
    subst h1; subst h2; subst h3
    exact Or.inr ⟨q, (T.setVm vm₁).calling g' mk As.toArray, t, U', L, E, ce, hT, X', hL, e1, e2, hq, hce, hcv, vx_cls hW₁ hcl, st⟩
end
end VXH
theorem vx_ofWH {l : Launch} {y : MethodName} {ws ws' : List Cond} {rm : Room} {Pc : Array Value → State → Prop} {Qc : Array Value → State → Outcome → State → Prop} {XC : String → State → State → Prop} {mc ms : Nat} {free : Addr → Prop} {cc : ByteArray} {maxL : Nat} {ret : Option FieldType} {hh : List (Nat × Nat × Nat × Nat)}
    (hy : plainName y.cls = true) (hw : ws = Cond.codeWith y cc maxL ret hh :: ws')
    (body : ∀ p e s m args below meth c s₁, BodyLoose p l y (headSpec ws rm) cc maxL ret e s m args below meth c s₁ → c.maxLocals = maxL → Pc args s →
      W p l e (headSpec ws rm).room s m args below meth c s.heap [] 0 0 (vx_MQ below Qc XC args s mc ms free) (entryFrame m args maxL)) : vx_Met l y ws rm Pc Qc XC mc ms free := by
  refine MetFree.of_bodyS (code := cc) (maxLocals := maxL) (ret := ret) hy ?_ ?_
  · intro args s m h hn
    obtain ⟨m9, meth, c, hn9, h1, h2, h3, h4, -, h5, h6, -⟩ := Cond.codeWith_spec (atoms_spec (ws := ws) h _ (by rw [hw]; exact List.mem_cons_self))
    cases hn.symm.trans hn9
    exact ⟨meth, c, h1, h2, h3, h4, h5, h6⟩
  · intro p e s m args below meth c s₁ B hml hP _
    have hh0 : s₁.heap = s.heap := by rw [B.state]; rfl
    obtain ⟨t, a1, o, b1, b2, b3⟩ := body p e s m args below meth c s₁ B hml hP s₁ hh0 (Stand.of_body B)
    exact ⟨t, o, a1, b1, b2, b3⟩
/-! ===== END ===== -/
def RX0 : String := "BitDesk$Closure"
def TX0 : u_T := fun k => match k with
  | 0 => ("BitDesk$Closure", "reach", "[I", true)
  | _ => ("BitDesk$Closure", "isCurrent", "Z", false)
def tyX0 : Nat → FieldType := fun k => match k with
  | 0 => .array .int
  | _ => .boolean
theorem nmX0 : ∀ a, a < 2 → ∀ b, b < 2 → a ≠ b → (TX0 a).2.1 ≠ (TX0 b).2.1 := by decide +kernel
theorem tyX0_ok : ∀ k, k < 2 → parseFieldDescriptor (TX0 k).2.2.1 = some (tyX0 k) := by decide +kernel
abbrev cX0_init : ByteArray := prog_2_method_1_code
def yX0_init : MethodName := ⟨RX0, "<init>", "()V"⟩
abbrev cX0_makeFrom : ByteArray := prog_2_method_2_code
def yX0_makeFrom : MethodName := ⟨RX0, "makeFrom", "([II)V"⟩
abbrev cX0_nodesTo : ByteArray := prog_2_method_3_code
def yX0_nodesTo : MethodName := ⟨RX0, "nodesTo", "(II)I"⟩
abbrev cX0_lowestMutual : ByteArray := prog_2_method_4_code
def yX0_lowestMutual : MethodName := ⟨RX0, "lowestMutual", "(II)I"⟩
abbrev cX0_gainWith : ByteArray := prog_2_method_5_code
def yX0_gainWith : MethodName := ⟨RX0, "gainWith", "(III)I"⟩
abbrev cX0_extend : ByteArray := prog_2_method_6_code
def yX0_extend : MethodName := ⟨RX0, "extend", "(III)I"⟩
abbrev cX0_mend : ByteArray := prog_2_method_7_code
def yX0_mend : MethodName := ⟨RX0, "mend", "(I[II)I"⟩
abbrev cX0_lossBy : ByteArray := prog_2_method_8_code
def yX0_lossBy : MethodName := ⟨RX0, "lossBy", "([IIII)I"⟩
def RX1 : String := "BitDesk$Elimination"
def TX1 : u_T := fun k => match k with
  | 0 => ("BitDesk$Elimination", "left", "[I", true)
  | 1 => ("BitDesk$Elimination", "right", "[I", true)
  | 2 => ("BitDesk$Elimination", "pivots", "[I", true)
  | _ => ("BitDesk$Elimination", "pivotCount", "I", false)
def tyX1 : Nat → FieldType := fun k => match k with
  | 0 => .array .int
  | 1 => .array .int
  | 2 => .array .int
  | _ => .int
theorem nmX1 : ∀ a, a < 4 → ∀ b, b < 4 → a ≠ b → (TX1 a).2.1 ≠ (TX1 b).2.1 := by decide +kernel
theorem tyX1_ok : ∀ k, k < 4 → parseFieldDescriptor (TX1 k).2.2.1 = some (tyX1 k) := by decide +kernel
abbrev cX1_init : ByteArray := prog_3_method_1_code
def yX1_init : MethodName := ⟨RX1, "<init>", "()V"⟩
abbrev cX1_eliminate : ByteArray := prog_3_method_2_code
def yX1_eliminate : MethodName := ⟨RX1, "eliminate", "([III)V"⟩
abbrev cX1_eliminateBesideUnit : ByteArray := prog_3_method_3_code
def yX1_eliminateBesideUnit : MethodName := ⟨RX1, "eliminateBesideUnit", "([II)V"⟩
abbrev cX1_isSolvable : ByteArray := prog_3_method_4_code
def yX1_isSolvable : MethodName := ⟨RX1, "isSolvable", "(I)Z"⟩
abbrev cX1_solution : ByteArray := prog_3_method_5_code
def yX1_solution : MethodName := ⟨RX1, "solution", "()I"⟩
abbrev cX1_pivotAt : ByteArray := prog_3_method_6_code
def yX1_pivotAt : MethodName := ⟨RX1, "pivotAt", "(I)I"⟩
abbrev cX1_eliminateAll : ByteArray := prog_3_method_7_code
def yX1_eliminateAll : MethodName := ⟨RX1, "eliminateAll", "([II)V"⟩
abbrev cX1_rowNotTaken : ByteArray := prog_3_method_8_code
def yX1_rowNotTaken : MethodName := ⟨RX1, "rowNotTaken", "(II)I"⟩
abbrev cX1_swapRows : ByteArray := prog_3_method_9_code
def yX1_swapRows : MethodName := ⟨RX1, "swapRows", "(II)V"⟩
abbrev cX1_clearOthers : ByteArray := prog_3_method_10_code
def yX1_clearOthers : MethodName := ⟨RX1, "clearOthers", "(III)V"⟩
def RX2 : String := "BitDesk$Matrix"
def TX2 : u_T := fun k => match k with
  | 0 => ("BitDesk$Matrix", "rows", "[I", true)
  | 1 => ("BitDesk$Matrix", "isKept", "Z", false)
  | 2 => ("BitDesk$Matrix", "lookedLately", "I", false)
  | 3 => ("BitDesk$Matrix", "lookedInAll", "I", false)
  | _ => ("BitDesk$Matrix", "timesMadeAnew", "I", false)
def tyX2 : Nat → FieldType := fun k => match k with
  | 0 => .array .int
  | 1 => .boolean
  | 2 => .int
  | 3 => .int
  | _ => .int
theorem nmX2 : ∀ a, a < 5 → ∀ b, b < 5 → a ≠ b → (TX2 a).2.1 ≠ (TX2 b).2.1 := by decide +kernel
theorem tyX2_ok : ∀ k, k < 5 → parseFieldDescriptor (TX2 k).2.2.1 = some (tyX2 k) := by decide +kernel
abbrev cX2_init : ByteArray := prog_4_method_1_code
def yX2_init : MethodName := ⟨RX2, "<init>", "()V"⟩
abbrev cX2_makeEmpty : ByteArray := prog_4_method_2_code
def yX2_makeEmpty : MethodName := ⟨RX2, "makeEmpty", "()V"⟩
abbrev cX2_takeFrom : ByteArray := prog_4_method_3_code
def yX2_takeFrom : MethodName := ⟨RX2, "takeFrom", "(LBitDesk$Matrix;)V"⟩
abbrev cX2_noteLooked : ByteArray := prog_4_method_4_code
def yX2_noteLooked : MethodName := ⟨RX2, "noteLooked", "(I)V"⟩
abbrev cX2_noteMadeAnew : ByteArray := prog_4_method_5_code
def yX2_noteMadeAnew : MethodName := ⟨RX2, "noteMadeAnew", "(I)V"⟩
def RX3 : String := "BitDesk$Multiplier"
def TX3 : u_T := fun k => match k with
  | 0 => ("BitDesk$Multiplier", "table", "[I", true)
  | 1 => ("BitDesk$Multiplier", "first", "[I", true)
  | 2 => ("BitDesk$Multiplier", "second", "[I", true)
  | 3 => ("BitDesk$Multiplier", "size", "I", false)
  | 4 => ("BitDesk$Multiplier", "block", "I", false)
  | 5 => ("BitDesk$Multiplier", "isField", "Z", false)
  | 6 => ("BitDesk$Multiplier", "entriesMade", "I", false)
  | _ => ("BitDesk$Multiplier", "entriesTaken", "I", false)
def tyX3 : Nat → FieldType := fun k => match k with
  | 0 => .array .int
  | 1 => .array .int
  | 2 => .array .int
  | 3 => .int
  | 4 => .int
  | 5 => .boolean
  | 6 => .int
  | _ => .int
theorem nmX3 : ∀ a, a < 8 → ∀ b, b < 8 → a ≠ b → (TX3 a).2.1 ≠ (TX3 b).2.1 := by decide +kernel
theorem tyX3_ok : ∀ k, k < 8 → parseFieldDescriptor (TX3 k).2.2.1 = some (tyX3 k) := by decide +kernel
abbrev cX3_init : ByteArray := prog_5_method_1_code
def yX3_init : MethodName := ⟨RX3, "<init>", "()V"⟩
abbrev cX3_begin : ByteArray := prog_5_method_2_code
def yX3_begin : MethodName := ⟨RX3, "begin", "(LBitDesk$State;Z)V"⟩
abbrev cX3_multiply : ByteArray := prog_5_method_3_code
def yX3_multiply : MethodName := ⟨RX3, "multiply", "([I[I[I)V"⟩
abbrev cX3_raise : ByteArray := prog_5_method_4_code
def yX3_raise : MethodName := ⟨RX3, "raise", "([II)[I"⟩
abbrev cX3_fillTable : ByteArray := prog_5_method_5_code
def yX3_fillTable : MethodName := ⟨RX3, "fillTable", "([III)V"⟩
abbrev cX3_takeEntries : ByteArray := prog_5_method_6_code
def yX3_takeEntries : MethodName := ⟨RX3, "takeEntries", "([I[III)V"⟩
abbrev cX3_joined : ByteArray := prog_5_method_7_code
def yX3_joined : MethodName := ⟨RX3, "joined", "(II)I"⟩
def RX4 : String := "BitDesk$Reader"
def TX4 : u_T := fun k => match k with
  | 0 => ("BitDesk$Reader", "text", "[I", true)
  | 1 => ("BitDesk$Reader", "length", "I", false)
  | 2 => ("BitDesk$Reader", "position", "I", false)
  | 3 => ("BitDesk$Reader", "start", "I", false)
  | 4 => ("BitDesk$Reader", "statement", "I", false)
  | 5 => ("BitDesk$Reader", "error", "I", false)
  | _ => ("BitDesk$Reader", "errorPosition", "I", false)
def tyX4 : Nat → FieldType := fun k => match k with
  | 0 => .array .int
  | 1 => .int
  | 2 => .int
  | 3 => .int
  | 4 => .int
  | 5 => .int
  | _ => .int
theorem nmX4 : ∀ a, a < 7 → ∀ b, b < 7 → a ≠ b → (TX4 a).2.1 ≠ (TX4 b).2.1 := by decide +kernel
theorem tyX4_ok : ∀ k, k < 7 → parseFieldDescriptor (TX4 k).2.2.1 = some (tyX4 k) := by decide +kernel
abbrev cX4_init : ByteArray := prog_6_method_1_code
def yX4_init : MethodName := ⟨RX4, "<init>", "()V"⟩
abbrev cX4_addBytes : ByteArray := prog_6_method_2_code
def yX4_addBytes : MethodName := ⟨RX4, "addBytes", "(J)I"⟩
abbrev cX4_readInto : ByteArray := prog_6_method_3_code
def yX4_readInto : MethodName := ⟨RX4, "readInto", "(LBitDesk$State;)V"⟩
abbrev cX4_readSize : ByteArray := prog_6_method_4_code
def yX4_readSize : MethodName := ⟨RX4, "readSize", "(LBitDesk$State;)V"⟩
abbrev cX4_readStatement : ByteArray := prog_6_method_5_code
def yX4_readStatement : MethodName := ⟨RX4, "readStatement", "(LBitDesk$State;)V"⟩
abbrev cX4_readEdge : ByteArray := prog_6_method_6_code
def yX4_readEdge : MethodName := ⟨RX4, "readEdge", "(LBitDesk$State;)V"⟩
abbrev cX4_readRow : ByteArray := prog_6_method_7_code
def yX4_readRow : MethodName := ⟨RX4, "readRow", "(LBitDesk$State;)V"⟩
abbrev cX4_readKeep : ByteArray := prog_6_method_8_code
def yX4_readKeep : MethodName := ⟨RX4, "readKeep", "(LBitDesk$State;)V"⟩
abbrev cX4_readFill : ByteArray := prog_6_method_9_code
def yX4_readFill : MethodName := ⟨RX4, "readFill", "(LBitDesk$State;)V"⟩
abbrev cX4_rowOfKind : ByteArray := prog_6_method_10_code
def yX4_rowOfKind : MethodName := ⟨RX4, "rowOfKind", "(II)I"⟩
abbrev cX4_hasMore : ByteArray := prog_6_method_11_code
def yX4_hasMore : MethodName := ⟨RX4, "hasMore", "()Z"⟩
abbrev cX4_takeSemicolon : ByteArray := prog_6_method_12_code
def yX4_takeSemicolon : MethodName := ⟨RX4, "takeSemicolon", "()V"⟩
abbrev cX4_takeWord : ByteArray := prog_6_method_13_code
def yX4_takeWord : MethodName := ⟨RX4, "takeWord", "()V"⟩
abbrev cX4_takeDigits : ByteArray := prog_6_method_14_code
def yX4_takeDigits : MethodName := ⟨RX4, "takeDigits", "()V"⟩
abbrev cX4_takeNumber : ByteArray := prog_6_method_15_code
def yX4_takeNumber : MethodName := ⟨RX4, "takeNumber", "(II)I"⟩
abbrev cX4_takeBits : ByteArray := prog_6_method_16_code
def yX4_takeBits : MethodName := ⟨RX4, "takeBits", "(I)I"⟩
abbrev cX4_skipSpaces : ByteArray := prog_6_method_17_code
def yX4_skipSpaces : MethodName := ⟨RX4, "skipSpaces", "()V"⟩
abbrev cX4_isWord : ByteArray := prog_6_method_18_code
def yX4_isWord : MethodName := ⟨RX4, "isWord", "(Ljava/lang/String;)Z"⟩
abbrev cX4_fail : ByteArray := prog_6_method_19_code
def yX4_fail : MethodName := ⟨RX4, "fail", "(II)V"⟩
def RX5 : String := "BitDesk$State"
def TX5 : u_T := fun k => match k with
  | 0 => ("BitDesk$State", "slots", "[LBitDesk$Matrix;", true)
  | 1 => ("BitDesk$State", "size", "I", false)
  | 2 => ("BitDesk$State", "block", "I", false)
  | 3 => ("BitDesk$State", "entriesMade", "I", false)
  | _ => ("BitDesk$State", "entriesTaken", "I", false)
def tyX5 : Nat → FieldType := fun k => match k with
  | 0 => .array (.object "BitDesk$Matrix")
  | 1 => .int
  | 2 => .int
  | 3 => .int
  | _ => .int
theorem nmX5 : ∀ a, a < 5 → ∀ b, b < 5 → a ≠ b → (TX5 a).2.1 ≠ (TX5 b).2.1 := by decide +kernel
theorem tyX5_ok : ∀ k, k < 5 → parseFieldDescriptor (TX5 k).2.2.1 = some (tyX5 k) := by decide +kernel
abbrev cX5_init : ByteArray := prog_7_method_1_code
def yX5_init : MethodName := ⟨RX5, "<init>", "()V"⟩
abbrev cX5_makeEmpty : ByteArray := prog_7_method_2_code
def yX5_makeEmpty : MethodName := ⟨RX5, "makeEmpty", "(I)V"⟩
abbrev cX5_takeFrom : ByteArray := prog_7_method_3_code
def yX5_takeFrom : MethodName := ⟨RX5, "takeFrom", "(LBitDesk$State;)V"⟩
def RX6 : String := "BitDesk"
def TX6 : u_T := fun k => match k with
  | 0 => ("BitDesk", "reader", "LBitDesk$Reader;", true)
  | 1 => ("BitDesk", "state", "LBitDesk$State;", true)
  | 2 => ("BitDesk", "described", "LBitDesk$State;", true)
  | 3 => ("BitDesk", "past", "[LBitDesk$State;", true)
  | 4 => ("BitDesk", "pastNext", "I", false)
  | 5 => ("BitDesk", "pastCount", "I", false)
  | 6 => ("BitDesk", "snapshots", "[LBitDesk$State;", true)
  | 7 => ("BitDesk", "isSaved", "[Z", true)
  | 8 => ("BitDesk", "closures", "[LBitDesk$Closure;", true)
  | 9 => ("BitDesk", "multiplier", "LBitDesk$Multiplier;", true)
  | 10 => ("BitDesk", "elimination", "LBitDesk$Elimination;", true)
  | 11 => ("BitDesk", "made", "[I", true)
  | 12 => ("BitDesk", "levels", "[I", true)
  | 13 => ("BitDesk", "output", "[I", true)
  | _ => ("BitDesk", "outputLength", "I", false)
def tyX6 : Nat → FieldType := fun k => match k with
  | 0 => .object "BitDesk$Reader"
  | 1 => .object "BitDesk$State"
  | 2 => .object "BitDesk$State"
  | 3 => .array (.object "BitDesk$State")
  | 4 => .int
  | 5 => .int
  | 6 => .array (.object "BitDesk$State")
  | 7 => .array .boolean
  | 8 => .array (.object "BitDesk$Closure")
  | 9 => .object "BitDesk$Multiplier"
  | 10 => .object "BitDesk$Elimination"
  | 11 => .array .int
  | 12 => .array .int
  | 13 => .array .int
  | _ => .int
theorem nmX6 : ∀ a, a < 15 → ∀ b, b < 15 → a ≠ b → (TX6 a).2.1 ≠ (TX6 b).2.1 := by decide +kernel
theorem tyX6_ok : ∀ k, k < 15 → parseFieldDescriptor (TX6 k).2.2.1 = some (tyX6 k) := by decide +kernel
abbrev cX6_init : ByteArray := prog_1_method_1_code
def yX6_init : MethodName := ⟨RX6, "<init>", "()V"⟩
abbrev cX6_append : ByteArray := prog_1_method_2_code
def yX6_append : MethodName := ⟨RX6, "append", "(J)I"⟩
abbrev cX6_load : ByteArray := prog_1_method_3_code
def yX6_load : MethodName := ⟨RX6, "load", "()I"⟩
abbrev cX6_loadError : ByteArray := prog_1_method_4_code
def yX6_loadError : MethodName := ⟨RX6, "loadError", "()I"⟩
abbrev cX6_loadStatement : ByteArray := prog_1_method_5_code
def yX6_loadStatement : MethodName := ⟨RX6, "loadStatement", "()I"⟩
abbrev cX6_count : ByteArray := prog_1_method_6_code
def yX6_count : MethodName := ⟨RX6, "count", "(I)I"⟩
abbrev cX6_bit : ByteArray := prog_1_method_7_code
def yX6_bit : MethodName := ⟨RX6, "bit", "(III)I"⟩
abbrev cX6_row : ByteArray := prog_1_method_8_code
def yX6_row : MethodName := ⟨RX6, "row", "(II)J"⟩
abbrev cX6_rank : ByteArray := prog_1_method_9_code
def yX6_rank : MethodName := ⟨RX6, "rank", "(III)I"⟩
abbrev cX6_select : ByteArray := prog_1_method_10_code
def yX6_select : MethodName := ⟨RX6, "select", "(III)I"⟩
abbrev cX6_ones : ByteArray := prog_1_method_11_code
def yX6_ones : MethodName := ⟨RX6, "ones", "(I)I"⟩
abbrev cX6_columnOnes : ByteArray := prog_1_method_12_code
def yX6_columnOnes : MethodName := ⟨RX6, "columnOnes", "(II)I"⟩
abbrev cX6_sameAs : ByteArray := prog_1_method_13_code
def yX6_sameAs : MethodName := ⟨RX6, "sameAs", "(II)I"⟩
abbrev cX6_classes : ByteArray := prog_1_method_14_code
def yX6_classes : MethodName := ⟨RX6, "classes", "(I)I"⟩
abbrev cX6_classOf : ByteArray := prog_1_method_15_code
def yX6_classOf : MethodName := ⟨RX6, "classOf", "(II)I"⟩
abbrev cX6_find : ByteArray := prog_1_method_16_code
def yX6_find : MethodName := ⟨RX6, "find", "(IJ)I"⟩
abbrev cX6_nearest : ByteArray := prog_1_method_17_code
def yX6_nearest : MethodName := ⟨RX6, "nearest", "(II)I"⟩
abbrev cX6_density : ByteArray := prog_1_method_18_code
def yX6_density : MethodName := ⟨RX6, "density", "(I)D"⟩
abbrev cX6_isSymmetric : ByteArray := prog_1_method_19_code
def yX6_isSymmetric : MethodName := ⟨RX6, "isSymmetric", "(I)Z"⟩
abbrev cX6_reaches : ByteArray := prog_1_method_20_code
def yX6_reaches : MethodName := ⟨RX6, "reaches", "(III)I"⟩
abbrev cX6_reached : ByteArray := prog_1_method_21_code
def yX6_reached : MethodName := ⟨RX6, "reached", "(II)I"⟩
abbrev cX6_pairs : ByteArray := prog_1_method_22_code
def yX6_pairs : MethodName := ⟨RX6, "pairs", "(I)I"⟩
abbrev cX6_meanReach : ByteArray := prog_1_method_23_code
def yX6_meanReach : MethodName := ⟨RX6, "meanReach", "(I)F"⟩
abbrev cX6_component : ByteArray := prog_1_method_24_code
def yX6_component : MethodName := ⟨RX6, "component", "(II)I"⟩
abbrev cX6_components : ByteArray := prog_1_method_25_code
def yX6_components : MethodName := ⟨RX6, "components", "(I)I"⟩
abbrev cX6_distance : ByteArray := prog_1_method_26_code
def yX6_distance : MethodName := ⟨RX6, "distance", "(III)I"⟩
abbrev cX6_stepAt : ByteArray := prog_1_method_27_code
def yX6_stepAt : MethodName := ⟨RX6, "stepAt", "(IIII)I"⟩
abbrev cX6_around : ByteArray := prog_1_method_28_code
def yX6_around : MethodName := ⟨RX6, "around", "(II)I"⟩
abbrev cX6_girth : ByteArray := prog_1_method_29_code
def yX6_girth : MethodName := ⟨RX6, "girth", "(I)I"⟩
abbrev cX6_order : ByteArray := prog_1_method_30_code
def yX6_order : MethodName := ⟨RX6, "order", "(II)I"⟩
abbrev cX6_gained : ByteArray := prog_1_method_31_code
def yX6_gained : MethodName := ⟨RX6, "gained", "(III)I"⟩
abbrev cX6_lost : ByteArray := prog_1_method_32_code
def yX6_lost : MethodName := ⟨RX6, "lost", "(III)I"⟩
abbrev cX6_bestEdge : ByteArray := prog_1_method_33_code
def yX6_bestEdge : MethodName := ⟨RX6, "bestEdge", "(I)I"⟩
abbrev cX6_weakest : ByteArray := prog_1_method_34_code
def yX6_weakest : MethodName := ⟨RX6, "weakest", "(I)I"⟩
abbrev cX6_triangles : ByteArray := prog_1_method_35_code
def yX6_triangles : MethodName := ⟨RX6, "triangles", "(I)I"⟩
abbrev cX6_fieldRank : ByteArray := prog_1_method_36_code
def yX6_fieldRank : MethodName := ⟨RX6, "fieldRank", "(I)I"⟩
abbrev cX6_solve : ByteArray := prog_1_method_37_code
def yX6_solve : MethodName := ⟨RX6, "solve", "(IJ)J"⟩
abbrev cX6_freedom : ByteArray := prog_1_method_38_code
def yX6_freedom : MethodName := ⟨RX6, "freedom", "(IJ)I"⟩
abbrev cX6_pivot : ByteArray := prog_1_method_39_code
def yX6_pivot : MethodName := ⟨RX6, "pivot", "(II)I"⟩
abbrev cX6_put : ByteArray := prog_1_method_40_code
def yX6_put : MethodName := ⟨RX6, "put", "(IIIZ)I"⟩
abbrev cX6_setRow : ByteArray := prog_1_method_41_code
def yX6_setRow : MethodName := ⟨RX6, "setRow", "(IIJ)I"⟩
abbrev cX6_copy : ByteArray := prog_1_method_42_code
def yX6_copy : MethodName := ⟨RX6, "copy", "(II)I"⟩
abbrev cX6_transpose : ByteArray := prog_1_method_43_code
def yX6_transpose : MethodName := ⟨RX6, "transpose", "(II)I"⟩
abbrev cX6_combine : ByteArray := prog_1_method_44_code
def yX6_combine : MethodName := ⟨RX6, "combine", "(IIII)I"⟩
abbrev cX6_product : ByteArray := prog_1_method_45_code
def yX6_product : MethodName := ⟨RX6, "product", "(IIIZ)I"⟩
abbrev cX6_power : ByteArray := prog_1_method_46_code
def yX6_power : MethodName := ⟨RX6, "power", "(IIIZ)I"⟩
abbrev cX6_invert : ByteArray := prog_1_method_47_code
def yX6_invert : MethodName := ⟨RX6, "invert", "(II)I"⟩
abbrev cX6_close : ByteArray := prog_1_method_48_code
def yX6_close : MethodName := ⟨RX6, "close", "(II)I"⟩
abbrev cX6_reduce : ByteArray := prog_1_method_49_code
def yX6_reduce : MethodName := ⟨RX6, "reduce", "(II)I"⟩
abbrev cX6_exchange : ByteArray := prog_1_method_50_code
def yX6_exchange : MethodName := ⟨RX6, "exchange", "(III)I"⟩
abbrev cX6_keep : ByteArray := prog_1_method_51_code
def yX6_keep : MethodName := ⟨RX6, "keep", "(IZ)I"⟩
abbrev cX6_setBlock : ByteArray := prog_1_method_52_code
def yX6_setBlock : MethodName := ⟨RX6, "setBlock", "(I)I"⟩
abbrev cX6_kept : ByteArray := prog_1_method_53_code
def yX6_kept : MethodName := ⟨RX6, "kept", "(II)I"⟩
abbrev cX6_work : ByteArray := prog_1_method_54_code
def yX6_work : MethodName := ⟨RX6, "work", "(I)I"⟩
abbrev cX6_writeRow : ByteArray := prog_1_method_55_code
def yX6_writeRow : MethodName := ⟨RX6, "writeRow", "(II)I"⟩
abbrev cX6_outputByte : ByteArray := prog_1_method_56_code
def yX6_outputByte : MethodName := ⟨RX6, "outputByte", "(I)I"⟩
abbrev cX6_undo : ByteArray := prog_1_method_57_code
def yX6_undo : MethodName := ⟨RX6, "undo", "()I"⟩
abbrev cX6_saveSnapshot : ByteArray := prog_1_method_58_code
def yX6_saveSnapshot : MethodName := ⟨RX6, "saveSnapshot", "(I)I"⟩
abbrev cX6_restoreSnapshot : ByteArray := prog_1_method_59_code
def yX6_restoreSnapshot : MethodName := ⟨RX6, "restoreSnapshot", "(I)I"⟩
abbrev cX6_needSlot : ByteArray := prog_1_method_60_code
def yX6_needSlot : MethodName := ⟨RX6, "needSlot", "(I)V"⟩
abbrev cX6_needNode : ByteArray := prog_1_method_61_code
def yX6_needNode : MethodName := ⟨RX6, "needNode", "(I)V"⟩
abbrev cX6_needRow : ByteArray := prog_1_method_62_code
def yX6_needRow : MethodName := ⟨RX6, "needRow", "(II)V"⟩
abbrev cX6_needCell : ByteArray := prog_1_method_63_code
def yX6_needCell : MethodName := ⟨RX6, "needCell", "(III)V"⟩
abbrev cX6_needRange : ByteArray := prog_1_method_64_code
def yX6_needRange : MethodName := ⟨RX6, "needRange", "(III)V"⟩
abbrev cX6_rowsOf : ByteArray := prog_1_method_65_code
def yX6_rowsOf : MethodName := ⟨RX6, "rowsOf", "(I)[I"⟩
abbrev cX6_keptSlots : ByteArray := prog_1_method_66_code
def yX6_keptSlots : MethodName := ⟨RX6, "keptSlots", "()I"⟩
abbrev cX6_remember : ByteArray := prog_1_method_67_code
def yX6_remember : MethodName := ⟨RX6, "remember", "()V"⟩
abbrev cX6_replaceState : ByteArray := prog_1_method_68_code
def yX6_replaceState : MethodName := ⟨RX6, "replaceState", "(LBitDesk$State;)V"⟩
abbrev cX6_dropClosures : ByteArray := prog_1_method_69_code
def yX6_dropClosures : MethodName := ⟨RX6, "dropClosures", "()V"⟩
abbrev cX6_closureOf : ByteArray := prog_1_method_70_code
def yX6_closureOf : MethodName := ⟨RX6, "closureOf", "(I)LBitDesk$Closure;"⟩
abbrev cX6_store : ByteArray := prog_1_method_71_code
def yX6_store : MethodName := ⟨RX6, "store", "([II)I"⟩
abbrev cX6_noteChange : ByteArray := prog_1_method_72_code
def yX6_noteChange : MethodName := ⟨RX6, "noteChange", "(I)V"⟩
abbrev cX6_noteWork : ByteArray := prog_1_method_73_code
def yX6_noteWork : MethodName := ⟨RX6, "noteWork", "()V"⟩
abbrev cX6_firstEqual : ByteArray := prog_1_method_74_code
def yX6_firstEqual : MethodName := ⟨RX6, "firstEqual", "([II)I"⟩
abbrev cX6_firstRows : ByteArray := prog_1_method_75_code
def yX6_firstRows : MethodName := ⟨RX6, "firstRows", "([II)I"⟩
abbrev cX6_joinedRows : ByteArray := prog_1_method_76_code
def yX6_joinedRows : MethodName := ⟨RX6, "joinedRows", "([II)I"⟩
abbrev cX6_fewestEdges : ByteArray := prog_1_method_77_code
def yX6_fewestEdges : MethodName := ⟨RX6, "fewestEdges", "([III)I"⟩
abbrev cX6_fillLevels : ByteArray := prog_1_method_78_code
def yX6_fillLevels : MethodName := ⟨RX6, "fillLevels", "([III)V"⟩
abbrev cX6_lossWithout : ByteArray := prog_1_method_79_code
def yX6_lossWithout : MethodName := ⟨RX6, "lossWithout", "(III)I"⟩
abbrev cX6_dropNeedless : ByteArray := prog_1_method_80_code
def yX6_dropNeedless : MethodName := ⟨RX6, "dropNeedless", "([II)V"⟩
abbrev cX6_combined : ByteArray := prog_1_method_81_code
def yX6_combined : MethodName := ⟨RX6, "combined", "(III)I"⟩
abbrev cX6_exchanged : ByteArray := prog_1_method_82_code
def yX6_exchanged : MethodName := ⟨RX6, "exchanged", "(III)I"⟩
abbrev cX6_edgeNumber : ByteArray := prog_1_method_83_code
def yX6_edgeNumber : MethodName := ⟨RX6, "edgeNumber", "(II)I"⟩
abbrev cX6_unsigned : ByteArray := prog_1_method_84_code
def yX6_unsigned : MethodName := ⟨RX6, "unsigned", "(I)J"⟩
abbrev cX6_hasOne : ByteArray := prog_1_method_85_code
def yX6_hasOne : MethodName := ⟨RX6, "hasOne", "(II)Z"⟩
abbrev cX6_lowest : ByteArray := prog_1_method_86_code
def yX6_lowest : MethodName := ⟨RX6, "lowest", "(I)I"⟩
abbrev cX6_lowestOne : ByteArray := prog_1_method_87_code
def yX6_lowestOne : MethodName := ⟨RX6, "lowestOne", "(I)I"⟩
abbrev cX6_oneAt : ByteArray := prog_1_method_88_code
def yX6_oneAt : MethodName := ⟨RX6, "oneAt", "(II)I"⟩
abbrev cX6_onesOf : ByteArray := prog_1_method_89_code
def yX6_onesOf : MethodName := ⟨RX6, "onesOf", "([II)I"⟩
abbrev cX6_columnOf : ByteArray := prog_1_method_90_code
def yX6_columnOf : MethodName := ⟨RX6, "columnOf", "([III)I"⟩
abbrev cX6_reachedFrom : ByteArray := prog_1_method_91_code
def yX6_reachedFrom : MethodName := ⟨RX6, "reachedFrom", "([III)I"⟩
def RX7 : String := "BitDeskModel"
def TX7 : u_T := fun k => match k with
  | 0 => ("BitDeskModel", "now", "[J", true)
  | 1 => ("BitDeskModel", "read", "[J", true)
  | 2 => ("BitDeskModel", "past", "[J", true)
  | 3 => ("BitDeskModel", "copies", "[J", true)
  | 4 => ("BitDeskModel", "isSaved", "[Z", true)
  | 5 => ("BitDeskModel", "pastMany", "I", false)
  | 6 => ("BitDeskModel", "thrown", "I", false)
  | 7 => ("BitDeskModel", "buffer", "[B", true)
  | 8 => ("BitDeskModel", "length", "I", false)
  | 9 => ("BitDeskModel", "at", "I", false)
  | 10 => ("BitDeskModel", "begin", "I", false)
  | 11 => ("BitDeskModel", "error", "I", false)
  | 12 => ("BitDeskModel", "errorAt", "I", false)
  | 13 => ("BitDeskModel", "statement", "I", false)
  | 14 => ("BitDeskModel", "lastError", "I", false)
  | 15 => ("BitDeskModel", "lastStatement", "I", false)
  | 16 => ("BitDeskModel", "hand", "[J", true)
  | 17 => ("BitDeskModel", "other", "[J", true)
  | 18 => ("BitDeskModel", "third", "[J", true)
  | 19 => ("BitDeskModel", "far", "[I", true)
  | 20 => ("BitDeskModel", "beside", "[J", true)
  | 21 => ("BitDeskModel", "pivots", "[I", true)
  | 22 => ("BitDeskModel", "pivotMany", "I", false)
  | 23 => ("BitDeskModel", "output", "[B", true)
  | _ => ("BitDeskModel", "written", "I", false)
def tyX7 : Nat → FieldType := fun k => match k with
  | 0 => .array .long
  | 1 => .array .long
  | 2 => .array .long
  | 3 => .array .long
  | 4 => .array .boolean
  | 5 => .int
  | 6 => .int
  | 7 => .array .byte
  | 8 => .int
  | 9 => .int
  | 10 => .int
  | 11 => .int
  | 12 => .int
  | 13 => .int
  | 14 => .int
  | 15 => .int
  | 16 => .array .long
  | 17 => .array .long
  | 18 => .array .long
  | 19 => .array .int
  | 20 => .array .long
  | 21 => .array .int
  | 22 => .int
  | 23 => .array .byte
  | _ => .int
theorem nmX7 : ∀ a, a < 25 → ∀ b, b < 25 → a ≠ b → (TX7 a).2.1 ≠ (TX7 b).2.1 := by decide +kernel
theorem tyX7_ok : ∀ k, k < 25 → parseFieldDescriptor (TX7 k).2.2.1 = some (tyX7 k) := by decide +kernel
abbrev cX7_init : ByteArray := prog_9_method_1_code
def yX7_init : MethodName := ⟨RX7, "<init>", "()V"⟩
abbrev cX7_thrown : ByteArray := prog_9_method_2_code
def yX7_thrown : MethodName := ⟨RX7, "thrown", "()I"⟩
abbrev cX7_in : ByteArray := prog_9_method_3_code
def yX7_in : MethodName := ⟨RX7, "in", "(JJJ)Z"⟩
abbrev cX7_copies : ByteArray := prog_9_method_4_code
def yX7_copies : MethodName := ⟨RX7, "copies", "([JI[JI)V"⟩
abbrev cX7_begins : ByteArray := prog_9_method_5_code
def yX7_begins : MethodName := ⟨RX7, "begins", "([JI)V"⟩
abbrev cX7_isThrown : ByteArray := prog_9_method_6_code
def yX7_isThrown : MethodName := ⟨RX7, "isThrown", "(ZI)Z"⟩
abbrev cX7_size : ByteArray := prog_9_method_7_code
def yX7_size : MethodName := ⟨RX7, "size", "()I"⟩
abbrev cX7_isSlot : ByteArray := prog_9_method_8_code
def yX7_isSlot : MethodName := ⟨RX7, "isSlot", "(I)Z"⟩
abbrev cX7_isNode : ByteArray := prog_9_method_9_code
def yX7_isNode : MethodName := ⟨RX7, "isNode", "(I)Z"⟩
abbrev cX7_rowOf : ByteArray := prog_9_method_10_code
def yX7_rowOf : MethodName := ⟨RX7, "rowOf", "(II)J"⟩
abbrev cX7_setsRow : ByteArray := prog_9_method_11_code
def yX7_setsRow : MethodName := ⟨RX7, "setsRow", "(IIJ)V"⟩
abbrev cX7_one : ByteArray := prog_9_method_12_code
def yX7_one : MethodName := ⟨RX7, "one", "(JI)I"⟩
abbrev cX7_bitsOf : ByteArray := prog_9_method_13_code
def yX7_bitsOf : MethodName := ⟨RX7, "bitsOf", "(J)I"⟩
abbrev cX7_all : ByteArray := prog_9_method_14_code
def yX7_all : MethodName := ⟨RX7, "all", "()J"⟩
abbrev cX7_byteOf : ByteArray := prog_9_method_15_code
def yX7_byteOf : MethodName := ⟨RX7, "byteOf", "(JI)I"⟩
abbrev cX7_append : ByteArray := prog_9_method_16_code
def yX7_append : MethodName := ⟨RX7, "append", "(J)I"⟩
abbrev cX7_here : ByteArray := prog_9_method_17_code
def yX7_here : MethodName := ⟨RX7, "here", "()I"⟩
abbrev cX7_next : ByteArray := prog_9_method_18_code
def yX7_next : MethodName := ⟨RX7, "next", "()I"⟩
abbrev cX7_fails : ByteArray := prog_9_method_19_code
def yX7_fails : MethodName := ⟨RX7, "fails", "(I)V"⟩
abbrev cX7_reads : ByteArray := prog_9_method_20_code
def yX7_reads : MethodName := ⟨RX7, "reads", "()V"⟩
abbrev cX7_isWord : ByteArray := prog_9_method_21_code
def yX7_isWord : MethodName := ⟨RX7, "isWord", "(Ljava/lang/String;)Z"⟩
abbrev cX7_number : ByteArray := prog_9_method_22_code
def yX7_number : MethodName := ⟨RX7, "number", "(II)I"⟩
abbrev cX7_readSlot : ByteArray := prog_9_method_23_code
def yX7_readSlot : MethodName := ⟨RX7, "readSlot", "()I"⟩
abbrev cX7_readNode : ByteArray := prog_9_method_24_code
def yX7_readNode : MethodName := ⟨RX7, "readNode", "()I"⟩
abbrev cX7_sizePart : ByteArray := prog_9_method_25_code
def yX7_sizePart : MethodName := ⟨RX7, "sizePart", "()V"⟩
abbrev cX7_edgePart : ByteArray := prog_9_method_26_code
def yX7_edgePart : MethodName := ⟨RX7, "edgePart", "()V"⟩
abbrev cX7_rowPart : ByteArray := prog_9_method_27_code
def yX7_rowPart : MethodName := ⟨RX7, "rowPart", "()V"⟩
abbrev cX7_filled : ByteArray := prog_9_method_28_code
def yX7_filled : MethodName := ⟨RX7, "filled", "(III)J"⟩
abbrev cX7_kindHere : ByteArray := prog_9_method_29_code
def yX7_kindHere : MethodName := ⟨RX7, "kindHere", "()I"⟩
abbrev cX7_fillPart : ByteArray := prog_9_method_30_code
def yX7_fillPart : MethodName := ⟨RX7, "fillPart", "()V"⟩
abbrev cX7_keepPart : ByteArray := prog_9_method_31_code
def yX7_keepPart : MethodName := ⟨RX7, "keepPart", "()V"⟩
abbrev cX7_statement : ByteArray := prog_9_method_32_code
def yX7_statement : MethodName := ⟨RX7, "statement", "()V"⟩
abbrev cX7_isMore : ByteArray := prog_9_method_33_code
def yX7_isMore : MethodName := ⟨RX7, "isMore", "()Z"⟩
abbrev cX7_load : ByteArray := prog_9_method_34_code
def yX7_load : MethodName := ⟨RX7, "load", "()I"⟩
abbrev cX7_loadError : ByteArray := prog_9_method_35_code
def yX7_loadError : MethodName := ⟨RX7, "loadError", "()I"⟩
abbrev cX7_loadStatement : ByteArray := prog_9_method_36_code
def yX7_loadStatement : MethodName := ⟨RX7, "loadStatement", "()I"⟩
abbrev cX7_keptMany : ByteArray := prog_9_method_37_code
def yX7_keptMany : MethodName := ⟨RX7, "keptMany", "()I"⟩
abbrev cX7_count : ByteArray := prog_9_method_38_code
def yX7_count : MethodName := ⟨RX7, "count", "(I)I"⟩
abbrev cX7_areIn : ByteArray := prog_9_method_39_code
def yX7_areIn : MethodName := ⟨RX7, "areIn", "(II)Z"⟩
abbrev cX7_bit : ByteArray := prog_9_method_40_code
def yX7_bit : MethodName := ⟨RX7, "bit", "(III)I"⟩
abbrev cX7_row : ByteArray := prog_9_method_41_code
def yX7_row : MethodName := ⟨RX7, "row", "(II)J"⟩
abbrev cX7_rank : ByteArray := prog_9_method_42_code
def yX7_rank : MethodName := ⟨RX7, "rank", "(III)I"⟩
abbrev cX7_select : ByteArray := prog_9_method_43_code
def yX7_select : MethodName := ⟨RX7, "select", "(III)I"⟩
abbrev cX7_onesOf : ByteArray := prog_9_method_44_code
def yX7_onesOf : MethodName := ⟨RX7, "onesOf", "(I)I"⟩
abbrev cX7_ones : ByteArray := prog_9_method_45_code
def yX7_ones : MethodName := ⟨RX7, "ones", "(I)I"⟩
abbrev cX7_columnOnes : ByteArray := prog_9_method_46_code
def yX7_columnOnes : MethodName := ⟨RX7, "columnOnes", "(II)I"⟩
abbrev cX7_firstAs : ByteArray := prog_9_method_47_code
def yX7_firstAs : MethodName := ⟨RX7, "firstAs", "(II)I"⟩
abbrev cX7_sameAs : ByteArray := prog_9_method_48_code
def yX7_sameAs : MethodName := ⟨RX7, "sameAs", "(II)I"⟩
abbrev cX7_find : ByteArray := prog_9_method_49_code
def yX7_find : MethodName := ⟨RX7, "find", "(IJ)I"⟩
abbrev cX7_classesAhead : ByteArray := prog_9_method_50_code
def yX7_classesAhead : MethodName := ⟨RX7, "classesAhead", "(II)I"⟩
abbrev cX7_classes : ByteArray := prog_9_method_51_code
def yX7_classes : MethodName := ⟨RX7, "classes", "(I)I"⟩
abbrev cX7_classOf : ByteArray := prog_9_method_52_code
def yX7_classOf : MethodName := ⟨RX7, "classOf", "(II)I"⟩
abbrev cX7_nearest : ByteArray := prog_9_method_53_code
def yX7_nearest : MethodName := ⟨RX7, "nearest", "(II)I"⟩
abbrev cX7_density : ByteArray := prog_9_method_54_code
def yX7_density : MethodName := ⟨RX7, "density", "(I)D"⟩
abbrev cX7_isSymmetric : ByteArray := prog_9_method_55_code
def yX7_isSymmetric : MethodName := ⟨RX7, "isSymmetric", "(I)Z"⟩
abbrev cX7_takes : ByteArray := prog_9_method_56_code
def yX7_takes : MethodName := ⟨RX7, "takes", "(I[J)V"⟩
abbrev cX7_closes : ByteArray := prog_9_method_57_code
def yX7_closes : MethodName := ⟨RX7, "closes", "([J)V"⟩
abbrev cX7_closure : ByteArray := prog_9_method_58_code
def yX7_closure : MethodName := ⟨RX7, "closure", "(I)V"⟩
abbrev cX7_sumOf : ByteArray := prog_9_method_59_code
def yX7_sumOf : MethodName := ⟨RX7, "sumOf", "([J)I"⟩
abbrev cX7_reaches : ByteArray := prog_9_method_60_code
def yX7_reaches : MethodName := ⟨RX7, "reaches", "(III)I"⟩
abbrev cX7_reached : ByteArray := prog_9_method_61_code
def yX7_reached : MethodName := ⟨RX7, "reached", "(II)I"⟩
abbrev cX7_pairsOf : ByteArray := prog_9_method_62_code
def yX7_pairsOf : MethodName := ⟨RX7, "pairsOf", "(I)I"⟩
abbrev cX7_pairs : ByteArray := prog_9_method_63_code
def yX7_pairs : MethodName := ⟨RX7, "pairs", "(I)I"⟩
abbrev cX7_meanReach : ByteArray := prog_9_method_64_code
def yX7_meanReach : MethodName := ⟨RX7, "meanReach", "(I)F"⟩
abbrev cX7_componentOf : ByteArray := prog_9_method_65_code
def yX7_componentOf : MethodName := ⟨RX7, "componentOf", "(I)I"⟩
abbrev cX7_component : ByteArray := prog_9_method_66_code
def yX7_component : MethodName := ⟨RX7, "component", "(II)I"⟩
abbrev cX7_components : ByteArray := prog_9_method_67_code
def yX7_components : MethodName := ⟨RX7, "components", "(I)I"⟩
abbrev cX7_measures : ByteArray := prog_9_method_68_code
def yX7_measures : MethodName := ⟨RX7, "measures", "(II)V"⟩
abbrev cX7_distance : ByteArray := prog_9_method_69_code
def yX7_distance : MethodName := ⟨RX7, "distance", "(III)I"⟩
abbrev cX7_stepAt : ByteArray := prog_9_method_70_code
def yX7_stepAt : MethodName := ⟨RX7, "stepAt", "(IIII)I"⟩
abbrev cX7_aroundOf : ByteArray := prog_9_method_71_code
def yX7_aroundOf : MethodName := ⟨RX7, "aroundOf", "(II)I"⟩
abbrev cX7_around : ByteArray := prog_9_method_72_code
def yX7_around : MethodName := ⟨RX7, "around", "(II)I"⟩
abbrev cX7_girth : ByteArray := prog_9_method_73_code
def yX7_girth : MethodName := ⟨RX7, "girth", "(I)I"⟩
abbrev cX7_free : ByteArray := prog_9_method_74_code
def yX7_free : MethodName := ⟨RX7, "free", "(IJ)I"⟩
abbrev cX7_order : ByteArray := prog_9_method_75_code
def yX7_order : MethodName := ⟨RX7, "order", "(II)I"⟩
abbrev cX7_pairsTurned : ByteArray := prog_9_method_76_code
def yX7_pairsTurned : MethodName := ⟨RX7, "pairsTurned", "(III)I"⟩
abbrev cX7_gained : ByteArray := prog_9_method_77_code
def yX7_gained : MethodName := ⟨RX7, "gained", "(III)I"⟩
abbrev cX7_lost : ByteArray := prog_9_method_78_code
def yX7_lost : MethodName := ⟨RX7, "lost", "(III)I"⟩
abbrev cX7_mostTurned : ByteArray := prog_9_method_79_code
def yX7_mostTurned : MethodName := ⟨RX7, "mostTurned", "(II)I"⟩
abbrev cX7_bestEdge : ByteArray := prog_9_method_80_code
def yX7_bestEdge : MethodName := ⟨RX7, "bestEdge", "(I)I"⟩
abbrev cX7_weakest : ByteArray := prog_9_method_81_code
def yX7_weakest : MethodName := ⟨RX7, "weakest", "(I)I"⟩
abbrev cX7_triangles : ByteArray := prog_9_method_82_code
def yX7_triangles : MethodName := ⟨RX7, "triangles", "(I)I"⟩
abbrev cX7_changes : ByteArray := prog_9_method_83_code
def yX7_changes : MethodName := ⟨RX7, "changes", "(II)V"⟩
abbrev cX7_reduces : ByteArray := prog_9_method_84_code
def yX7_reduces : MethodName := ⟨RX7, "reduces", "(I)V"⟩
abbrev cX7_fieldRank : ByteArray := prog_9_method_85_code
def yX7_fieldRank : MethodName := ⟨RX7, "fieldRank", "(I)I"⟩
abbrev cX7_solved : ByteArray := prog_9_method_86_code
def yX7_solved : MethodName := ⟨RX7, "solved", "(IJ)J"⟩
abbrev cX7_solve : ByteArray := prog_9_method_87_code
def yX7_solve : MethodName := ⟨RX7, "solve", "(IJ)J"⟩
abbrev cX7_freedom : ByteArray := prog_9_method_88_code
def yX7_freedom : MethodName := ⟨RX7, "freedom", "(IJ)I"⟩
abbrev cX7_pivot : ByteArray := prog_9_method_89_code
def yX7_pivot : MethodName := ⟨RX7, "pivot", "(II)I"⟩
abbrev cX7_keeps : ByteArray := prog_9_method_90_code
def yX7_keeps : MethodName := ⟨RX7, "keeps", "()V"⟩
abbrev cX7_undo : ByteArray := prog_9_method_91_code
def yX7_undo : MethodName := ⟨RX7, "undo", "()I"⟩
abbrev cX7_looks : ByteArray := prog_9_method_92_code
def yX7_looks : MethodName := ⟨RX7, "looks", "(II)V"⟩
abbrev cX7_madeAnew : ByteArray := prog_9_method_93_code
def yX7_madeAnew : MethodName := ⟨RX7, "madeAnew", "(I)V"⟩
abbrev cX7_put : ByteArray := prog_9_method_94_code
def yX7_put : MethodName := ⟨RX7, "put", "(IIIZ)I"⟩
abbrev cX7_setRow : ByteArray := prog_9_method_95_code
def yX7_setRow : MethodName := ⟨RX7, "setRow", "(IIJ)I"⟩
abbrev cX7_lays : ByteArray := prog_9_method_96_code
def yX7_lays : MethodName := ⟨RX7, "lays", "([JI)I"⟩
abbrev cX7_copy : ByteArray := prog_9_method_97_code
def yX7_copy : MethodName := ⟨RX7, "copy", "(II)I"⟩
abbrev cX7_transpose : ByteArray := prog_9_method_98_code
def yX7_transpose : MethodName := ⟨RX7, "transpose", "(II)I"⟩
abbrev cX7_combined : ByteArray := prog_9_method_99_code
def yX7_combined : MethodName := ⟨RX7, "combined", "(JJI)J"⟩
abbrev cX7_combine : ByteArray := prog_9_method_100_code
def yX7_combine : MethodName := ⟨RX7, "combine", "(IIII)I"⟩
abbrev cX7_counts : ByteArray := prog_9_method_101_code
def yX7_counts : MethodName := ⟨RX7, "counts", "([J)V"⟩
abbrev cX7_multiplies : ByteArray := prog_9_method_102_code
def yX7_multiplies : MethodName := ⟨RX7, "multiplies", "([J[J[JZ)V"⟩
abbrev cX7_product : ByteArray := prog_9_method_103_code
def yX7_product : MethodName := ⟨RX7, "product", "(IIIZ)I"⟩
abbrev cX7_moves : ByteArray := prog_9_method_104_code
def yX7_moves : MethodName := ⟨RX7, "moves", "([J[J)V"⟩
abbrev cX7_power : ByteArray := prog_9_method_105_code
def yX7_power : MethodName := ⟨RX7, "power", "(IIIZ)I"⟩
abbrev cX7_invert : ByteArray := prog_9_method_106_code
def yX7_invert : MethodName := ⟨RX7, "invert", "(II)I"⟩
abbrev cX7_close : ByteArray := prog_9_method_107_code
def yX7_close : MethodName := ⟨RX7, "close", "(II)I"⟩
abbrev cX7_isSame : ByteArray := prog_9_method_108_code
def yX7_isSame : MethodName := ⟨RX7, "isSame", "([J[J)Z"⟩
abbrev cX7_reduce : ByteArray := prog_9_method_109_code
def yX7_reduce : MethodName := ⟨RX7, "reduce", "(II)I"⟩
abbrev cX7_exchanged : ByteArray := prog_9_method_110_code
def yX7_exchanged : MethodName := ⟨RX7, "exchanged", "(JII)J"⟩
abbrev cX7_exchange : ByteArray := prog_9_method_111_code
def yX7_exchange : MethodName := ⟨RX7, "exchange", "(III)I"⟩
abbrev cX7_keep : ByteArray := prog_9_method_112_code
def yX7_keep : MethodName := ⟨RX7, "keep", "(IZ)I"⟩
abbrev cX7_setBlock : ByteArray := prog_9_method_113_code
def yX7_setBlock : MethodName := ⟨RX7, "setBlock", "(I)I"⟩
abbrev cX7_kept : ByteArray := prog_9_method_114_code
def yX7_kept : MethodName := ⟨RX7, "kept", "(II)I"⟩
abbrev cX7_work : ByteArray := prog_9_method_115_code
def yX7_work : MethodName := ⟨RX7, "work", "(I)I"⟩
abbrev cX7_writeRow : ByteArray := prog_9_method_116_code
def yX7_writeRow : MethodName := ⟨RX7, "writeRow", "(II)I"⟩
abbrev cX7_outputByte : ByteArray := prog_9_method_117_code
def yX7_outputByte : MethodName := ⟨RX7, "outputByte", "(I)I"⟩
abbrev cX7_saveSnapshot : ByteArray := prog_9_method_118_code
def yX7_saveSnapshot : MethodName := ⟨RX7, "saveSnapshot", "(I)I"⟩
abbrev cX7_restoreSnapshot : ByteArray := prog_9_method_119_code
def yX7_restoreSnapshot : MethodName := ⟨RX7, "restoreSnapshot", "(I)I"⟩
def RJ6 : String := "java/lang/Integer"
def TJ6 : u_T := fun k => match k with
  | _ => ("", "", "", false)
def tyJ6 : Nat → FieldType := fun k => match k with
  | _ => .int
theorem nmJ6 : ∀ a, a < 0 → ∀ b, b < 0 → a ≠ b → (TJ6 a).2.1 ≠ (TJ6 b).2.1 := by decide +kernel
theorem tyJ6_ok : ∀ k, k < 0 → parseFieldDescriptor (TJ6 k).2.2.1 = some (tyJ6 k) := by decide +kernel
abbrev cJ6_bitCount_0f7a4 : ByteArray := prog_13_method_49_code
def yJ6_bitCount_0f7a4 : MethodName := ⟨RJ6, "bitCount", "(I)I"⟩
def RJ9 : String := "java/lang/Math"
def TJ9 : u_T := fun k => match k with
  | _ => ("", "", "", false)
def tyJ9 : Nat → FieldType := fun k => match k with
  | _ => .int
theorem nmJ9 : ∀ a, a < 0 → ∀ b, b < 0 → a ≠ b → (TJ9 a).2.1 ≠ (TJ9 b).2.1 := by decide +kernel
theorem tyJ9_ok : ∀ k, k < 0 → parseFieldDescriptor (TJ9 k).2.2.1 = some (tyJ9 k) := by decide +kernel
abbrev cJ9_abs_0f7a4 : ByteArray := prog_14_method_59_code
def yJ9_abs_0f7a4 : MethodName := ⟨RJ9, "abs", "(I)I"⟩
abbrev cJ9_max_7cf53 : ByteArray := prog_14_method_65_code
def yJ9_max_7cf53 : MethodName := ⟨RJ9, "max", "(II)I"⟩
abbrev cJ9_min_7cf53 : ByteArray := prog_14_method_69_code
def yJ9_min_7cf53 : MethodName := ⟨RJ9, "min", "(II)I"⟩
def RJ0 : String := "java/lang/String"
def TJ0 : u_T := fun k => match k with
  | _ => ("", "", "", false)
def tyJ0 : Nat → FieldType := fun k => match k with
  | _ => .int
theorem nmJ0 : ∀ a, a < 0 → ∀ b, b < 0 → a ≠ b → (TJ0 a).2.1 ≠ (TJ0 b).2.1 := by decide +kernel
theorem tyJ0_ok : ∀ k, k < 0 → parseFieldDescriptor (TJ0 k).2.2.1 = some (tyJ0 k) := by decide +kernel
abbrev cJ0_length_8abf5 : ByteArray := prog_16_method_54_code
def yJ0_length_8abf5 : MethodName := ⟨RJ0, "length", "()I"⟩
abbrev cJ0_charAt_5068e : ByteArray := prog_16_method_56_code
def yJ0_charAt_5068e : MethodName := ⟨RJ0, "charAt", "(I)C"⟩
abbrev cJ0_coder_7d493 : ByteArray := prog_16_method_152_code
def yJ0_coder_7d493 : MethodName := ⟨RJ0, "coder", "()B"⟩
abbrev cJ0_isLatin1_aae02 : ByteArray := prog_16_method_154_code
def yJ0_isLatin1_aae02 : MethodName := ⟨RJ0, "isLatin1", "()Z"⟩
abbrev cJ0_checkIndex_df160 : ByteArray := prog_16_method_155_code
def yJ0_checkIndex_df160 : MethodName := ⟨RJ0, "checkIndex", "(II)V"⟩
def RJ1 : String := "java/lang/StringLatin1"
def TJ1 : u_T := fun k => match k with
  | _ => ("", "", "", false)
def tyJ1 : Nat → FieldType := fun k => match k with
  | _ => .int
theorem nmJ1 : ∀ a, a < 0 → ∀ b, b < 0 → a ≠ b → (TJ1 a).2.1 ≠ (TJ1 b).2.1 := by decide +kernel
theorem tyJ1_ok : ∀ k, k < 0 → parseFieldDescriptor (TJ1 k).2.2.1 = some (tyJ1 k) := by decide +kernel
abbrev cJ1_charAt_3b067 : ByteArray := prog_17_method_2_code
def yJ1_charAt_3b067 : MethodName := ⟨RJ1, "charAt", "([BI)C"⟩
def RJ2 : String := "java/lang/StringUTF16"
def TJ2 : u_T := fun k => match k with
  | _ => ("", "", "", false)
def tyJ2 : Nat → FieldType := fun k => match k with
  | _ => .int
theorem nmJ2 : ∀ a, a < 0 → ∀ b, b < 0 → a ≠ b → (TJ2 a).2.1 ≠ (TJ2 b).2.1 := by decide +kernel
theorem tyJ2_ok : ∀ k, k < 0 → parseFieldDescriptor (TJ2 k).2.2.1 = some (tyJ2 k) := by decide +kernel
abbrev cJ2_getChar_3b067 : ByteArray := prog_18_method_5_code
def yJ2_getChar_3b067 : MethodName := ⟨RJ2, "getChar", "([BI)C"⟩
abbrev cJ2_length_9d52b : ByteArray := prog_18_method_6_code
def yJ2_length_9d52b : MethodName := ⟨RJ2, "length", "([B)I"⟩
abbrev cJ2_charAt_3b067 : ByteArray := prog_18_method_83_code
def yJ2_charAt_3b067 : MethodName := ⟨RJ2, "charAt", "([BI)C"⟩
abbrev cJ2_checkIndex_2214a : ByteArray := prog_18_method_91_code
def yJ2_checkIndex_2214a : MethodName := ⟨RJ2, "checkIndex", "(I[B)V"⟩
def RJ10 : String := "java/lang/System"
def TJ10 : u_T := fun k => match k with
  | _ => ("", "", "", false)
def tyJ10 : Nat → FieldType := fun k => match k with
  | _ => .int
theorem nmJ10 : ∀ a, a < 0 → ∀ b, b < 0 → a ≠ b → (TJ10 a).2.1 ≠ (TJ10 b).2.1 := by decide +kernel
theorem tyJ10_ok : ∀ k, k < 0 → parseFieldDescriptor (TJ10 k).2.2.1 = some (tyJ10 k) := by decide +kernel
def RJ3 : String := "jdk/internal/util/Preconditions"
def TJ3 : u_T := fun k => match k with
  | _ => ("", "", "", false)
def tyJ3 : Nat → FieldType := fun k => match k with
  | _ => .int
theorem nmJ3 : ∀ a, a < 0 → ∀ b, b < 0 → a ≠ b → (TJ3 a).2.1 ≠ (TJ3 b).2.1 := by decide +kernel
theorem tyJ3_ok : ∀ k, k < 0 → parseFieldDescriptor (TJ3 k).2.2.1 = some (tyJ3 k) := by decide +kernel
abbrev cJ3_checkIndex_8e157 : ByteArray := prog_21_method_11_code
def yJ3_checkIndex_8e157 : MethodName := ⟨RJ3, "checkIndex", "(IILjava/util/function/BiFunction;)I"⟩
theorem dX0_init_7 : decode cX0_init 7 = .ok (.newarray .int, 2) := by decide +kernel
theorem dX1_init_7 : decode cX1_init 7 = .ok (.newarray .int, 2) := by decide +kernel
theorem dX1_init_15 : decode cX1_init 15 = .ok (.newarray .int, 2) := by decide +kernel
theorem dX1_init_23 : decode cX1_init 23 = .ok (.newarray .int, 2) := by decide +kernel
theorem dX2_init_7 : decode cX2_init 7 = .ok (.newarray .int, 2) := by decide +kernel
theorem dX3_init_8 : decode cX3_init 8 = .ok (.newarray .int, 2) := by decide +kernel
theorem dX3_init_16 : decode cX3_init 16 = .ok (.newarray .int, 2) := by decide +kernel
theorem dX3_init_24 : decode cX3_init 24 = .ok (.newarray .int, 2) := by decide +kernel
theorem dX4_init_8 : decode cX4_init 8 = .ok (.newarray .int, 2) := by decide +kernel
theorem dX6_init_109 : decode cX6_init 109 = .ok (.newarray .boolean, 2) := by decide +kernel
theorem dX6_init_175 : decode cX6_init 175 = .ok (.newarray .int, 2) := by decide +kernel
theorem dX6_init_183 : decode cX6_init 183 = .ok (.newarray .int, 2) := by decide +kernel
theorem dX6_init_191 : decode cX6_init 191 = .ok (.newarray .int, 2) := by decide +kernel
theorem dX6_count_8 : decode cX6_count 8 = .ok (.tableswitch 49 0 2 #[28, 36, 44], 28) := by decide +kernel
theorem dX6_kept_32 : decode cX6_kept 32 = .ok (.lookupswitch 38 #[(0, 28), (1, 33)], 28) := by decide +kernel
theorem dX6_combined_1 : decode cX6_combined 1 = .ok (.tableswitch 39 0 2 #[27, 31, 35], 27) := by decide +kernel
theorem dX7_init_8 : decode cX7_init 8 = .ok (.newarray .long, 2) := by decide +kernel
theorem dX7_init_17 : decode cX7_init 17 = .ok (.newarray .long, 2) := by decide +kernel
theorem dX7_init_26 : decode cX7_init 26 = .ok (.newarray .long, 2) := by decide +kernel
theorem dX7_init_35 : decode cX7_init 35 = .ok (.newarray .long, 2) := by decide +kernel
theorem dX7_init_42 : decode cX7_init 42 = .ok (.newarray .boolean, 2) := by decide +kernel
theorem dX7_init_51 : decode cX7_init 51 = .ok (.newarray .byte, 2) := by decide +kernel
theorem dX7_init_64 : decode cX7_init 64 = .ok (.newarray .long, 2) := by decide +kernel
theorem dX7_init_72 : decode cX7_init 72 = .ok (.newarray .long, 2) := by decide +kernel
theorem dX7_init_80 : decode cX7_init 80 = .ok (.newarray .long, 2) := by decide +kernel
theorem dX7_init_88 : decode cX7_init 88 = .ok (.newarray .int, 2) := by decide +kernel
theorem dX7_init_96 : decode cX7_init 96 = .ok (.newarray .long, 2) := by decide +kernel
theorem dX7_init_104 : decode cX7_init 104 = .ok (.newarray .int, 2) := by decide +kernel
theorem dX7_init_112 : decode cX7_init 112 = .ok (.newarray .byte, 2) := by decide +kernel
theorem dX7_filled_5 : decode cX7_filled 5 = .ok (.tableswitch 50 0 2 #[27, 29, 35], 27) := by decide +kernel
theorem dX7_combined_2 : decode cX7_combined 2 = .ok (.tableswitch 38 0 2 #[26, 30, 34], 26) := by decide +kernel
abbrev vwCl : List vw_C := [(RX0, TX0, 2), (RX1, TX1, 4), (RX2, TX2, 5), (RX3, TX3, 8), (RX4, TX4, 7), (RX5, TX5, 5), (RX6, TX6, 15), (RX7, TX7, 25)]
end
-- 011.exc
section
section VXIA
variable {p : Program} {l : Launch} {e : Env} {R : Room} {s : State} {m : MethodId} {args : Array Value} {below : List Frame} {meth : Method} {c : Code} {T : State} {locs : List Loc} {cells slots : Nat}
theorem vx_callI (X : Stand p l e R s m args below meth c T locs cells slots) (hexec : p.tables.exec = Jvm.exec) {own : String} {index : Nat} {y : MethodName} {bytes : ByteArray} {maxL : Nat}
    (hown : s.vm.findClass own = some m.cls) (hy1 : y.name = "<init>") (hlink : (Cond.methodLink own index y).before args s = true) (hinst : (Cond.instanceMethod y).before args s = true)
    (hcode : (Cond.code y bytes maxL none).before args s = true) (hy : y.cls ≠ "java/lang/invoke/MethodHandle" ∧ y.cls ≠ "java/lang/invoke/VarHandle")
    {W9 : Nat} {Pre : Pt → Array Value → Prop} {Post : Pt → Array Value → Option Value → Pt → Prop} {PostX : Pt → Array Value → Addr → Pt → Prop} (hK : vx_Back l R p e below s args y 3 W9 Pre Post PostX)
    {g : JFrame} (hg : g.method = m) (hsize : g.locals.size = c.maxLocals) {a : Addr} {argsL rest : List Value} (hlen : ∀ sig, parseMethodDescriptor y.desc = some sig → argsL.length = sig.parameters.length)
    (hstack : g.stack = argsL.reverse ++ .ref a :: rest) (hW : 2 * g.monitorRoom + (rest.map fun v => v.category).sum ≤ W9) (hdg : decode c.code g.pc = .ok (.invokespecial index, 3))
    (hpre : ∀ vm₁, s.WarmedH vm₁ → Pre ⟨T.setVm vm₁, locs, cells, slots⟩ (Value.ref a :: argsL).toArray) :
    (∃ (v : Option Value) (vm₁ : Vm) (B : Pt), s.WarmedH vm₁ ∧ Stand p l e R s m args below meth c B.U B.locs B.cells B.slots ∧ Post ⟨T.setVm vm₁, locs, cells, slots⟩ (Value.ref a :: argsL).toArray v B ∧
      ∀ target, Steps p.tables e below (B.U.setTop { g with pc := g.pc + 3, stack := v.toList ++ rest }) target → Steps p.tables e below (T.setTop g) target) ∨
    (∃ (q : Addr) (vm₁ : Vm) (B : Pt), s.WarmedH vm₁ ∧ Stand p l e R s m args below meth c B.U B.locs B.cells B.slots ∧ PostX ⟨T.setVm vm₁, locs, cells, slots⟩ (Value.ref a :: argsL).toArray q B ∧
      Steps p.tables e below (T.setTop g) ((B.U.setTop { g with stack := rest }).pushFrame (.throwing q))) := by
  subst hg
  have hpl : e.platform.magicAccessors = ({} : Platform).magicAccessors := by rw [X.admits.platform]
  obtain ⟨mk, methM, cM, kP, vm₁, hnamed, hmethM, hcodeM, -, hlocalsM, -, hkP, -, hW₁, hstep₁⟩ := Steps.initColdArgs (e := e) X.here hexec X.warmed hpl hown hy1 hy hlink hinst hcode (f := g) rfl hlen hstack hdg
  have X₁ := X.noted hW₁
  rcases hK g.method meth c ⟨T.setVm vm₁, locs, cells, slots⟩ { g with stack := rest } (.invokespecial index) mk (Value.ref a :: argsL).toArray X₁ rfl hsize hdg hW (X₁.named hnamed) (hpre vm₁ X₁.warmed) with ⟨v, B, X', hpost, hsteps⟩ | ⟨q, B, X', hpost, hsteps⟩
  · exact Or.inl ⟨v, vm₁, B, X₁.warmed, X', hpost, fun target h => hstep₁ _ fun acts => by rw [doInvoke_state]; exact hsteps.trans h⟩
  · exact Or.inr ⟨q, vm₁, B, X₁.warmed, X', hpost, hstep₁ _ fun acts => by rw [doInvoke_state]; exact hsteps⟩
end VXIA
section VXIB
variable {p : Program} {l : Launch} {e : Env} {R : Room} {s : State} {m : MethodId} {args : Array Value} {below : List Frame} {meth : Method} {c : Code} {H : Heap} {locs : List Loc} {cells slots : Nat}
variable {y : MethodName} {bytes cc : ByteArray} {maxL nL mc ms n index : Nat} {ret : Option FieldType} {ws : List Cond} {rm : Room} {Pc : Array Value → State → Prop} {Qc : Array Value → State → Outcome → State → Prop} {XC : String → State → State → Prop} {free : Addr → Prop} {Ts : List Cond} {own C : String} {b : Addr} {As rest : List Value} {g : JFrame}
theorem vx_runI (S : CallFix p m c cc nL s args Ts own) (hM : vx_Met l y ws rm Pc Qc XC mc ms free) (cw : CallB R s args own index y bytes maxL none ws rm mc ms n ∧ y.name = "<init>" ∧ (Cond.instanceMethod y).before args s = true) (hp : PreS s H Pc (.ref b :: As))
    (hg : g.method = m) (hn : As.length = n) (hsize : g.locals.size = nL) (hstack : g.stack = As.reverse ++ .ref b :: rest) (hW : 2 * g.monitorRoom + (rest.map fun v => v.category).sum ≤ 8) (hdg : decode cc g.pc = .ok (.invokespecial index, 3)) (hf : cells + mc ≤ R.cells ∧ slots + ms ≤ R.slots) :
    vx_Run p l e R s m args below meth c H locs cells slots mc ms g rest (Qc (Value.ref b :: As).toArray) XC free := by
  have hK : vx_Back l R p e below s args y 3 8 (PreOf R mc ms Pc) (PostOf Qc mc ms free) (vx_Post XC mc ms free) := vx_callBack cw.1 hM hp.1
  obtain ⟨⟨-, -, -, -, -, -, hcode, -, hy, hlen, hl⟩, hy1, hin⟩ := cw
  obtain ⟨hx, hb, hml, ho, -⟩ := S
  have hPc := hp.2
  intro T hT X
  rcases vx_callI X hx (bytes := bytes) (maxL := maxL) ho hy1 hl hin hcode hy hK hg (hsize.trans hml.symm) (a := b) (argsL := As) (rest := rest) (fun sig h => hn.trans (hlen sig h)) hstack hW (by rw [hb]; exact hdg)
    (fun vm₁ hW₁ => ⟨hf.1, hf.2, hPc (T.setVm vm₁) hT hW₁⟩) with ⟨v, vm₁, ⟨U', l2, c2, s2⟩, hW₁, X', ⟨g', mk, t, L, e1, e2, hq, h1, hL, h2, h3⟩, st⟩ | ⟨q, vm₁, ⟨U', l2, c2, s2⟩, hW₁, X', ⟨g', mk, t, L, E, ce, e1, e2, hq, hce, hcv, hcl, h1, hL, h2, h3⟩, st⟩
  · dsimp only [Pt.U, Pt.locs, Pt.cells, Pt.slots] at X' e1 e2 h1 h2 h3 st
    subst h1; subst h2; subst h3
    exact Or.inl ⟨v, (T.setVm vm₁).calling g' mk (Value.ref b :: As).toArray, t, U', L, hT, X', hL, e1, e2, hq, st⟩
  · dsimp only [Pt.U, Pt.locs, Pt.cells, Pt.slots] at X' e1 e2 h1 h2 h3 st hcl
    subst h1; subst h2; subst h3
    exact Or.inr ⟨q, (T.setVm vm₁).calling g' mk (Value.ref b :: As).toArray, t, U', L, E, ce, hT, X', hL, e1, e2, hq, hce, hcv, vx_cls hW₁ hcl, st⟩
end VXIB
section
variable {p : Program} {l : Launch} {e : Env} {R : Room} {s : State} {m : MethodId} {args : Array Value} {below : List Frame} {meth : Method} {c : Code} {H : Heap} {locs : List Loc} {cells slots : Nat}
variable {T : State}
theorem vx_callVN (X : Stand p l e R s m args below meth c T locs cells slots) (hexec : p.tables.exec = Jvm.exec) {own C : String} {index : Nat} {host : String} {y : MethodName} {bytes : ByteArray} {maxL : Nat} {ret : Option FieldType}
    (hown : s.vm.findClass own = some m.cls) (hlink : (Cond.methodLinkNest own index y host).before args s = true) (hinst : (Cond.instanceMethod y).before args s = true) (hsel : (Cond.selects C y y).before args s = true)
    (hcode : (Cond.code y bytes maxL ret).before args s = true) (hy : y.cls ≠ "java/lang/invoke/MethodHandle" ∧ y.cls ≠ "java/lang/invoke/VarHandle")
    {W : Nat} {Pre : Pt → Array Value → Prop} {Post : Pt → Array Value → Option Value → Pt → Prop} {PostX : Pt → Array Value → Addr → Pt → Prop} (hK : vx_Back l R p e below s args y 3 W Pre Post PostX)
    {b : Addr} {cellB : Cell} (hcell : T.heap[b]? = some cellB) (hobj : cellB.vm.isStatics = false) (hcls : s.vm.findClass C = some cellB.cls)
    {g : JFrame} (hg : g.method = m) (hsize : g.locals.size = c.maxLocals) {argsL rest : List Value} (hlen : ∀ sig, parseMethodDescriptor y.desc = some sig → argsL.length = sig.parameters.length)
    (hstack : g.stack = argsL.reverse ++ .ref b :: rest) (hW : 2 * g.monitorRoom + (rest.map fun v => v.category).sum ≤ W) (hdg : decode c.code g.pc = .ok (.invokevirtual index, 3))
    (hpre : ∀ vm₁, s.WarmedH vm₁ → Pre ⟨T.setVm vm₁, locs, cells, slots⟩ (Value.ref b :: argsL).toArray) :
    (∃ (v : Option Value) (vm₁ : Vm) (B : Pt), s.WarmedH vm₁ ∧ Stand p l e R s m args below meth c B.U B.locs B.cells B.slots ∧ Post ⟨T.setVm vm₁, locs, cells, slots⟩ (Value.ref b :: argsL).toArray v B ∧
      ∀ target, Steps p.tables e below (B.U.setTop { g with pc := g.pc + 3, stack := v.toList ++ rest }) target → Steps p.tables e below (T.setTop g) target) ∨
    (∃ (q : Addr) (vm₁ : Vm) (B : Pt), s.WarmedH vm₁ ∧ Stand p l e R s m args below meth c B.U B.locs B.cells B.slots ∧ PostX ⟨T.setVm vm₁, locs, cells, slots⟩ (Value.ref b :: argsL).toArray q B ∧
      Steps p.tables e below (T.setTop g) ((B.U.setTop { g with stack := rest }).pushFrame (.throwing q))) := by
  obtain ⟨mk, methM, hnamed, hmethM, hstM, habM⟩ := Cond.instanceMethod_spec hinst
  obtain ⟨methM', cM, hmethM', -, -, -, -, -, -, hsigM⟩ := Cond.code_spec hnamed hcode
  cases hmethM.symm.trans hmethM'
  obtain ⟨c2, r2, m2, q1, q2, q3, q4, kP, hkP, hkPi⟩ := Cond.selects_spec hsel
  cases hcls.symm.trans q1
  cases (State.methodFound?_of_named hnamed hy).symm.trans q2
  cases hnamed.symm.trans q3
  have hselP : selectMethod e.platform s.vm cellB.cls mk = .method mk := by rw [Launch.admits_selectMethod X.admits]; exact q4
  obtain ⟨vm₁, X₁, hstep₁⟩ := X.invokevirtualNest hexec hown hlink hnamed hmethM hstM hkP hkPi hy (a := b) (cell := cellB) hcell
    (fun z h => by rw [h] at hobj; cases hobj) hselP hmethM habM hkP hkPi (g := g) hg (argsL := argsL) (rest := rest) (hlen _ hsigM) hstack hdg
  rcases hK m meth c ⟨T.setVm vm₁, locs, cells, slots⟩ { g with stack := rest } (.invokevirtual index) mk (Value.ref b :: argsL).toArray X₁ hg hsize hdg hW (X₁.named hnamed) (hpre vm₁ X₁.warmed) with ⟨v, B, X', hpost, hsteps⟩ | ⟨q, B, X', hpost, hsteps⟩
  · exact Or.inl ⟨v, vm₁, B, X₁.warmed, X', hpost, fun target h => hstep₁ _ fun acts => by rw [doInvoke_state]; exact hsteps.trans h⟩
  · exact Or.inr ⟨q, vm₁, B, X₁.warmed, X', hpost, hstep₁ _ fun acts => by rw [doInvoke_state]; exact hsteps⟩
theorem vx_callSN (X : Stand p l e R s m args below meth c T locs cells slots) (hexec : p.tables.exec = Jvm.exec) {own : String} {index : Nat} {host : String} {y : MethodName} {bytes : ByteArray} {maxL : Nat} {ret : Option FieldType}
    (hown : s.vm.findClass own = some m.cls) (hlink : (Cond.methodLinkNest own index y host).before args s = true) (hstat : (Cond.static y).before args s = true) (hinit : (Cond.initialized y.cls).before args s = true)
    (hcode : (Cond.code y bytes maxL ret).before args s = true) (hy : y.cls ≠ "java/lang/invoke/MethodHandle" ∧ y.cls ≠ "java/lang/invoke/VarHandle")
    {W : Nat} {Pre : Pt → Array Value → Prop} {Post : Pt → Array Value → Option Value → Pt → Prop} {PostX : Pt → Array Value → Addr → Pt → Prop} (hK : vx_Back l R p e below s args y 3 W Pre Post PostX)
    {g : JFrame} (hg : g.method = m) (hsize : g.locals.size = c.maxLocals) {argsL rest : List Value} (hlen : ∀ sig, parseMethodDescriptor y.desc = some sig → argsL.length = sig.parameters.length)
    (hstack : g.stack = argsL.reverse ++ rest) (hW : 2 * g.monitorRoom + (rest.map fun v => v.category).sum ≤ W) (hdg : decode c.code g.pc = .ok (.invokestatic index, 3))
    (hpre : ∀ vm₁, s.WarmedH vm₁ → Pre ⟨T.setVm vm₁, locs, cells, slots⟩ argsL.toArray) :
    (∃ (v : Option Value) (vm₁ : Vm) (B : Pt), s.WarmedH vm₁ ∧ Stand p l e R s m args below meth c B.U B.locs B.cells B.slots ∧ Post ⟨T.setVm vm₁, locs, cells, slots⟩ argsL.toArray v B ∧
      ∀ target, Steps p.tables e below (B.U.setTop { g with pc := g.pc + 3, stack := v.toList ++ rest }) target → Steps p.tables e below (T.setTop g) target) ∨
    (∃ (q : Addr) (vm₁ : Vm) (B : Pt), s.WarmedH vm₁ ∧ Stand p l e R s m args below meth c B.U B.locs B.cells B.slots ∧ PostX ⟨T.setVm vm₁, locs, cells, slots⟩ argsL.toArray q B ∧
      Steps p.tables e below (T.setTop g) ((B.U.setTop { g with stack := rest }).pushFrame (.throwing q))) := by
  obtain ⟨mk, hnamed⟩ := Cond.code_named hcode
  obtain ⟨methM, cM, hmethM, -, -, -, -, -, -, hsigM⟩ := Cond.code_spec hnamed hcode
  have hstatic : methM.isStatic = true := Cond.static_spec hnamed hmethM hstat
  obtain ⟨kP, hkP, -⟩ := className_of_methodNamed hnamed
  have hinitP : kP.init = .initialized := Cond.initialized_spec (findClass_of_methodNamed hnamed) hkP hinit
  obtain ⟨vm₁, X₁, hstep₁⟩ := X.invokestaticNest hexec hown hlink hnamed hmethM hstatic hkP hinitP hy (g := g) hg (argsL := argsL) (rest := rest) (hlen _ hsigM) hstack hdg
  rcases hK m meth c ⟨T.setVm vm₁, locs, cells, slots⟩ { g with stack := rest } (.invokestatic index) mk argsL.toArray X₁ hg hsize hdg hW (X₁.named hnamed) (hpre vm₁ X₁.warmed) with ⟨v, B, X', hpost, hsteps⟩ | ⟨q, B, X', hpost, hsteps⟩
  · exact Or.inl ⟨v, vm₁, B, X₁.warmed, X', hpost, fun target h => hstep₁ _ fun acts => by rw [doInvoke_state]; exact hsteps.trans h⟩
  · exact Or.inr ⟨q, vm₁, B, X₁.warmed, X', hpost, hstep₁ _ fun acts => by rw [doInvoke_state]; exact hsteps⟩
theorem vx_runVN {y : MethodName} {bytes cc : ByteArray} {maxL nL mc ms n index : Nat} {ret : Option FieldType} {ws : List Cond} {rm : Room} {Pc : Array Value → State → Prop} {Qc : Array Value → State → Outcome → State → Prop} {XC : String → State → State → Prop} {free : Addr → Prop} {Ts : List Cond} {own C host : String} {b : Addr} {As rest : List Value} {g : JFrame}
    (S : CallFix p m c cc nL s args Ts own) (hM : vx_Met l y ws rm Pc Qc XC mc ms free) (cw : va_CN R s args own index y host bytes maxL ret ws rm mc ms n ∧ (Cond.instanceMethod y).before args s = true ∧ (Cond.selects C y y).before args s = true) (hp : PreV s H C b Pc As)
    (hg : g.method = m) (hn : As.length = n) (hsize : g.locals.size = nL) (hstack : g.stack = As.reverse ++ .ref b :: rest) (hW : 2 * g.monitorRoom + (rest.map fun v => v.category).sum ≤ 8) (hdg : decode cc g.pc = .ok (.invokevirtual index, 3)) (hf : cells + mc ≤ R.cells ∧ slots + ms ≤ R.slots) :
    vx_Run p l e R s m args below meth c H locs cells slots mc ms g rest (Qc (Value.ref b :: As).toArray) XC free := by
  obtain ⟨⟨⟨hrc, hrs, hfr, hlo, hws, hcw⟩, hcode, hini, hy, hlen, hl⟩, hx1, hx2⟩ := cw
  have hK : vx_Back l R p e below s args y 3 8 (PreOf R mc ms Pc) (PostOf Qc mc ms free) (vx_Post XC mc ms free) := vx_back (bytes := bytes) (maxL := maxL) (ret := ret) hM hp.1 hrc hrs hfr hlo hws hcw (fun a' U hW => word_at hW (Or.inl (by first | rfl | simp [Cond.onTables, Cond.keeps, Cond.steady])) hini)
  obtain ⟨hx, hb, hml, ho, -⟩ := S
  obtain ⟨-, ⟨cellB, hcB, hoB, hclB⟩, hPc⟩ := hp
  intro T hT X
  rcases vx_callVN X hx (C := C) (bytes := bytes) (maxL := maxL) (ret := ret) ho hl hx1 hx2 hcode hy hK (by rw [hT]; exact hcB) hoB hclB hg (hsize.trans hml.symm) (argsL := As) (rest := rest) (fun sig h => hn.trans (hlen sig h)) hstack hW (by rw [hb]; exact hdg)
    (fun vm₁ hW₁ => ⟨hf.1, hf.2, hPc (T.setVm vm₁) hT hW₁⟩) with ⟨v, vm₁, ⟨U', l2, c2, s2⟩, hW₁, X', ⟨g', mk, t, L, e1, e2, hq, h1, hL, h2, h3⟩, st⟩ | ⟨q, vm₁, ⟨U', l2, c2, s2⟩, hW₁, X', ⟨g', mk, t, L, E, ce, e1, e2, hq, hce, hcv, hcl, h1, hL, h2, h3⟩, st⟩
  · dsimp only [Pt.U, Pt.locs, Pt.cells, Pt.slots] at X' e1 e2 h1 h2 h3 st
    subst h1; subst h2; subst h3
    exact Or.inl ⟨v, (T.setVm vm₁).calling g' mk (Value.ref b :: As).toArray, t, U', L, hT, X', hL, e1, e2, hq, st⟩
  · dsimp only [Pt.U, Pt.locs, Pt.cells, Pt.slots] at X' e1 e2 h1 h2 h3 st hcl
    subst h1; subst h2; subst h3
    exact Or.inr ⟨q, (T.setVm vm₁).calling g' mk (Value.ref b :: As).toArray, t, U', L, E, ce, hT, X', hL, e1, e2, hq, hce, hcv, vx_cls hW₁ hcl, st⟩
theorem vx_runSN {y : MethodName} {bytes cc : ByteArray} {maxL nL mc ms n index : Nat} {ret : Option FieldType} {ws : List Cond} {rm : Room} {Pc : Array Value → State → Prop} {Qc : Array Value → State → Outcome → State → Prop} {XC : String → State → State → Prop} {free : Addr → Prop} {Ts : List Cond} {own host : String} {As rest : List Value} {g : JFrame}
    (S : CallFix p m c cc nL s args Ts own) (hM : vx_Met l y ws rm Pc Qc XC mc ms free) (cw : va_CN R s args own index y host bytes maxL ret ws rm mc ms n ∧ (Cond.static y).before args s = true ∧ True) (hp : PreS s H Pc As)
    (hg : g.method = m) (hn : As.length = n) (hsize : g.locals.size = nL) (hstack : g.stack = As.reverse ++ rest) (hW : 2 * g.monitorRoom + (rest.map fun v => v.category).sum ≤ 8) (hdg : decode cc g.pc = .ok (.invokestatic index, 3)) (hf : cells + mc ≤ R.cells ∧ slots + ms ≤ R.slots) :
    vx_Run p l e R s m args below meth c H locs cells slots mc ms g rest (Qc As.toArray) XC free := by
  obtain ⟨⟨⟨hrc, hrs, hfr, hlo, hws, hcw⟩, hcode, hini, hy, hlen, hl⟩, hx1, hx2⟩ := cw
  have hK : vx_Back l R p e below s args y 3 8 (PreOf R mc ms Pc) (PostOf Qc mc ms free) (vx_Post XC mc ms free) := vx_back (bytes := bytes) (maxL := maxL) (ret := ret) hM hp.1 hrc hrs hfr hlo hws hcw (fun a' U hW => word_at hW (Or.inl (by first | rfl | simp [Cond.onTables, Cond.keeps, Cond.steady])) hini)
  obtain ⟨hx, hb, hml, ho, -⟩ := S
  have hPc := hp.2
  intro T hT X
  rcases vx_callSN X hx (bytes := bytes) (maxL := maxL) (ret := ret) ho hl hx1 hini hcode hy hK hg (hsize.trans hml.symm) (argsL := As) (rest := rest) (fun sig h => hn.trans (hlen sig h)) hstack hW (by rw [hb]; exact hdg)
    (fun vm₁ hW₁ => ⟨hf.1, hf.2, hPc (T.setVm vm₁) hT hW₁⟩) with ⟨v, vm₁, ⟨U', l2, c2, s2⟩, hW₁, X', ⟨g', mk, t, L, e1, e2, hq, h1, hL, h2, h3⟩, st⟩ | ⟨q, vm₁, ⟨U', l2, c2, s2⟩, hW₁, X', ⟨g', mk, t, L, E, ce, e1, e2, hq, hce, hcv, hcl, h1, hL, h2, h3⟩, st⟩
  · dsimp only [Pt.U, Pt.locs, Pt.cells, Pt.slots] at X' e1 e2 h1 h2 h3 st
    subst h1; subst h2; subst h3
    exact Or.inl ⟨v, (T.setVm vm₁).calling g' mk As.toArray, t, U', L, hT, X', hL, e1, e2, hq, st⟩
  · dsimp only [Pt.U, Pt.locs, Pt.cells, Pt.slots] at X' e1 e2 h1 h2 h3 st hcl
    subst h1; subst h2; subst h3
    exact Or.inr ⟨q, (T.setVm vm₁).calling g' mk As.toArray, t, U', L, E, ce, hT, X', hL, e1, e2, hq, hce, hcv, vx_cls hW₁ hcl, st⟩
end
end
-- 012.win
section
/-! decoding by bytes -/
theorem u1_eq (c : ByteArray) (p : Nat) : (Jvm.ClassFile.Reader.u1 : Jvm.ClassFile.Decoder Nat) c p = match c.data.toList[p]? with
    | some b => .ok (b.toNat, p + 1)
    | none => .error (.truncated p) := by
  by_cases h : p < c.size
  · have e : c.data.toList[p]? = some c[p] := by
      rw [Array.getElem?_toList]
      exact Array.getElem?_eq_getElem h
    rw [e]
    show (dite (p < c.size) (fun h => _) (fun _ => _) : Jvm.ClassFile.Decoder Nat) c p = _
    rw [dif_pos h]
    rfl
  · have e : c.data.toList[p]? = none := by
      rw [Array.getElem?_toList]
      exact Array.getElem?_eq_none (Nat.not_lt.mp h)
    rw [e]
    show (dite (p < c.size) (fun h => _) (fun _ => _) : Jvm.ClassFile.Decoder Nat) c p = _
    rw [dif_neg h]
    rfl
/-- these bytes stand there -/
def Pc9 (c : ByteArray) (pc : Nat) (w : List UInt8) : Prop := ((c.data.toList.drop pc).take w.length) = w
theorem drp9 {L c r : List UInt8} {a : Nat} (b : Nat) (h : L.drop a = c ++ r) (hl : c.length = b) : L.drop (a + b) = r := by rw [← List.drop_drop, h, List.drop_left' hl]
theorem pc9 {c : ByteArray} {T l : List UInt8} {k j : Nat} (hD : c.data.toList.drop k = T) (h : (T.drop j).take l.length = l) : Pc9 c (k + j) l := by unfold Pc9; rw [← List.drop_drop, hD, h]
section
variable {c : ByteArray} {pc p : Nat}
theorem pc_at {l : List UInt8} {b : UInt8} (h : Pc9 c pc l) (i : Nat) (h2 : l[i]? = some b) : c.data.toList[pc + i]? = some b := by
  have h4 := h
  unfold Pc9 at h4
  rw [← h4, List.getElem?_take, List.getElem?_drop] at h2
  split at h2
  · exact h2
  · cases h2
theorem o_start {op n len : Nat} {b : UInt8} {ins : Jvm.ClassFile.Instr} {f : Nat → Jvm.ClassFile.Decoder Jvm.ClassFile.Instr} (hf : Jvm.ClassFile.Decoder.instr pc = (Jvm.ClassFile.Reader.u1 >>= f)) (h : c.data.toList[pc]? = some b) (e : b.toNat = op) (hr : f op c (pc + 1) = .ok (ins, n)) (hn : n = pc + len) : decode c pc = .ok (ins, len) := by
  have h1 : (Jvm.ClassFile.Decoder.instr pc) c pc = .ok (ins, n) := by
    rw [hf]
    show Except.bind ((Jvm.ClassFile.Reader.u1 : Jvm.ClassFile.Decoder Nat) c pc) _ = _
    rw [u1_eq, h]
    show f b.toNat c (pc + 1) = _
    rw [e]
    exact hr
  unfold decode
  show Except.bind ((Jvm.ClassFile.Decoder.instr pc) c pc) _ = _
  rw [h1, hn]
  show Except.ok (ins, pc + len - pc) = _
  rw [Nat.add_sub_cancel_left]
theorem by_1 {a : UInt8} (ha : c.data.toList[p]? = some a) : (Jvm.ClassFile.Reader.u1 : Jvm.ClassFile.Decoder Nat) c p = .ok (a.toNat, p + 1) := by rw [u1_eq, ha]
theorem by_2 {a b : UInt8} (ha : c.data.toList[p]? = some a) (hb9 : c.data.toList[p + 1]? = some b) : (Jvm.ClassFile.Reader.u2 : Jvm.ClassFile.Decoder Nat) c p = .ok (a.toNat * 256 + b.toNat, p + 2) := by
  show Except.bind ((Jvm.ClassFile.Reader.u1 : Jvm.ClassFile.Decoder Nat) c p) _ = _
  rw [by_1 ha]
  show Except.bind ((Jvm.ClassFile.Reader.u1 : Jvm.ClassFile.Decoder Nat) c (p + 1)) _ = _
  rw [by_1 hb9]
  rfl
theorem k_u1 {g : Nat → Jvm.ClassFile.Instr} {a : UInt8} {v : Nat} (ha : c.data.toList[p]? = some a) (e : a.toNat = v) : (Jvm.ClassFile.Reader.u1 >>= fun x => pure (g x) : Jvm.ClassFile.Decoder Jvm.ClassFile.Instr) c p = .ok (g v, p + 1) := by
  show Except.bind ((Jvm.ClassFile.Reader.u1 : Jvm.ClassFile.Decoder Nat) c p) _ = _
  rw [by_1 ha, e]
  rfl
theorem k_u2 {g : Nat → Jvm.ClassFile.Instr} {a b : UInt8} {v : Nat} (ha : c.data.toList[p]? = some a) (hb9 : c.data.toList[p + 1]? = some b) (e : a.toNat * 256 + b.toNat = v) : (Jvm.ClassFile.Reader.u2 >>= fun x => pure (g x) : Jvm.ClassFile.Decoder Jvm.ClassFile.Instr) c p = .ok (g v, p + 2) := by
  show Except.bind ((Jvm.ClassFile.Reader.u2 : Jvm.ClassFile.Decoder Nat) c p) _ = _
  rw [by_2 ha hb9, e]
  rfl
theorem by_s1 {a : UInt8} (ha : c.data.toList[p]? = some a) : (Jvm.ClassFile.Reader.s1 : Jvm.ClassFile.Decoder Int) c p = .ok (Jvm.ClassFile.Reader.signed 8 a.toNat, p + 1) := by
  show Except.map _ ((Jvm.ClassFile.Reader.u1 : Jvm.ClassFile.Decoder Nat) c p) = _
  rw [by_1 ha]
  rfl
theorem by_s2 {a b : UInt8} (ha : c.data.toList[p]? = some a) (hb9 : c.data.toList[p + 1]? = some b) : (Jvm.ClassFile.Reader.s2 : Jvm.ClassFile.Decoder Int) c p = .ok (Jvm.ClassFile.Reader.signed 16 (a.toNat * 256 + b.toNat), p + 2) := by
  show Except.map _ ((Jvm.ClassFile.Reader.u2 : Jvm.ClassFile.Decoder Nat) c p) = _
  rw [by_2 ha hb9]
  rfl
theorem k_s1 {g : Int → Jvm.ClassFile.Instr} {a : UInt8} {v : Int} (ha : c.data.toList[p]? = some a) (e : Jvm.ClassFile.Reader.signed 8 a.toNat = v) : (Jvm.ClassFile.Reader.s1 >>= fun x => pure (g x) : Jvm.ClassFile.Decoder Jvm.ClassFile.Instr) c p = .ok (g v, p + 1) := by
  show Except.bind ((Jvm.ClassFile.Reader.s1 : Jvm.ClassFile.Decoder Int) c p) _ = _
  rw [by_s1 ha, e]
  rfl
theorem k_s2 {g : Int → Jvm.ClassFile.Instr} {a b : UInt8} {v : Int} (ha : c.data.toList[p]? = some a) (hb9 : c.data.toList[p + 1]? = some b) (e : Jvm.ClassFile.Reader.signed 16 (a.toNat * 256 + b.toNat) = v) : (Jvm.ClassFile.Reader.s2 >>= fun x => pure (g x) : Jvm.ClassFile.Decoder Jvm.ClassFile.Instr) c p = .ok (g v, p + 2) := by
  show Except.bind ((Jvm.ClassFile.Reader.s2 : Jvm.ClassFile.Decoder Int) c p) _ = _
  rw [by_s2 ha hb9, e]
  rfl
theorem k_us {g : Nat → Int → Jvm.ClassFile.Instr} {a b : UInt8} {v : Nat} {w : Int} (ha : c.data.toList[p]? = some a) (hb9 : c.data.toList[p + 1]? = some b) (e : a.toNat = v) (e2 : Jvm.ClassFile.Reader.signed 8 b.toNat = w) : (Jvm.ClassFile.Reader.u1 >>= fun x => Jvm.ClassFile.Reader.s1 >>= fun y => pure (g x y) : Jvm.ClassFile.Decoder Jvm.ClassFile.Instr) c p = .ok (g v w, p + 2) := by
  show Except.bind ((Jvm.ClassFile.Reader.u1 : Jvm.ClassFile.Decoder Nat) c p) _ = _
  rw [by_1 ha, e]
  show Except.bind ((Jvm.ClassFile.Reader.s1 : Jvm.ClassFile.Decoder Int) c (p + 1)) _ = _
  rw [by_s1 hb9, e2]
  rfl
theorem op_42 (h : Pc9 c pc [42]) : decode c pc = .ok (.aload_n 0, 1) := o_start (op := 42) (f := _) rfl (pc_at h 0 rfl) rfl rfl rfl
theorem dw_0 (h : Pc9 c pc [42]) : decode c pc = .ok (.aload_n 0, 1) := op_42 h
theorem op_183 {a b : UInt8} {v : Nat} (h : Pc9 c pc [183, a, b]) (e : a.toNat * 256 + b.toNat = v) : decode c pc = .ok (.invokespecial v, 3) := o_start (op := 183) (f := _) rfl (pc_at h 0 rfl) rfl (k_u2 (g := fun x => .invokespecial x) (pc_at h 1 rfl) (pc_at h 2 rfl) e) rfl
theorem dw_1 (h : Pc9 c pc [183, 0, 3]) : decode c pc = .ok (.invokespecial 3, 3) := op_183 h rfl
theorem op_16 {a : UInt8} {v : Int} (h : Pc9 c pc [16, a]) (e : Jvm.ClassFile.Reader.signed 8 (a.toNat) = v) : decode c pc = .ok (.bipush v, 2) := o_start (op := 16) (f := _) rfl (pc_at h 0 rfl) rfl (k_s1 (g := fun x => .bipush x) (pc_at h 1 rfl) e) rfl
theorem dw_2 (h : Pc9 c pc [16, 32]) : decode c pc = .ok (.bipush 32, 2) := op_16 h (by decide +kernel)
theorem op_181 {a b : UInt8} {v : Nat} (h : Pc9 c pc [181, a, b]) (e : a.toNat * 256 + b.toNat = v) : decode c pc = .ok (.putfield v, 3) := o_start (op := 181) (f := _) rfl (pc_at h 0 rfl) rfl (k_u2 (g := fun x => .putfield x) (pc_at h 1 rfl) (pc_at h 2 rfl) e) rfl
theorem dw_3 (h : Pc9 c pc [181, 0, 9]) : decode c pc = .ok (.putfield 9, 3) := op_181 h rfl
theorem op_177 (h : Pc9 c pc [177]) : decode c pc = .ok (.return_, 1) := o_start (op := 177) (f := _) rfl (pc_at h 0 rfl) rfl rfl rfl
theorem dw_4 (h : Pc9 c pc [177]) : decode c pc = .ok (.return_, 1) := op_177 h
theorem op_43 (h : Pc9 c pc [43]) : decode c pc = .ok (.aload_n 1, 1) := o_start (op := 43) (f := _) rfl (pc_at h 0 rfl) rfl rfl rfl
theorem dw_5 (h : Pc9 c pc [43]) : decode c pc = .ok (.aload_n 1, 1) := op_43 h
theorem op_3 (h : Pc9 c pc [3]) : decode c pc = .ok (.iconst 0, 1) := o_start (op := 3) (f := _) rfl (pc_at h 0 rfl) rfl rfl rfl
theorem dw_6 (h : Pc9 c pc [3]) : decode c pc = .ok (.iconst 0, 1) := op_3 h
theorem op_180 {a b : UInt8} {v : Nat} (h : Pc9 c pc [180, a, b]) (e : a.toNat * 256 + b.toNat = v) : decode c pc = .ok (.getfield v, 3) := o_start (op := 180) (f := _) rfl (pc_at h 0 rfl) rfl (k_u2 (g := fun x => .getfield x) (pc_at h 1 rfl) (pc_at h 2 rfl) e) rfl
theorem dw_7 (h : Pc9 c pc [180, 0, 9]) : decode c pc = .ok (.getfield 9, 3) := op_180 h rfl
theorem op_28 (h : Pc9 c pc [28]) : decode c pc = .ok (.iload_n 2, 1) := o_start (op := 28) (f := _) rfl (pc_at h 0 rfl) rfl rfl rfl
theorem dw_8 (h : Pc9 c pc [28]) : decode c pc = .ok (.iload_n 2, 1) := op_28 h
theorem op_184 {a b : UInt8} {v : Nat} (h : Pc9 c pc [184, a, b]) (e : a.toNat * 256 + b.toNat = v) : decode c pc = .ok (.invokestatic v, 3) := o_start (op := 184) (f := _) rfl (pc_at h 0 rfl) rfl (k_u2 (g := fun x => .invokestatic x) (pc_at h 1 rfl) (pc_at h 2 rfl) e) rfl
theorem dw_9 (h : Pc9 c pc [184, 0, 15]) : decode c pc = .ok (.invokestatic 15, 3) := op_184 h rfl
theorem op_62 (h : Pc9 c pc [62]) : decode c pc = .ok (.istore_n 3, 1) := o_start (op := 62) (f := _) rfl (pc_at h 0 rfl) rfl rfl rfl
theorem dw_10 (h : Pc9 c pc [62]) : decode c pc = .ok (.istore_n 3, 1) := op_62 h
theorem op_29 (h : Pc9 c pc [29]) : decode c pc = .ok (.iload_n 3, 1) := o_start (op := 29) (f := _) rfl (pc_at h 0 rfl) rfl rfl rfl
theorem dw_11 (h : Pc9 c pc [29]) : decode c pc = .ok (.iload_n 3, 1) := op_29 h
theorem op_162 {a b : UInt8} {v : Int} (h : Pc9 c pc [162, a, b]) (e : Jvm.ClassFile.Reader.signed 16 (a.toNat * 256 + b.toNat) = v) : decode c pc = .ok (.if_icmp .ge v, 3) := o_start (op := 162) (f := _) rfl (pc_at h 0 rfl) rfl (k_s2 (g := fun x => .if_icmp .ge x) (pc_at h 1 rfl) (pc_at h 2 rfl) e) rfl
theorem dw_12 (h : Pc9 c pc [162, 0, 54]) : decode c pc = .ok (.if_icmp .ge 54, 3) := op_162 h (by decide +kernel)
theorem op_54 {a : UInt8} {v : Nat} (h : Pc9 c pc [54, a]) (e : a.toNat = v) : decode c pc = .ok (.istore v, 2) := o_start (op := 54) (f := _) rfl (pc_at h 0 rfl) rfl (k_u1 (g := fun x => .istore x) (pc_at h 1 rfl) e) rfl
theorem dw_13 (h : Pc9 c pc [54, 4]) : decode c pc = .ok (.istore 4, 2) := op_54 h rfl
theorem op_21 {a : UInt8} {v : Nat} (h : Pc9 c pc [21, a]) (e : a.toNat = v) : decode c pc = .ok (.iload v, 2) := o_start (op := 21) (f := _) rfl (pc_at h 0 rfl) rfl (k_u1 (g := fun x => .iload x) (pc_at h 1 rfl) e) rfl
theorem dw_14 (h : Pc9 c pc [21, 4]) : decode c pc = .ok (.iload 4, 2) := op_21 h rfl
theorem dw_15 (h : Pc9 c pc [162, 0, 39]) : decode c pc = .ok (.if_icmp .ge 39, 3) := op_162 h (by decide +kernel)
theorem op_46 (h : Pc9 c pc [46]) : decode c pc = .ok (.iaload, 1) := o_start (op := 46) (f := _) rfl (pc_at h 0 rfl) rfl rfl rfl
theorem dw_16 (h : Pc9 c pc [46]) : decode c pc = .ok (.iaload, 1) := op_46 h
theorem dw_17 (h : Pc9 c pc [184, 0, 21]) : decode c pc = .ok (.invokestatic 21, 3) := op_184 h rfl
theorem op_153 {a b : UInt8} {v : Int} (h : Pc9 c pc [153, a, b]) (e : Jvm.ClassFile.Reader.signed 16 (a.toNat * 256 + b.toNat) = v) : decode c pc = .ok (.ifCond .eq v, 3) := o_start (op := 153) (f := _) rfl (pc_at h 0 rfl) rfl (k_s2 (g := fun x => .ifCond .eq x) (pc_at h 1 rfl) (pc_at h 2 rfl) e) rfl
theorem dw_18 (h : Pc9 c pc [153, 0, 19]) : decode c pc = .ok (.ifCond .eq 19, 3) := op_153 h (by decide +kernel)
theorem op_92 (h : Pc9 c pc [92]) : decode c pc = .ok (.dup2, 1) := o_start (op := 92) (f := _) rfl (pc_at h 0 rfl) rfl rfl rfl
theorem dw_19 (h : Pc9 c pc [92]) : decode c pc = .ok (.dup2, 1) := op_92 h
theorem op_128 (h : Pc9 c pc [128]) : decode c pc = .ok (.ior, 1) := o_start (op := 128) (f := _) rfl (pc_at h 0 rfl) rfl rfl rfl
theorem dw_20 (h : Pc9 c pc [128]) : decode c pc = .ok (.ior, 1) := op_128 h
theorem op_79 (h : Pc9 c pc [79]) : decode c pc = .ok (.iastore, 1) := o_start (op := 79) (f := _) rfl (pc_at h 0 rfl) rfl rfl rfl
theorem dw_21 (h : Pc9 c pc [79]) : decode c pc = .ok (.iastore, 1) := op_79 h
theorem op_132 {a b : UInt8} {v : Nat} {w : Int} (h : Pc9 c pc [132, a, b]) (e : a.toNat = v) (e2 : Jvm.ClassFile.Reader.signed 8 b.toNat = w) : decode c pc = .ok (.iinc v w, 3) := o_start (op := 132) (f := _) rfl (pc_at h 0 rfl) rfl (k_us (g := fun x y => .iinc x y) (pc_at h 1 rfl) (pc_at h 2 rfl) e e2) rfl
theorem dw_22 (h : Pc9 c pc [132, 4, 1]) : decode c pc = .ok (.iinc 4 1, 3) := op_132 h rfl (by decide +kernel)
theorem op_167 {a b : UInt8} {v : Int} (h : Pc9 c pc [167, a, b]) (e : Jvm.ClassFile.Reader.signed 16 (a.toNat * 256 + b.toNat) = v) : decode c pc = .ok (.goto v, 3) := o_start (op := 167) (f := _) rfl (pc_at h 0 rfl) rfl (k_s2 (g := fun x => .goto x) (pc_at h 1 rfl) (pc_at h 2 rfl) e) rfl
theorem dw_23 (h : Pc9 c pc [167, 255, 217]) : decode c pc = .ok (.goto (-39), 3) := op_167 h (by decide +kernel)
theorem dw_24 (h : Pc9 c pc [132, 3, 1]) : decode c pc = .ok (.iinc 3 1, 3) := op_132 h rfl (by decide +kernel)
theorem dw_25 (h : Pc9 c pc [167, 255, 203]) : decode c pc = .ok (.goto (-53), 3) := op_167 h (by decide +kernel)
theorem op_4 (h : Pc9 c pc [4]) : decode c pc = .ok (.iconst 1, 1) := o_start (op := 4) (f := _) rfl (pc_at h 0 rfl) rfl rfl rfl
theorem dw_26 (h : Pc9 c pc [4]) : decode c pc = .ok (.iconst 1, 1) := op_4 h
theorem dw_27 (h : Pc9 c pc [181, 0, 25]) : decode c pc = .ok (.putfield 25, 3) := op_181 h rfl
theorem op_27 (h : Pc9 c pc [27]) : decode c pc = .ok (.iload_n 1, 1) := o_start (op := 27) (f := _) rfl (pc_at h 0 rfl) rfl rfl rfl
theorem dw_28 (h : Pc9 c pc [27]) : decode c pc = .ok (.iload_n 1, 1) := op_27 h
theorem dw_29 (h : Pc9 c pc [184, 0, 29]) : decode c pc = .ok (.invokestatic 29, 3) := op_184 h rfl
theorem op_120 (h : Pc9 c pc [120]) : decode c pc = .ok (.ishl, 1) := o_start (op := 120) (f := _) rfl (pc_at h 0 rfl) rfl rfl rfl
theorem dw_30 (h : Pc9 c pc [120]) : decode c pc = .ok (.ishl, 1) := op_120 h
theorem op_172 (h : Pc9 c pc [172]) : decode c pc = .ok (.ireturn, 1) := o_start (op := 172) (f := _) rfl (pc_at h 0 rfl) rfl rfl rfl
theorem dw_31 (h : Pc9 c pc [172]) : decode c pc = .ok (.ireturn, 1) := op_172 h
theorem op_126 (h : Pc9 c pc [126]) : decode c pc = .ok (.iand, 1) := o_start (op := 126) (f := _) rfl (pc_at h 0 rfl) rfl rfl rfl
theorem dw_32 (h : Pc9 c pc [126]) : decode c pc = .ok (.iand, 1) := op_126 h
theorem dw_33 (h : Pc9 c pc [184, 0, 33]) : decode c pc = .ok (.invokestatic 33, 3) := op_184 h rfl
theorem dw_34 (h : Pc9 c pc [54, 5]) : decode c pc = .ok (.istore 5, 2) := op_54 h rfl
theorem dw_35 (h : Pc9 c pc [54, 6]) : decode c pc = .ok (.istore 6, 2) := op_54 h rfl
theorem dw_36 (h : Pc9 c pc [21, 6]) : decode c pc = .ok (.iload 6, 2) := op_21 h rfl
theorem dw_37 (h : Pc9 c pc [162, 0, 38]) : decode c pc = .ok (.if_icmp .ge 38, 3) := op_162 h (by decide +kernel)
theorem dw_38 (h : Pc9 c pc [153, 0, 23]) : decode c pc = .ok (.ifCond .eq 23, 3) := op_153 h (by decide +kernel)
theorem dw_39 (h : Pc9 c pc [21, 5]) : decode c pc = .ok (.iload 5, 2) := op_21 h rfl
theorem op_2 (h : Pc9 c pc [2]) : decode c pc = .ok (.iconst (-1), 1) := o_start (op := 2) (f := _) rfl (pc_at h 0 rfl) rfl rfl rfl
theorem dw_40 (h : Pc9 c pc [2]) : decode c pc = .ok (.iconst (-1), 1) := op_2 h
theorem op_130 (h : Pc9 c pc [130]) : decode c pc = .ok (.ixor, 1) := o_start (op := 130) (f := _) rfl (pc_at h 0 rfl) rfl rfl rfl
theorem dw_41 (h : Pc9 c pc [130]) : decode c pc = .ok (.ixor, 1) := op_130 h
theorem dw_42 (h : Pc9 c pc [184, 0, 37]) : decode c pc = .ok (.invokestatic 37, 3) := op_184 h rfl
theorem op_96 (h : Pc9 c pc [96]) : decode c pc = .ok (.iadd, 1) := o_start (op := 96) (f := _) rfl (pc_at h 0 rfl) rfl rfl rfl
theorem dw_43 (h : Pc9 c pc [96]) : decode c pc = .ok (.iadd, 1) := op_96 h
theorem dw_44 (h : Pc9 c pc [132, 6, 1]) : decode c pc = .ok (.iinc 6 1, 3) := op_132 h rfl (by decide +kernel)
theorem dw_45 (h : Pc9 c pc [167, 255, 218]) : decode c pc = .ok (.goto (-38), 3) := op_167 h (by decide +kernel)
theorem op_182 {a b : UInt8} {v : Nat} (h : Pc9 c pc [182, a, b]) (e : a.toNat * 256 + b.toNat = v) : decode c pc = .ok (.invokevirtual v, 3) := o_start (op := 182) (f := _) rfl (pc_at h 0 rfl) rfl (k_u2 (g := fun x => .invokevirtual x) (pc_at h 1 rfl) (pc_at h 2 rfl) e) rfl
theorem dw_46 (h : Pc9 c pc [182, 0, 42]) : decode c pc = .ok (.invokevirtual 42, 3) := op_182 h rfl
theorem dw_47 (h : Pc9 c pc [162, 0, 30]) : decode c pc = .ok (.if_icmp .ge 30, 3) := op_162 h (by decide +kernel)
theorem dw_48 (h : Pc9 c pc [153, 0, 15]) : decode c pc = .ok (.ifCond .eq 15, 3) := op_153 h (by decide +kernel)
theorem dw_49 (h : Pc9 c pc [167, 255, 226]) : decode c pc = .ok (.goto (-30), 3) := op_167 h (by decide +kernel)
theorem dw_50 (h : Pc9 c pc [162, 0, 56]) : decode c pc = .ok (.if_icmp .ge 56, 3) := op_162 h (by decide +kernel)
theorem dw_51 (h : Pc9 c pc [153, 0, 41]) : decode c pc = .ok (.ifCond .eq 41, 3) := op_153 h (by decide +kernel)
theorem op_44 (h : Pc9 c pc [44]) : decode c pc = .ok (.aload_n 2, 1) := o_start (op := 44) (f := _) rfl (pc_at h 0 rfl) rfl rfl rfl
theorem dw_52 (h : Pc9 c pc [44]) : decode c pc = .ok (.aload_n 2, 1) := op_44 h
theorem dw_53 (h : Pc9 c pc [184, 0, 46]) : decode c pc = .ok (.invokestatic 46, 3) := op_184 h rfl
theorem dw_54 (h : Pc9 c pc [132, 5, 1]) : decode c pc = .ok (.iinc 5 1, 3) := op_132 h rfl (by decide +kernel)
theorem dw_55 (h : Pc9 c pc [167, 255, 200]) : decode c pc = .ok (.goto (-56), 3) := op_167 h (by decide +kernel)
theorem dw_56 (h : Pc9 c pc [153, 0, 5]) : decode c pc = .ok (.ifCond .eq 5, 3) := op_153 h (by decide +kernel)
theorem dw_57 (h : Pc9 c pc [182, 0, 49]) : decode c pc = .ok (.invokevirtual 49, 3) := op_182 h rfl
theorem dw_58 (h : Pc9 c pc [54, 7]) : decode c pc = .ok (.istore 7, 2) := op_54 h rfl
theorem dw_59 (h : Pc9 c pc [21, 7]) : decode c pc = .ok (.iload 7, 2) := op_21 h rfl
theorem dw_60 (h : Pc9 c pc [162, 0, 45]) : decode c pc = .ok (.if_icmp .ge 45, 3) := op_162 h (by decide +kernel)
theorem dw_61 (h : Pc9 c pc [153, 0, 29]) : decode c pc = .ok (.ifCond .eq 29, 3) := op_153 h (by decide +kernel)
theorem dw_62 (h : Pc9 c pc [132, 7, 1]) : decode c pc = .ok (.iinc 7 1, 3) := op_132 h rfl (by decide +kernel)
theorem dw_63 (h : Pc9 c pc [167, 255, 210]) : decode c pc = .ok (.goto (-46), 3) := op_167 h (by decide +kernel)
theorem dw_64 (h : Pc9 c pc [181, 0, 15]) : decode c pc = .ok (.putfield 15, 3) := op_181 h rfl
theorem dw_65 (h : Pc9 c pc [181, 0, 18]) : decode c pc = .ok (.putfield 18, 3) := op_181 h rfl
theorem dw_66 (h : Pc9 c pc [162, 0, 22]) : decode c pc = .ok (.if_icmp .ge 22, 3) := op_162 h (by decide +kernel)
theorem dw_67 (h : Pc9 c pc [180, 0, 15]) : decode c pc = .ok (.getfield 15, 3) := op_180 h rfl
theorem op_124 (h : Pc9 c pc [124]) : decode c pc = .ok (.iushr, 1) := o_start (op := 124) (f := _) rfl (pc_at h 0 rfl) rfl rfl rfl
theorem dw_68 (h : Pc9 c pc [124]) : decode c pc = .ok (.iushr, 1) := op_124 h
theorem dw_69 (h : Pc9 c pc [167, 255, 234]) : decode c pc = .ok (.goto (-22), 3) := op_167 h (by decide +kernel)
theorem dw_70 (h : Pc9 c pc [182, 0, 21]) : decode c pc = .ok (.invokevirtual 21, 3) := op_182 h rfl
theorem dw_71 (h : Pc9 c pc [162, 0, 18]) : decode c pc = .ok (.if_icmp .ge 18, 3) := op_162 h (by decide +kernel)
theorem dw_72 (h : Pc9 c pc [167, 255, 239]) : decode c pc = .ok (.goto (-17), 3) := op_167 h (by decide +kernel)
theorem dw_73 (h : Pc9 c pc [180, 0, 25]) : decode c pc = .ok (.getfield 25, 3) := op_180 h rfl
theorem op_61 (h : Pc9 c pc [61]) : decode c pc = .ok (.istore_n 2, 1) := o_start (op := 61) (f := _) rfl (pc_at h 0 rfl) rfl rfl rfl
theorem dw_74 (h : Pc9 c pc [61]) : decode c pc = .ok (.istore_n 2, 1) := op_61 h
theorem dw_75 (h : Pc9 c pc [162, 0, 20]) : decode c pc = .ok (.if_icmp .ge 20, 3) := op_162 h (by decide +kernel)
theorem dw_76 (h : Pc9 c pc [132, 2, 1]) : decode c pc = .ok (.iinc 2 1, 3) := op_132 h rfl (by decide +kernel)
theorem dw_77 (h : Pc9 c pc [167, 255, 237]) : decode c pc = .ok (.goto (-19), 3) := op_167 h (by decide +kernel)
theorem op_60 (h : Pc9 c pc [60]) : decode c pc = .ok (.istore_n 1, 1) := o_start (op := 60) (f := _) rfl (pc_at h 0 rfl) rfl rfl rfl
theorem dw_78 (h : Pc9 c pc [60]) : decode c pc = .ok (.istore_n 1, 1) := op_60 h
theorem dw_79 (h : Pc9 c pc [162, 0, 25]) : decode c pc = .ok (.if_icmp .ge 25, 3) := op_162 h (by decide +kernel)
theorem dw_80 (h : Pc9 c pc [180, 0, 18]) : decode c pc = .ok (.getfield 18, 3) := op_180 h rfl
theorem dw_81 (h : Pc9 c pc [167, 255, 229]) : decode c pc = .ok (.goto (-27), 3) := op_167 h (by decide +kernel)
theorem op_155 {a b : UInt8} {v : Int} (h : Pc9 c pc [155, a, b]) (e : Jvm.ClassFile.Reader.signed 16 (a.toNat * 256 + b.toNat) = v) : decode c pc = .ok (.ifCond .lt v, 3) := o_start (op := 155) (f := _) rfl (pc_at h 0 rfl) rfl (k_s2 (g := fun x => .ifCond .lt x) (pc_at h 1 rfl) (pc_at h 2 rfl) e) rfl
theorem dw_82 (h : Pc9 c pc [155, 0, 20]) : decode c pc = .ok (.ifCond .lt 20, 3) := op_155 h (by decide +kernel)
theorem dw_83 (h : Pc9 c pc [162, 0, 12]) : decode c pc = .ok (.if_icmp .ge 12, 3) := op_162 h (by decide +kernel)
theorem dw_84 (h : Pc9 c pc [167, 0, 4]) : decode c pc = .ok (.goto 4, 3) := op_167 h (by decide +kernel)
theorem dw_85 (h : Pc9 c pc [162, 0, 63]) : decode c pc = .ok (.if_icmp .ge 63, 3) := op_162 h (by decide +kernel)
theorem dw_86 (h : Pc9 c pc [182, 0, 35]) : decode c pc = .ok (.invokevirtual 35, 3) := op_182 h rfl
theorem op_159 {a b : UInt8} {v : Int} (h : Pc9 c pc [159, a, b]) (e : Jvm.ClassFile.Reader.signed 16 (a.toNat * 256 + b.toNat) = v) : decode c pc = .ok (.if_icmp .eq v, 3) := o_start (op := 159) (f := _) rfl (pc_at h 0 rfl) rfl (k_s2 (g := fun x => .if_icmp .eq x) (pc_at h 1 rfl) (pc_at h 2 rfl) e) rfl
theorem dw_87 (h : Pc9 c pc [159, 0, 43]) : decode c pc = .ok (.if_icmp .eq 43, 3) := op_159 h (by decide +kernel)
theorem dw_88 (h : Pc9 c pc [182, 0, 39]) : decode c pc = .ok (.invokevirtual 39, 3) := op_182 h rfl
theorem dw_89 (h : Pc9 c pc [182, 0, 43]) : decode c pc = .ok (.invokevirtual 43, 3) := op_182 h rfl
theorem op_89 (h : Pc9 c pc [89]) : decode c pc = .ok (.dup, 1) := o_start (op := 89) (f := _) rfl (pc_at h 0 rfl) rfl rfl rfl
theorem dw_90 (h : Pc9 c pc [89]) : decode c pc = .ok (.dup, 1) := op_89 h
theorem dw_91 (h : Pc9 c pc [167, 255, 194]) : decode c pc = .ok (.goto (-62), 3) := op_167 h (by decide +kernel)
theorem dw_92 (h : Pc9 c pc [162, 0, 24]) : decode c pc = .ok (.if_icmp .ge 24, 3) := op_162 h (by decide +kernel)
theorem dw_93 (h : Pc9 c pc [184, 0, 47]) : decode c pc = .ok (.invokestatic 47, 3) := op_184 h rfl
theorem dw_94 (h : Pc9 c pc [167, 255, 233]) : decode c pc = .ok (.goto (-23), 3) := op_167 h (by decide +kernel)
theorem dw_95 (h : Pc9 c pc [162, 0, 61]) : decode c pc = .ok (.if_icmp .ge 61, 3) := op_162 h (by decide +kernel)
theorem dw_96 (h : Pc9 c pc [159, 0, 49]) : decode c pc = .ok (.if_icmp .eq 49, 3) := op_159 h (by decide +kernel)
theorem dw_97 (h : Pc9 c pc [153, 0, 35]) : decode c pc = .ok (.ifCond .eq 35, 3) := op_153 h (by decide +kernel)
theorem dw_98 (h : Pc9 c pc [167, 255, 195]) : decode c pc = .ok (.goto (-61), 3) := op_167 h (by decide +kernel)
theorem dw_99 (h : Pc9 c pc [162, 0, 16]) : decode c pc = .ok (.if_icmp .ge 16, 3) := op_162 h (by decide +kernel)
theorem dw_100 (h : Pc9 c pc [132, 1, 1]) : decode c pc = .ok (.iinc 1 1, 3) := op_132 h rfl (by decide +kernel)
theorem dw_101 (h : Pc9 c pc [167, 255, 240]) : decode c pc = .ok (.goto (-16), 3) := op_167 h (by decide +kernel)
theorem dw_102 (h : Pc9 c pc [181, 0, 19]) : decode c pc = .ok (.putfield 19, 3) := op_181 h rfl
theorem dw_103 (h : Pc9 c pc [181, 0, 23]) : decode c pc = .ok (.putfield 23, 3) := op_181 h rfl
theorem dw_104 (h : Pc9 c pc [181, 0, 26]) : decode c pc = .ok (.putfield 26, 3) := op_181 h rfl
theorem dw_105 (h : Pc9 c pc [180, 0, 19]) : decode c pc = .ok (.getfield 19, 3) := op_180 h rfl
theorem dw_106 (h : Pc9 c pc [180, 0, 23]) : decode c pc = .ok (.getfield 23, 3) := op_180 h rfl
theorem dw_107 (h : Pc9 c pc [180, 0, 26]) : decode c pc = .ok (.getfield 26, 3) := op_180 h rfl
theorem dw_108 (h : Pc9 c pc [153, 0, 18]) : decode c pc = .ok (.ifCond .eq 18, 3) := op_153 h (by decide +kernel)
theorem op_17 {a b : UInt8} {v : Int} (h : Pc9 c pc [17, a, b]) (e : Jvm.ClassFile.Reader.signed 16 (a.toNat * 256 + b.toNat) = v) : decode c pc = .ok (.sipush v, 3) := o_start (op := 17) (f := _) rfl (pc_at h 0 rfl) rfl (k_s2 (g := fun x => .sipush x) (pc_at h 1 rfl) (pc_at h 2 rfl) e) rfl
theorem dw_109 (h : Pc9 c pc [17, 1, 0]) : decode c pc = .ok (.sipush 256, 3) := op_17 h (by decide +kernel)
theorem dw_110 (h : Pc9 c pc [180, 0, 21]) : decode c pc = .ok (.getfield 21, 3) := op_180 h rfl
theorem dw_111 (h : Pc9 c pc [181, 0, 27]) : decode c pc = .ok (.putfield 27, 3) := op_181 h rfl
theorem dw_112 (h : Pc9 c pc [180, 0, 28]) : decode c pc = .ok (.getfield 28, 3) := op_180 h rfl
theorem dw_113 (h : Pc9 c pc [181, 0, 31]) : decode c pc = .ok (.putfield 31, 3) := op_181 h rfl
theorem dw_114 (h : Pc9 c pc [181, 0, 32]) : decode c pc = .ok (.putfield 32, 3) := op_181 h rfl
theorem dw_115 (h : Pc9 c pc [181, 0, 36]) : decode c pc = .ok (.putfield 36, 3) := op_181 h rfl
theorem dw_116 (h : Pc9 c pc [181, 0, 39]) : decode c pc = .ok (.putfield 39, 3) := op_181 h rfl
theorem dw_117 (h : Pc9 c pc [180, 0, 27]) : decode c pc = .ok (.getfield 27, 3) := op_180 h rfl
theorem dw_118 (h : Pc9 c pc [162, 0, 14]) : decode c pc = .ok (.if_icmp .ge 14, 3) := op_162 h (by decide +kernel)
theorem op_45 (h : Pc9 c pc [45]) : decode c pc = .ok (.aload_n 3, 1) := o_start (op := 45) (f := _) rfl (pc_at h 0 rfl) rfl rfl rfl
theorem dw_119 (h : Pc9 c pc [45]) : decode c pc = .ok (.aload_n 3, 1) := op_45 h
theorem dw_120 (h : Pc9 c pc [162, 0, 50]) : decode c pc = .ok (.if_icmp .ge 50, 3) := op_162 h (by decide +kernel)
theorem dw_121 (h : Pc9 c pc [180, 0, 31]) : decode c pc = .ok (.getfield 31, 3) := op_180 h rfl
theorem op_100 (h : Pc9 c pc [100]) : decode c pc = .ok (.isub, 1) := o_start (op := 100) (f := _) rfl (pc_at h 0 rfl) rfl rfl rfl
theorem dw_122 (h : Pc9 c pc [100]) : decode c pc = .ok (.isub, 1) := op_100 h
theorem dw_123 (h : Pc9 c pc [184, 0, 42]) : decode c pc = .ok (.invokestatic 42, 3) := op_184 h rfl
theorem dw_124 (h : Pc9 c pc [182, 0, 48]) : decode c pc = .ok (.invokevirtual 48, 3) := op_182 h rfl
theorem dw_125 (h : Pc9 c pc [182, 0, 52]) : decode c pc = .ok (.invokevirtual 52, 3) := op_182 h rfl
theorem op_78 (h : Pc9 c pc [78]) : decode c pc = .ok (.astore_n 3, 1) := o_start (op := 78) (f := _) rfl (pc_at h 0 rfl) rfl rfl rfl
theorem dw_126 (h : Pc9 c pc [78]) : decode c pc = .ok (.astore_n 3, 1) := op_78 h
theorem op_58 {a : UInt8} {v : Nat} (h : Pc9 c pc [58, a]) (e : a.toNat = v) : decode c pc = .ok (.astore v, 2) := o_start (op := 58) (f := _) rfl (pc_at h 0 rfl) rfl (k_u1 (g := fun x => .astore x) (pc_at h 1 rfl) e) rfl
theorem dw_127 (h : Pc9 c pc [58, 4]) : decode c pc = .ok (.astore 4, 2) := op_58 h rfl
theorem dw_128 (h : Pc9 c pc [162, 0, 17]) : decode c pc = .ok (.if_icmp .ge 17, 3) := op_162 h (by decide +kernel)
theorem dw_129 (h : Pc9 c pc [167, 255, 236]) : decode c pc = .ok (.goto (-20), 3) := op_167 h (by decide +kernel)
theorem dw_130 (h : Pc9 c pc [16, 19]) : decode c pc = .ok (.bipush 19, 2) := op_16 h (by decide +kernel)
theorem dw_131 (h : Pc9 c pc [155, 0, 61]) : decode c pc = .ok (.ifCond .lt 61, 3) := op_155 h (by decide +kernel)
theorem op_122 (h : Pc9 c pc [122]) : decode c pc = .ok (.ishr, 1) := o_start (op := 122) (f := _) rfl (pc_at h 0 rfl) rfl rfl rfl
theorem dw_132 (h : Pc9 c pc [122]) : decode c pc = .ok (.ishr, 1) := op_122 h
theorem dw_133 (h : Pc9 c pc [153, 0, 21]) : decode c pc = .ok (.ifCond .eq 21, 3) := op_153 h (by decide +kernel)
theorem op_25 {a : UInt8} {v : Nat} (h : Pc9 c pc [25, a]) (e : a.toNat = v) : decode c pc = .ok (.aload v, 2) := o_start (op := 25) (f := _) rfl (pc_at h 0 rfl) rfl (k_u1 (g := fun x => .aload x) (pc_at h 1 rfl) e) rfl
theorem dw_134 (h : Pc9 c pc [25, 4]) : decode c pc = .ok (.aload 4, 2) := op_25 h rfl
theorem dw_135 (h : Pc9 c pc [182, 0, 56]) : decode c pc = .ok (.invokevirtual 56, 3) := op_182 h rfl
theorem dw_136 (h : Pc9 c pc [58, 6]) : decode c pc = .ok (.astore 6, 2) := op_58 h rfl
theorem dw_137 (h : Pc9 c pc [25, 6]) : decode c pc = .ok (.aload 6, 2) := op_25 h rfl
theorem dw_138 (h : Pc9 c pc [184, 0, 60]) : decode c pc = .ok (.invokestatic 60, 3) := op_184 h rfl
theorem dw_139 (h : Pc9 c pc [132, 5, 255]) : decode c pc = .ok (.iinc 5 (-1), 3) := op_132 h rfl (by decide +kernel)
theorem dw_140 (h : Pc9 c pc [167, 255, 196]) : decode c pc = .ok (.goto (-60), 3) := op_167 h (by decide +kernel)
theorem op_176 (h : Pc9 c pc [176]) : decode c pc = .ok (.areturn, 1) := o_start (op := 176) (f := _) rfl (pc_at h 0 rfl) rfl rfl rfl
theorem dw_141 (h : Pc9 c pc [176]) : decode c pc = .ok (.areturn, 1) := op_176 h
theorem dw_142 (h : Pc9 c pc [162, 0, 58]) : decode c pc = .ok (.if_icmp .ge 58, 3) := op_162 h (by decide +kernel)
theorem dw_143 (h : Pc9 c pc [162, 0, 36]) : decode c pc = .ok (.if_icmp .ge 36, 3) := op_162 h (by decide +kernel)
theorem dw_144 (h : Pc9 c pc [182, 0, 64]) : decode c pc = .ok (.invokevirtual 64, 3) := op_182 h rfl
theorem dw_145 (h : Pc9 c pc [167, 255, 219]) : decode c pc = .ok (.goto (-37), 3) := op_167 h (by decide +kernel)
theorem dw_146 (h : Pc9 c pc [167, 255, 198]) : decode c pc = .ok (.goto (-58), 3) := op_167 h (by decide +kernel)
theorem dw_147 (h : Pc9 c pc [180, 0, 36]) : decode c pc = .ok (.getfield 36, 3) := op_180 h rfl
theorem dw_148 (h : Pc9 c pc [162, 0, 57]) : decode c pc = .ok (.if_icmp .ge 57, 3) := op_162 h (by decide +kernel)
theorem dw_149 (h : Pc9 c pc [184, 0, 67]) : decode c pc = .ok (.invokestatic 67, 3) := op_184 h rfl
theorem dw_150 (h : Pc9 c pc [153, 0, 32]) : decode c pc = .ok (.ifCond .eq 32, 3) := op_153 h (by decide +kernel)
theorem dw_151 (h : Pc9 c pc [180, 0, 39]) : decode c pc = .ok (.getfield 39, 3) := op_180 h rfl
theorem dw_152 (h : Pc9 c pc [180, 0, 32]) : decode c pc = .ok (.getfield 32, 3) := op_180 h rfl
theorem dw_153 (h : Pc9 c pc [153, 0, 9]) : decode c pc = .ok (.ifCond .eq 9, 3) := op_153 h (by decide +kernel)
theorem dw_154 (h : Pc9 c pc [167, 0, 6]) : decode c pc = .ok (.goto 6, 3) := op_167 h (by decide +kernel)
theorem dw_155 (h : Pc9 c pc [17, 2, 88]) : decode c pc = .ok (.sipush 600, 3) := op_17 h (by decide +kernel)
theorem dw_156 (h : Pc9 c pc [16, 56]) : decode c pc = .ok (.bipush 56, 2) := op_16 h (by decide +kernel)
theorem dw_157 (h : Pc9 c pc [155, 0, 25]) : decode c pc = .ok (.ifCond .lt 25, 3) := op_155 h (by decide +kernel)
theorem op_31 (h : Pc9 c pc [31]) : decode c pc = .ok (.lload_n 1, 1) := o_start (op := 31) (f := _) rfl (pc_at h 0 rfl) rfl rfl rfl
theorem dw_158 (h : Pc9 c pc [31]) : decode c pc = .ok (.lload_n 1, 1) := op_31 h
theorem op_125 (h : Pc9 c pc [125]) : decode c pc = .ok (.lushr, 1) := o_start (op := 125) (f := _) rfl (pc_at h 0 rfl) rfl rfl rfl
theorem dw_159 (h : Pc9 c pc [125]) : decode c pc = .ok (.lushr, 1) := op_125 h
theorem op_20 {a b : UInt8} {v : Nat} (h : Pc9 c pc [20, a, b]) (e : a.toNat * 256 + b.toNat = v) : decode c pc = .ok (.ldc2_w v, 3) := o_start (op := 20) (f := _) rfl (pc_at h 0 rfl) rfl (k_u2 (g := fun x => .ldc2_w x) (pc_at h 1 rfl) (pc_at h 2 rfl) e) rfl
theorem dw_160 (h : Pc9 c pc [20, 0, 15]) : decode c pc = .ok (.ldc2_w 15, 3) := op_20 h rfl
theorem op_127 (h : Pc9 c pc [127]) : decode c pc = .ok (.land, 1) := o_start (op := 127) (f := _) rfl (pc_at h 0 rfl) rfl rfl rfl
theorem dw_161 (h : Pc9 c pc [127]) : decode c pc = .ok (.land, 1) := op_127 h
theorem op_9 (h : Pc9 c pc [9]) : decode c pc = .ok (.lconst 0, 1) := o_start (op := 9) (f := _) rfl (pc_at h 0 rfl) rfl rfl rfl
theorem dw_162 (h : Pc9 c pc [9]) : decode c pc = .ok (.lconst 0, 1) := op_9 h
theorem op_148 (h : Pc9 c pc [148]) : decode c pc = .ok (.lcmp, 1) := o_start (op := 148) (f := _) rfl (pc_at h 0 rfl) rfl rfl rfl
theorem dw_163 (h : Pc9 c pc [148]) : decode c pc = .ok (.lcmp, 1) := op_148 h
theorem dw_164 (h : Pc9 c pc [153, 0, 6]) : decode c pc = .ok (.ifCond .eq 6, 3) := op_153 h (by decide +kernel)
theorem dw_165 (h : Pc9 c pc [132, 4, 248]) : decode c pc = .ok (.iinc 4 (-8), 3) := op_132 h rfl (by decide +kernel)
theorem dw_166 (h : Pc9 c pc [167, 255, 232]) : decode c pc = .ok (.goto (-24), 3) := op_167 h (by decide +kernel)
theorem dw_167 (h : Pc9 c pc [180, 0, 17]) : decode c pc = .ok (.getfield 17, 3) := op_180 h rfl
theorem op_164 {a b : UInt8} {v : Int} (h : Pc9 c pc [164, a, b]) (e : Jvm.ClassFile.Reader.signed 16 (a.toNat * 256 + b.toNat) = v) : decode c pc = .ok (.if_icmp .le v, 3) := o_start (op := 164) (f := _) rfl (pc_at h 0 rfl) rfl (k_s2 (g := fun x => .if_icmp .le x) (pc_at h 1 rfl) (pc_at h 2 rfl) e) rfl
theorem dw_168 (h : Pc9 c pc [164, 0, 6]) : decode c pc = .ok (.if_icmp .le 6, 3) := op_164 h (by decide +kernel)
theorem dw_169 (h : Pc9 c pc [16, 254]) : decode c pc = .ok (.bipush (-2), 2) := op_16 h (by decide +kernel)
theorem dw_170 (h : Pc9 c pc [155, 0, 56]) : decode c pc = .ok (.ifCond .lt 56, 3) := op_155 h (by decide +kernel)
theorem op_136 (h : Pc9 c pc [136]) : decode c pc = .ok (.l2i, 1) := o_start (op := 136) (f := _) rfl (pc_at h 0 rfl) rfl rfl rfl
theorem dw_171 (h : Pc9 c pc [136]) : decode c pc = .ok (.l2i, 1) := op_136 h
theorem dw_172 (h : Pc9 c pc [153, 0, 34]) : decode c pc = .ok (.ifCond .eq 34, 3) := op_153 h (by decide +kernel)
theorem dw_173 (h : Pc9 c pc [181, 0, 17]) : decode c pc = .ok (.putfield 17, 3) := op_181 h rfl
theorem dw_174 (h : Pc9 c pc [167, 255, 201]) : decode c pc = .ok (.goto (-55), 3) := op_167 h (by decide +kernel)
theorem dw_175 (h : Pc9 c pc [181, 0, 21]) : decode c pc = .ok (.putfield 21, 3) := op_181 h rfl
theorem dw_176 (h : Pc9 c pc [181, 0, 24]) : decode c pc = .ok (.putfield 24, 3) := op_181 h rfl
theorem dw_177 (h : Pc9 c pc [181, 0, 30]) : decode c pc = .ok (.putfield 30, 3) := op_181 h rfl
theorem dw_178 (h : Pc9 c pc [182, 0, 33]) : decode c pc = .ok (.invokevirtual 33, 3) := op_182 h rfl
theorem dw_179 (h : Pc9 c pc [162, 0, 32]) : decode c pc = .ok (.if_icmp .ge 32, 3) := op_162 h (by decide +kernel)
theorem dw_180 (h : Pc9 c pc [182, 0, 37]) : decode c pc = .ok (.invokevirtual 37, 3) := op_182 h rfl
theorem dw_181 (h : Pc9 c pc [153, 0, 25]) : decode c pc = .ok (.ifCond .eq 25, 3) := op_153 h (by decide +kernel)
theorem dw_182 (h : Pc9 c pc [182, 0, 41]) : decode c pc = .ok (.invokevirtual 41, 3) := op_182 h rfl
theorem op_154 {a b : UInt8} {v : Int} (h : Pc9 c pc [154, a, b]) (e : Jvm.ClassFile.Reader.signed 16 (a.toNat * 256 + b.toNat) = v) : decode c pc = .ok (.ifCond .ne v, 3) := o_start (op := 154) (f := _) rfl (pc_at h 0 rfl) rfl (k_s2 (g := fun x => .ifCond .ne x) (pc_at h 1 rfl) (pc_at h 2 rfl) e) rfl
theorem dw_183 (h : Pc9 c pc [154, 0, 8]) : decode c pc = .ok (.ifCond .ne 8, 3) := op_154 h (by decide +kernel)
theorem dw_184 (h : Pc9 c pc [182, 0, 44]) : decode c pc = .ok (.invokevirtual 44, 3) := op_182 h rfl
theorem dw_185 (h : Pc9 c pc [167, 255, 222]) : decode c pc = .ok (.goto (-34), 3) := op_167 h (by decide +kernel)
theorem dw_186 (h : Pc9 c pc [16, 6]) : decode c pc = .ok (.bipush 6, 2) := op_16 h (by decide +kernel)
theorem dw_187 (h : Pc9 c pc [180, 0, 47]) : decode c pc = .ok (.getfield 47, 3) := op_180 h rfl
theorem op_50 (h : Pc9 c pc [50]) : decode c pc = .ok (.aaload, 1) := o_start (op := 50) (f := _) rfl (pc_at h 0 rfl) rfl rfl rfl
theorem dw_188 (h : Pc9 c pc [50]) : decode c pc = .ok (.aaload, 1) := op_50 h
theorem dw_189 (h : Pc9 c pc [180, 0, 53]) : decode c pc = .ok (.getfield 53, 3) := op_180 h rfl
theorem dw_190 (h : Pc9 c pc [182, 0, 62]) : decode c pc = .ok (.invokevirtual 62, 3) := op_182 h rfl
theorem op_18 {a : UInt8} {v : Nat} (h : Pc9 c pc [18, a]) (e : a.toNat = v) : decode c pc = .ok (.ldc v, 2) := o_start (op := 18) (f := _) rfl (pc_at h 0 rfl) rfl (k_u1 (g := fun x => .ldc x) (pc_at h 1 rfl) e) rfl
theorem dw_191 (h : Pc9 c pc [18, 65]) : decode c pc = .ok (.ldc 65, 2) := op_18 h rfl
theorem dw_192 (h : Pc9 c pc [182, 0, 66]) : decode c pc = .ok (.invokevirtual 66, 3) := op_182 h rfl
theorem dw_193 (h : Pc9 c pc [154, 0, 12]) : decode c pc = .ok (.ifCond .ne 12, 3) := op_154 h (by decide +kernel)
theorem dw_194 (h : Pc9 c pc [180, 0, 70]) : decode c pc = .ok (.getfield 70, 3) := op_180 h rfl
theorem dw_195 (h : Pc9 c pc [182, 0, 73]) : decode c pc = .ok (.invokevirtual 73, 3) := op_182 h rfl
theorem dw_196 (h : Pc9 c pc [182, 0, 77]) : decode c pc = .ok (.invokevirtual 77, 3) := op_182 h rfl
theorem dw_197 (h : Pc9 c pc [182, 0, 81]) : decode c pc = .ok (.invokevirtual 81, 3) := op_182 h rfl
theorem dw_198 (h : Pc9 c pc [18, 84]) : decode c pc = .ok (.ldc 84, 2) := op_18 h rfl
theorem dw_199 (h : Pc9 c pc [153, 0, 11]) : decode c pc = .ok (.ifCond .eq 11, 3) := op_153 h (by decide +kernel)
theorem dw_200 (h : Pc9 c pc [182, 0, 86]) : decode c pc = .ok (.invokevirtual 86, 3) := op_182 h rfl
theorem dw_201 (h : Pc9 c pc [167, 0, 86]) : decode c pc = .ok (.goto 86, 3) := op_167 h (by decide +kernel)
theorem dw_202 (h : Pc9 c pc [18, 89]) : decode c pc = .ok (.ldc 89, 2) := op_18 h rfl
theorem dw_203 (h : Pc9 c pc [182, 0, 91]) : decode c pc = .ok (.invokevirtual 91, 3) := op_182 h rfl
theorem dw_204 (h : Pc9 c pc [167, 0, 69]) : decode c pc = .ok (.goto 69, 3) := op_167 h (by decide +kernel)
theorem dw_205 (h : Pc9 c pc [18, 94]) : decode c pc = .ok (.ldc 94, 2) := op_18 h rfl
theorem dw_206 (h : Pc9 c pc [182, 0, 96]) : decode c pc = .ok (.invokevirtual 96, 3) := op_182 h rfl
theorem dw_207 (h : Pc9 c pc [167, 0, 52]) : decode c pc = .ok (.goto 52, 3) := op_167 h (by decide +kernel)
theorem dw_208 (h : Pc9 c pc [18, 99]) : decode c pc = .ok (.ldc 99, 2) := op_18 h rfl
theorem dw_209 (h : Pc9 c pc [182, 0, 101]) : decode c pc = .ok (.invokevirtual 101, 3) := op_182 h rfl
theorem dw_210 (h : Pc9 c pc [167, 0, 35]) : decode c pc = .ok (.goto 35, 3) := op_167 h (by decide +kernel)
theorem dw_211 (h : Pc9 c pc [18, 104]) : decode c pc = .ok (.ldc 104, 2) := op_18 h rfl
theorem dw_212 (h : Pc9 c pc [153, 0, 17]) : decode c pc = .ok (.ifCond .eq 17, 3) := op_153 h (by decide +kernel)
theorem dw_213 (h : Pc9 c pc [16, 8]) : decode c pc = .ok (.bipush 8, 2) := op_16 h (by decide +kernel)
theorem dw_214 (h : Pc9 c pc [181, 0, 106]) : decode c pc = .ok (.putfield 106, 3) := op_181 h rfl
theorem dw_215 (h : Pc9 c pc [167, 0, 12]) : decode c pc = .ok (.goto 12, 3) := op_167 h (by decide +kernel)
theorem op_8 (h : Pc9 c pc [8]) : decode c pc = .ok (.iconst 5, 1) := o_start (op := 8) (f := _) rfl (pc_at h 0 rfl) rfl rfl rfl
theorem dw_216 (h : Pc9 c pc [8]) : decode c pc = .ok (.iconst 5, 1) := op_8 h
theorem dw_217 (h : Pc9 c pc [180, 0, 108]) : decode c pc = .ok (.getfield 108, 3) := op_180 h rfl
theorem dw_218 (h : Pc9 c pc [182, 0, 111]) : decode c pc = .ok (.invokevirtual 111, 3) := op_182 h rfl
theorem dw_219 (h : Pc9 c pc [180, 0, 115]) : decode c pc = .ok (.getfield 115, 3) := op_180 h rfl
theorem dw_220 (h : Pc9 c pc [153, 0, 12]) : decode c pc = .ok (.ifCond .eq 12, 3) := op_153 h (by decide +kernel)
theorem op_6 (h : Pc9 c pc [6]) : decode c pc = .ok (.iconst 3, 1) := o_start (op := 6) (f := _) rfl (pc_at h 0 rfl) rfl rfl rfl
theorem dw_221 (h : Pc9 c pc [6]) : decode c pc = .ok (.iconst 3, 1) := op_6 h
theorem dw_222 (h : Pc9 c pc [181, 0, 115]) : decode c pc = .ok (.putfield 115, 3) := op_181 h rfl
theorem dw_223 (h : Pc9 c pc [162, 0, 29]) : decode c pc = .ok (.if_icmp .ge 29, 3) := op_162 h (by decide +kernel)
theorem dw_224 (h : Pc9 c pc [182, 0, 119]) : decode c pc = .ok (.invokevirtual 119, 3) := op_182 h rfl
theorem dw_225 (h : Pc9 c pc [167, 255, 225]) : decode c pc = .ok (.goto (-31), 3) := op_167 h (by decide +kernel)
theorem dw_226 (h : Pc9 c pc [18, 122]) : decode c pc = .ok (.ldc 122, 2) := op_18 h rfl
theorem dw_227 (h : Pc9 c pc [153, 0, 7]) : decode c pc = .ok (.ifCond .eq 7, 3) := op_153 h (by decide +kernel)
theorem dw_228 (h : Pc9 c pc [18, 124]) : decode c pc = .ok (.ldc 124, 2) := op_18 h rfl
theorem dw_229 (h : Pc9 c pc [153, 0, 8]) : decode c pc = .ok (.ifCond .eq 8, 3) := op_153 h (by decide +kernel)
theorem dw_230 (h : Pc9 c pc [184, 0, 126]) : decode c pc = .ok (.invokestatic 126, 3) := op_184 h rfl
theorem dw_231 (h : Pc9 c pc [18, 129]) : decode c pc = .ok (.ldc 129, 2) := op_18 h rfl
theorem dw_232 (h : Pc9 c pc [153, 0, 20]) : decode c pc = .ok (.ifCond .eq 20, 3) := op_153 h (by decide +kernel)
theorem dw_233 (h : Pc9 c pc [162, 0, 11]) : decode c pc = .ok (.if_icmp .ge 11, 3) := op_162 h (by decide +kernel)
theorem dw_234 (h : Pc9 c pc [18, 131]) : decode c pc = .ok (.ldc 131, 2) := op_18 h rfl
theorem dw_235 (h : Pc9 c pc [182, 0, 133]) : decode c pc = .ok (.invokevirtual 133, 3) := op_182 h rfl
theorem dw_236 (h : Pc9 c pc [154, 0, 18]) : decode c pc = .ok (.ifCond .ne 18, 3) := op_154 h (by decide +kernel)
theorem dw_237 (h : Pc9 c pc [162, 0, 7]) : decode c pc = .ok (.if_icmp .ge 7, 3) := op_162 h (by decide +kernel)
theorem dw_238 (h : Pc9 c pc [162, 0, 40]) : decode c pc = .ok (.if_icmp .ge 40, 3) := op_162 h (by decide +kernel)
theorem dw_239 (h : Pc9 c pc [16, 59]) : decode c pc = .ok (.bipush 59, 2) := op_16 h (by decide +kernel)
theorem op_160 {a b : UInt8} {v : Int} (h : Pc9 c pc [160, a, b]) (e : Jvm.ClassFile.Reader.signed 16 (a.toNat * 256 + b.toNat) = v) : decode c pc = .ok (.if_icmp .ne v, 3) := o_start (op := 160) (f := _) rfl (pc_at h 0 rfl) rfl (k_s2 (g := fun x => .if_icmp .ne x) (pc_at h 1 rfl) (pc_at h 2 rfl) e) rfl
theorem dw_240 (h : Pc9 c pc [160, 0, 26]) : decode c pc = .ok (.if_icmp .ne 26, 3) := op_160 h (by decide +kernel)
theorem dw_241 (h : Pc9 c pc [180, 0, 24]) : decode c pc = .ok (.getfield 24, 3) := op_180 h rfl
theorem dw_242 (h : Pc9 c pc [181, 0, 70]) : decode c pc = .ok (.putfield 70, 3) := op_181 h rfl
theorem dw_243 (h : Pc9 c pc [162, 0, 44]) : decode c pc = .ok (.if_icmp .ge 44, 3) := op_162 h (by decide +kernel)
theorem dw_244 (h : Pc9 c pc [16, 97]) : decode c pc = .ok (.bipush 97, 2) := op_16 h (by decide +kernel)
theorem op_161 {a b : UInt8} {v : Int} (h : Pc9 c pc [161, a, b]) (e : Jvm.ClassFile.Reader.signed 16 (a.toNat * 256 + b.toNat) = v) : decode c pc = .ok (.if_icmp .lt v, 3) := o_start (op := 161) (f := _) rfl (pc_at h 0 rfl) rfl (k_s2 (g := fun x => .if_icmp .lt x) (pc_at h 1 rfl) (pc_at h 2 rfl) e) rfl
theorem dw_245 (h : Pc9 c pc [161, 0, 30]) : decode c pc = .ok (.if_icmp .lt 30, 3) := op_161 h (by decide +kernel)
theorem dw_246 (h : Pc9 c pc [16, 122]) : decode c pc = .ok (.bipush 122, 2) := op_16 h (by decide +kernel)
theorem op_163 {a b : UInt8} {v : Int} (h : Pc9 c pc [163, a, b]) (e : Jvm.ClassFile.Reader.signed 16 (a.toNat * 256 + b.toNat) = v) : decode c pc = .ok (.if_icmp .gt v, 3) := o_start (op := 163) (f := _) rfl (pc_at h 0 rfl) rfl (k_s2 (g := fun x => .if_icmp .gt x) (pc_at h 1 rfl) (pc_at h 2 rfl) e) rfl
theorem dw_247 (h : Pc9 c pc [163, 0, 16]) : decode c pc = .ok (.if_icmp .gt 16, 3) := op_163 h (by decide +kernel)
theorem dw_248 (h : Pc9 c pc [167, 255, 207]) : decode c pc = .ok (.goto (-49), 3) := op_167 h (by decide +kernel)
theorem dw_249 (h : Pc9 c pc [16, 48]) : decode c pc = .ok (.bipush 48, 2) := op_16 h (by decide +kernel)
theorem dw_250 (h : Pc9 c pc [16, 57]) : decode c pc = .ok (.bipush 57, 2) := op_16 h (by decide +kernel)
theorem dw_251 (h : Pc9 c pc [160, 0, 12]) : decode c pc = .ok (.if_icmp .ne 12, 3) := op_160 h (by decide +kernel)
theorem dw_252 (h : Pc9 c pc [182, 0, 136]) : decode c pc = .ok (.invokevirtual 136, 3) := op_182 h rfl
theorem dw_253 (h : Pc9 c pc [162, 0, 31]) : decode c pc = .ok (.if_icmp .ge 31, 3) := op_162 h (by decide +kernel)
theorem dw_254 (h : Pc9 c pc [16, 10]) : decode c pc = .ok (.bipush 10, 2) := op_16 h (by decide +kernel)
theorem op_104 (h : Pc9 c pc [104]) : decode c pc = .ok (.imul, 1) := o_start (op := 104) (f := _) rfl (pc_at h 0 rfl) rfl rfl rfl
theorem dw_255 (h : Pc9 c pc [104]) : decode c pc = .ok (.imul, 1) := op_104 h
theorem dw_256 (h : Pc9 c pc [17, 3, 232]) : decode c pc = .ok (.sipush 1000, 3) := op_17 h (by decide +kernel)
theorem dw_257 (h : Pc9 c pc [184, 0, 139]) : decode c pc = .ok (.invokestatic 139, 3) := op_184 h rfl
theorem dw_258 (h : Pc9 c pc [161, 0, 8]) : decode c pc = .ok (.if_icmp .lt 8, 3) := op_161 h (by decide +kernel)
theorem dw_259 (h : Pc9 c pc [164, 0, 12]) : decode c pc = .ok (.if_icmp .le 12, 3) := op_164 h (by decide +kernel)
theorem op_5 (h : Pc9 c pc [5]) : decode c pc = .ok (.iconst 2, 1) := o_start (op := 5) (f := _) rfl (pc_at h 0 rfl) rfl rfl rfl
theorem dw_260 (h : Pc9 c pc [5]) : decode c pc = .ok (.iconst 2, 1) := op_5 h
theorem dw_261 (h : Pc9 c pc [154, 0, 7]) : decode c pc = .ok (.ifCond .ne 7, 3) := op_154 h (by decide +kernel)
theorem dw_262 (h : Pc9 c pc [159, 0, 14]) : decode c pc = .ok (.if_icmp .eq 14, 3) := op_159 h (by decide +kernel)
theorem dw_263 (h : Pc9 c pc [16, 49]) : decode c pc = .ok (.bipush 49, 2) := op_16 h (by decide +kernel)
theorem dw_264 (h : Pc9 c pc [164, 0, 15]) : decode c pc = .ok (.if_icmp .le 15, 3) := op_164 h (by decide +kernel)
theorem dw_265 (h : Pc9 c pc [167, 0, 16]) : decode c pc = .ok (.goto 16, 3) := op_167 h (by decide +kernel)
theorem dw_266 (h : Pc9 c pc [160, 0, 9]) : decode c pc = .ok (.if_icmp .ne 9, 3) := op_160 h (by decide +kernel)
theorem dw_267 (h : Pc9 c pc [160, 0, 16]) : decode c pc = .ok (.if_icmp .ne 16, 3) := op_160 h (by decide +kernel)
theorem dw_268 (h : Pc9 c pc [167, 255, 221]) : decode c pc = .ok (.goto (-35), 3) := op_167 h (by decide +kernel)
theorem dw_269 (h : Pc9 c pc [182, 0, 144]) : decode c pc = .ok (.invokevirtual 144, 3) := op_182 h rfl
theorem dw_270 (h : Pc9 c pc [159, 0, 5]) : decode c pc = .ok (.if_icmp .eq 5, 3) := op_159 h (by decide +kernel)
theorem dw_271 (h : Pc9 c pc [182, 0, 149]) : decode c pc = .ok (.invokevirtual 149, 3) := op_182 h rfl
theorem dw_272 (h : Pc9 c pc [167, 255, 224]) : decode c pc = .ok (.goto (-32), 3) := op_167 h (by decide +kernel)
theorem dw_273 (h : Pc9 c pc [154, 0, 13]) : decode c pc = .ok (.ifCond .ne 13, 3) := op_154 h (by decide +kernel)
theorem op_189 {a b : UInt8} {v : Nat} (h : Pc9 c pc [189, a, b]) (e : a.toNat * 256 + b.toNat = v) : decode c pc = .ok (.anewarray v, 3) := o_start (op := 189) (f := _) rfl (pc_at h 0 rfl) rfl (k_u2 (g := fun x => .anewarray x) (pc_at h 1 rfl) (pc_at h 2 rfl) e) rfl
theorem dw_274 (h : Pc9 c pc [189, 0, 9]) : decode c pc = .ok (.anewarray 9, 3) := op_189 h rfl
theorem dw_275 (h : Pc9 c pc [181, 0, 11]) : decode c pc = .ok (.putfield 11, 3) := op_181 h rfl
theorem dw_276 (h : Pc9 c pc [180, 0, 11]) : decode c pc = .ok (.getfield 11, 3) := op_180 h rfl
theorem op_187 {a b : UInt8} {v : Nat} (h : Pc9 c pc [187, a, b]) (e : a.toNat * 256 + b.toNat = v) : decode c pc = .ok (.new v, 3) := o_start (op := 187) (f := _) rfl (pc_at h 0 rfl) rfl (k_u2 (g := fun x => .new x) (pc_at h 1 rfl) (pc_at h 2 rfl) e) rfl
theorem dw_277 (h : Pc9 c pc [187, 0, 9]) : decode c pc = .ok (.new 9, 3) := op_187 h rfl
theorem dw_278 (h : Pc9 c pc [183, 0, 17]) : decode c pc = .ok (.invokespecial 17, 3) := op_183 h rfl
theorem op_83 (h : Pc9 c pc [83]) : decode c pc = .ok (.aastore, 1) := o_start (op := 83) (f := _) rfl (pc_at h 0 rfl) rfl rfl rfl
theorem dw_279 (h : Pc9 c pc [83]) : decode c pc = .ok (.aastore, 1) := op_83 h
theorem op_7 (h : Pc9 c pc [7]) : decode c pc = .ok (.iconst 4, 1) := o_start (op := 7) (f := _) rfl (pc_at h 0 rfl) rfl rfl rfl
theorem dw_280 (h : Pc9 c pc [7]) : decode c pc = .ok (.iconst 4, 1) := op_7 h
theorem dw_281 (h : Pc9 c pc [181, 0, 22]) : decode c pc = .ok (.putfield 22, 3) := op_181 h rfl
theorem dw_282 (h : Pc9 c pc [182, 0, 25]) : decode c pc = .ok (.invokevirtual 25, 3) := op_182 h rfl
theorem dw_283 (h : Pc9 c pc [167, 255, 238]) : decode c pc = .ok (.goto (-18), 3) := op_167 h (by decide +kernel)
theorem dw_284 (h : Pc9 c pc [181, 0, 28]) : decode c pc = .ok (.putfield 28, 3) := op_181 h rfl
theorem dw_285 (h : Pc9 c pc [182, 0, 34]) : decode c pc = .ok (.invokevirtual 34, 3) := op_182 h rfl
theorem dw_286 (h : Pc9 c pc [180, 0, 22]) : decode c pc = .ok (.getfield 22, 3) := op_180 h rfl
theorem dw_287 (h : Pc9 c pc [183, 0, 1]) : decode c pc = .ok (.invokespecial 1, 3) := op_183 h rfl
theorem dw_288 (h : Pc9 c pc [187, 0, 7]) : decode c pc = .ok (.new 7, 3) := op_187 h rfl
theorem dw_289 (h : Pc9 c pc [183, 0, 9]) : decode c pc = .ok (.invokespecial 9, 3) := op_183 h rfl
theorem dw_290 (h : Pc9 c pc [181, 0, 10]) : decode c pc = .ok (.putfield 10, 3) := op_181 h rfl
theorem dw_291 (h : Pc9 c pc [187, 0, 16]) : decode c pc = .ok (.new 16, 3) := op_187 h rfl
theorem dw_292 (h : Pc9 c pc [183, 0, 18]) : decode c pc = .ok (.invokespecial 18, 3) := op_183 h rfl
theorem dw_293 (h : Pc9 c pc [189, 0, 16]) : decode c pc = .ok (.anewarray 16, 3) := op_189 h rfl
theorem dw_294 (h : Pc9 c pc [180, 0, 30]) : decode c pc = .ok (.getfield 30, 3) := op_180 h rfl
theorem dw_295 (h : Pc9 c pc [167, 255, 235]) : decode c pc = .ok (.goto (-21), 3) := op_167 h (by decide +kernel)
theorem dw_296 (h : Pc9 c pc [181, 0, 33]) : decode c pc = .ok (.putfield 33, 3) := op_181 h rfl
theorem dw_297 (h : Pc9 c pc [189, 0, 37]) : decode c pc = .ok (.anewarray 37, 3) := op_189 h rfl
theorem dw_298 (h : Pc9 c pc [187, 0, 37]) : decode c pc = .ok (.new 37, 3) := op_187 h rfl
theorem dw_299 (h : Pc9 c pc [183, 0, 43]) : decode c pc = .ok (.invokespecial 43, 3) := op_183 h rfl
theorem dw_300 (h : Pc9 c pc [187, 0, 44]) : decode c pc = .ok (.new 44, 3) := op_187 h rfl
theorem dw_301 (h : Pc9 c pc [183, 0, 46]) : decode c pc = .ok (.invokespecial 46, 3) := op_183 h rfl
theorem dw_302 (h : Pc9 c pc [181, 0, 47]) : decode c pc = .ok (.putfield 47, 3) := op_181 h rfl
theorem dw_303 (h : Pc9 c pc [187, 0, 51]) : decode c pc = .ok (.new 51, 3) := op_187 h rfl
theorem dw_304 (h : Pc9 c pc [183, 0, 53]) : decode c pc = .ok (.invokespecial 53, 3) := op_183 h rfl
theorem dw_305 (h : Pc9 c pc [181, 0, 54]) : decode c pc = .ok (.putfield 54, 3) := op_181 h rfl
theorem dw_306 (h : Pc9 c pc [181, 0, 58]) : decode c pc = .ok (.putfield 58, 3) := op_181 h rfl
theorem dw_307 (h : Pc9 c pc [181, 0, 62]) : decode c pc = .ok (.putfield 62, 3) := op_181 h rfl
theorem dw_308 (h : Pc9 c pc [181, 0, 65]) : decode c pc = .ok (.putfield 65, 3) := op_181 h rfl
theorem dw_309 (h : Pc9 c pc [180, 0, 10]) : decode c pc = .ok (.getfield 10, 3) := op_180 h rfl
theorem dw_310 (h : Pc9 c pc [182, 0, 68]) : decode c pc = .ok (.invokevirtual 68, 3) := op_182 h rfl
theorem dw_311 (h : Pc9 c pc [182, 0, 72]) : decode c pc = .ok (.invokevirtual 72, 3) := op_182 h rfl
theorem dw_312 (h : Pc9 c pc [180, 0, 76]) : decode c pc = .ok (.getfield 76, 3) := op_180 h rfl
theorem dw_313 (h : Pc9 c pc [153, 0, 14]) : decode c pc = .ok (.ifCond .eq 14, 3) := op_153 h (by decide +kernel)
theorem dw_314 (h : Pc9 c pc [16, 156]) : decode c pc = .ok (.bipush (-100), 2) := op_16 h (by decide +kernel)
theorem dw_315 (h : Pc9 c pc [180, 0, 80]) : decode c pc = .ok (.getfield 80, 3) := op_180 h rfl
theorem dw_316 (h : Pc9 c pc [182, 0, 83]) : decode c pc = .ok (.invokevirtual 83, 3) := op_182 h rfl
theorem dw_317 (h : Pc9 c pc [181, 0, 86]) : decode c pc = .ok (.putfield 86, 3) := op_181 h rfl
theorem dw_318 (h : Pc9 c pc [180, 0, 89]) : decode c pc = .ok (.getfield 89, 3) := op_180 h rfl
theorem dw_319 (h : Pc9 c pc [167, 0, 10]) : decode c pc = .ok (.goto 10, 3) := op_167 h (by decide +kernel)
theorem dw_320 (h : Pc9 c pc [180, 0, 92]) : decode c pc = .ok (.getfield 92, 3) := op_180 h rfl
theorem dw_321 (h : Pc9 c pc [182, 0, 95]) : decode c pc = .ok (.invokevirtual 95, 3) := op_182 h rfl
theorem dw_322 (h : Pc9 c pc [180, 0, 99]) : decode c pc = .ok (.getfield 99, 3) := op_180 h rfl
theorem dw_323 (h : Pc9 c pc [182, 0, 102]) : decode c pc = .ok (.invokevirtual 102, 3) := op_182 h rfl
theorem dw_324 (h : Pc9 c pc [180, 0, 106]) : decode c pc = .ok (.getfield 106, 3) := op_180 h rfl
theorem dw_325 (h : Pc9 c pc [182, 0, 109]) : decode c pc = .ok (.invokevirtual 109, 3) := op_182 h rfl
theorem dw_326 (h : Pc9 c pc [182, 0, 112]) : decode c pc = .ok (.invokevirtual 112, 3) := op_182 h rfl
theorem dw_327 (h : Pc9 c pc [184, 0, 116]) : decode c pc = .ok (.invokestatic 116, 3) := op_184 h rfl
theorem dw_328 (h : Pc9 c pc [182, 0, 120]) : decode c pc = .ok (.invokevirtual 120, 3) := op_182 h rfl
theorem dw_329 (h : Pc9 c pc [184, 0, 124]) : decode c pc = .ok (.invokestatic 124, 3) := op_184 h rfl
theorem op_173 (h : Pc9 c pc [173]) : decode c pc = .ok (.lreturn, 1) := o_start (op := 173) (f := _) rfl (pc_at h 0 rfl) rfl rfl rfl
theorem dw_330 (h : Pc9 c pc [173]) : decode c pc = .ok (.lreturn, 1) := op_173 h
theorem dw_331 (h : Pc9 c pc [184, 0, 128]) : decode c pc = .ok (.invokestatic 128, 3) := op_184 h rfl
theorem dw_332 (h : Pc9 c pc [184, 0, 132]) : decode c pc = .ok (.invokestatic 132, 3) := op_184 h rfl
theorem dw_333 (h : Pc9 c pc [184, 0, 137]) : decode c pc = .ok (.invokestatic 137, 3) := op_184 h rfl
theorem dw_334 (h : Pc9 c pc [182, 0, 141]) : decode c pc = .ok (.invokevirtual 141, 3) := op_182 h rfl
theorem dw_335 (h : Pc9 c pc [184, 0, 145]) : decode c pc = .ok (.invokestatic 145, 3) := op_184 h rfl
theorem dw_336 (h : Pc9 c pc [184, 0, 149]) : decode c pc = .ok (.invokestatic 149, 3) := op_184 h rfl
theorem dw_337 (h : Pc9 c pc [182, 0, 153]) : decode c pc = .ok (.invokevirtual 153, 3) := op_182 h rfl
theorem dw_338 (h : Pc9 c pc [182, 0, 156]) : decode c pc = .ok (.invokevirtual 156, 3) := op_182 h rfl
theorem op_32 (h : Pc9 c pc [32]) : decode c pc = .ok (.lload_n 2, 1) := o_start (op := 32) (f := _) rfl (pc_at h 0 rfl) rfl rfl rfl
theorem dw_339 (h : Pc9 c pc [32]) : decode c pc = .ok (.lload_n 2, 1) := op_32 h
theorem dw_340 (h : Pc9 c pc [16, 33]) : decode c pc = .ok (.bipush 33, 2) := op_16 h (by decide +kernel)
theorem dw_341 (h : Pc9 c pc [162, 0, 43]) : decode c pc = .ok (.if_icmp .ge 43, 3) := op_162 h (by decide +kernel)
theorem dw_342 (h : Pc9 c pc [159, 0, 18]) : decode c pc = .ok (.if_icmp .eq 18, 3) := op_159 h (by decide +kernel)
theorem dw_343 (h : Pc9 c pc [182, 0, 159]) : decode c pc = .ok (.invokevirtual 159, 3) := op_182 h rfl
theorem op_135 (h : Pc9 c pc [135]) : decode c pc = .ok (.i2d, 1) := o_start (op := 135) (f := _) rfl (pc_at h 0 rfl) rfl rfl rfl
theorem dw_344 (h : Pc9 c pc [135]) : decode c pc = .ok (.i2d, 1) := op_135 h
theorem op_111 (h : Pc9 c pc [111]) : decode c pc = .ok (.ddiv, 1) := o_start (op := 111) (f := _) rfl (pc_at h 0 rfl) rfl rfl rfl
theorem dw_345 (h : Pc9 c pc [111]) : decode c pc = .ok (.ddiv, 1) := op_111 h
theorem op_175 (h : Pc9 c pc [175]) : decode c pc = .ok (.dreturn, 1) := o_start (op := 175) (f := _) rfl (pc_at h 0 rfl) rfl rfl rfl
theorem dw_346 (h : Pc9 c pc [175]) : decode c pc = .ok (.dreturn, 1) := op_175 h
theorem op_77 (h : Pc9 c pc [77]) : decode c pc = .ok (.astore_n 2, 1) := o_start (op := 77) (f := _) rfl (pc_at h 0 rfl) rfl rfl rfl
theorem dw_347 (h : Pc9 c pc [77]) : decode c pc = .ok (.astore_n 2, 1) := op_77 h
theorem dw_348 (h : Pc9 c pc [182, 0, 162]) : decode c pc = .ok (.invokevirtual 162, 3) := op_182 h rfl
theorem dw_349 (h : Pc9 c pc [180, 0, 166]) : decode c pc = .ok (.getfield 166, 3) := op_180 h rfl
theorem dw_350 (h : Pc9 c pc [182, 0, 169]) : decode c pc = .ok (.invokevirtual 169, 3) := op_182 h rfl
theorem op_134 (h : Pc9 c pc [134]) : decode c pc = .ok (.i2f, 1) := o_start (op := 134) (f := _) rfl (pc_at h 0 rfl) rfl rfl rfl
theorem dw_351 (h : Pc9 c pc [134]) : decode c pc = .ok (.i2f, 1) := op_134 h
theorem op_110 (h : Pc9 c pc [110]) : decode c pc = .ok (.fdiv, 1) := o_start (op := 110) (f := _) rfl (pc_at h 0 rfl) rfl rfl rfl
theorem dw_352 (h : Pc9 c pc [110]) : decode c pc = .ok (.fdiv, 1) := op_110 h
theorem op_174 (h : Pc9 c pc [174]) : decode c pc = .ok (.freturn, 1) := o_start (op := 174) (f := _) rfl (pc_at h 0 rfl) rfl rfl rfl
theorem dw_353 (h : Pc9 c pc [174]) : decode c pc = .ok (.freturn, 1) := op_174 h
theorem dw_354 (h : Pc9 c pc [182, 0, 172]) : decode c pc = .ok (.invokevirtual 172, 3) := op_182 h rfl
theorem dw_355 (h : Pc9 c pc [160, 0, 6]) : decode c pc = .ok (.if_icmp .ne 6, 3) := op_160 h (by decide +kernel)
theorem dw_356 (h : Pc9 c pc [167, 255, 220]) : decode c pc = .ok (.goto (-36), 3) := op_167 h (by decide +kernel)
theorem dw_357 (h : Pc9 c pc [160, 0, 7]) : decode c pc = .ok (.if_icmp .ne 7, 3) := op_160 h (by decide +kernel)
theorem dw_358 (h : Pc9 c pc [167, 0, 14]) : decode c pc = .ok (.goto 14, 3) := op_167 h (by decide +kernel)
theorem dw_359 (h : Pc9 c pc [182, 0, 175]) : decode c pc = .ok (.invokevirtual 175, 3) := op_182 h rfl
theorem dw_360 (h : Pc9 c pc [182, 0, 178]) : decode c pc = .ok (.invokevirtual 178, 3) := op_182 h rfl
theorem dw_361 (h : Pc9 c pc [155, 0, 10]) : decode c pc = .ok (.ifCond .lt 10, 3) := op_155 h (by decide +kernel)
theorem dw_362 (h : Pc9 c pc [164, 0, 5]) : decode c pc = .ok (.if_icmp .le 5, 3) := op_164 h (by decide +kernel)
theorem dw_363 (h : Pc9 c pc [182, 0, 182]) : decode c pc = .ok (.invokevirtual 182, 3) := op_182 h rfl
theorem dw_364 (h : Pc9 c pc [54, 8]) : decode c pc = .ok (.istore 8, 2) := op_54 h rfl
theorem dw_365 (h : Pc9 c pc [21, 8]) : decode c pc = .ok (.iload 8, 2) := op_21 h rfl
theorem dw_366 (h : Pc9 c pc [161, 0, 27]) : decode c pc = .ok (.if_icmp .lt 27, 3) := op_161 h (by decide +kernel)
theorem dw_367 (h : Pc9 c pc [180, 0, 62]) : decode c pc = .ok (.getfield 62, 3) := op_180 h rfl
theorem dw_368 (h : Pc9 c pc [184, 0, 186]) : decode c pc = .ok (.invokestatic 186, 3) := op_184 h rfl
theorem dw_369 (h : Pc9 c pc [132, 8, 255]) : decode c pc = .ok (.iinc 8 (-1), 3) := op_132 h rfl (by decide +kernel)
theorem dw_370 (h : Pc9 c pc [162, 0, 42]) : decode c pc = .ok (.if_icmp .ge 42, 3) := op_162 h (by decide +kernel)
theorem dw_371 (h : Pc9 c pc [159, 0, 17]) : decode c pc = .ok (.if_icmp .eq 17, 3) := op_159 h (by decide +kernel)
theorem dw_372 (h : Pc9 c pc [159, 0, 9]) : decode c pc = .ok (.if_icmp .eq 9, 3) := op_159 h (by decide +kernel)
theorem dw_373 (h : Pc9 c pc [162, 0, 6]) : decode c pc = .ok (.if_icmp .ge 6, 3) := op_162 h (by decide +kernel)
theorem dw_374 (h : Pc9 c pc [167, 255, 209]) : decode c pc = .ok (.goto (-47), 3) := op_167 h (by decide +kernel)
theorem dw_375 (h : Pc9 c pc [182, 0, 189]) : decode c pc = .ok (.invokevirtual 189, 3) := op_182 h rfl
theorem dw_376 (h : Pc9 c pc [154, 0, 5]) : decode c pc = .ok (.ifCond .ne 5, 3) := op_154 h (by decide +kernel)
theorem dw_377 (h : Pc9 c pc [167, 255, 193]) : decode c pc = .ok (.goto (-63), 3) := op_167 h (by decide +kernel)
theorem dw_378 (h : Pc9 c pc [182, 0, 192]) : decode c pc = .ok (.invokevirtual 192, 3) := op_182 h rfl
theorem dw_379 (h : Pc9 c pc [182, 0, 195]) : decode c pc = .ok (.invokevirtual 195, 3) := op_182 h rfl
theorem dw_380 (h : Pc9 c pc [153, 0, 13]) : decode c pc = .ok (.ifCond .eq 13, 3) := op_153 h (by decide +kernel)
theorem dw_381 (h : Pc9 c pc [182, 0, 198]) : decode c pc = .ok (.invokevirtual 198, 3) := op_182 h rfl
theorem dw_382 (h : Pc9 c pc [162, 0, 98]) : decode c pc = .ok (.if_icmp .ge 98, 3) := op_162 h (by decide +kernel)
theorem dw_383 (h : Pc9 c pc [162, 0, 62]) : decode c pc = .ok (.if_icmp .ge 62, 3) := op_162 h (by decide +kernel)
theorem dw_384 (h : Pc9 c pc [167, 0, 18]) : decode c pc = .ok (.goto 18, 3) := op_167 h (by decide +kernel)
theorem dw_385 (h : Pc9 c pc [54, 9]) : decode c pc = .ok (.istore 9, 2) := op_54 h rfl
theorem dw_386 (h : Pc9 c pc [21, 9]) : decode c pc = .ok (.iload 9, 2) := op_21 h rfl
theorem dw_387 (h : Pc9 c pc [164, 0, 16]) : decode c pc = .ok (.if_icmp .le 16, 3) := op_164 h (by decide +kernel)
theorem dw_388 (h : Pc9 c pc [184, 0, 201]) : decode c pc = .ok (.invokestatic 201, 3) := op_184 h rfl
theorem dw_389 (h : Pc9 c pc [132, 8, 1]) : decode c pc = .ok (.iinc 8 1, 3) := op_132 h rfl (by decide +kernel)
theorem dw_390 (h : Pc9 c pc [167, 255, 188]) : decode c pc = .ok (.goto (-68), 3) := op_167 h (by decide +kernel)
theorem dw_391 (h : Pc9 c pc [167, 255, 152]) : decode c pc = .ok (.goto (-104), 3) := op_167 h (by decide +kernel)
theorem dw_392 (h : Pc9 c pc [162, 0, 76]) : decode c pc = .ok (.if_icmp .ge 76, 3) := op_162 h (by decide +kernel)
theorem dw_393 (h : Pc9 c pc [162, 0, 55]) : decode c pc = .ok (.if_icmp .ge 55, 3) := op_162 h (by decide +kernel)
theorem dw_394 (h : Pc9 c pc [167, 255, 174]) : decode c pc = .ok (.goto (-82), 3) := op_167 h (by decide +kernel)
theorem dw_395 (h : Pc9 c pc [162, 0, 91]) : decode c pc = .ok (.if_icmp .ge 91, 3) := op_162 h (by decide +kernel)
theorem dw_396 (h : Pc9 c pc [162, 0, 48]) : decode c pc = .ok (.if_icmp .ge 48, 3) := op_162 h (by decide +kernel)
theorem dw_397 (h : Pc9 c pc [159, 0, 35]) : decode c pc = .ok (.if_icmp .eq 35, 3) := op_159 h (by decide +kernel)
theorem dw_398 (h : Pc9 c pc [167, 255, 202]) : decode c pc = .ok (.goto (-54), 3) := op_167 h (by decide +kernel)
theorem dw_399 (h : Pc9 c pc [167, 255, 159]) : decode c pc = .ok (.goto (-97), 3) := op_167 h (by decide +kernel)
theorem dw_400 (h : Pc9 c pc [180, 0, 54]) : decode c pc = .ok (.getfield 54, 3) := op_180 h rfl
theorem dw_401 (h : Pc9 c pc [182, 0, 204]) : decode c pc = .ok (.invokevirtual 204, 3) := op_182 h rfl
theorem dw_402 (h : Pc9 c pc [180, 0, 207]) : decode c pc = .ok (.getfield 207, 3) := op_180 h rfl
theorem dw_403 (h : Pc9 c pc [182, 0, 210]) : decode c pc = .ok (.invokevirtual 210, 3) := op_182 h rfl
theorem dw_404 (h : Pc9 c pc [153, 0, 16]) : decode c pc = .ok (.ifCond .eq 16, 3) := op_153 h (by decide +kernel)
theorem dw_405 (h : Pc9 c pc [182, 0, 214]) : decode c pc = .ok (.invokevirtual 214, 3) := op_182 h rfl
theorem dw_406 (h : Pc9 c pc [20, 0, 217]) : decode c pc = .ok (.ldc2_w 217, 3) := op_20 h rfl
theorem dw_407 (h : Pc9 c pc [182, 0, 219]) : decode c pc = .ok (.invokevirtual 219, 3) := op_182 h rfl
theorem dw_408 (h : Pc9 c pc [182, 0, 222]) : decode c pc = .ok (.invokevirtual 222, 3) := op_182 h rfl
theorem dw_409 (h : Pc9 c pc [180, 0, 225]) : decode c pc = .ok (.getfield 225, 3) := op_180 h rfl
theorem dw_410 (h : Pc9 c pc [58, 5]) : decode c pc = .ok (.astore 5, 2) := op_58 h rfl
theorem dw_411 (h : Pc9 c pc [25, 5]) : decode c pc = .ok (.aload 5, 2) := op_25 h rfl
theorem dw_412 (h : Pc9 c pc [180, 0, 229]) : decode c pc = .ok (.getfield 229, 3) := op_180 h rfl
theorem dw_413 (h : Pc9 c pc [160, 0, 11]) : decode c pc = .ok (.if_icmp .ne 11, 3) := op_160 h (by decide +kernel)
theorem dw_414 (h : Pc9 c pc [182, 0, 234]) : decode c pc = .ok (.invokevirtual 234, 3) := op_182 h rfl
theorem dw_415 (h : Pc9 c pc [182, 0, 237]) : decode c pc = .ok (.invokevirtual 237, 3) := op_182 h rfl
theorem dw_416 (h : Pc9 c pc [167, 0, 22]) : decode c pc = .ok (.goto 22, 3) := op_167 h (by decide +kernel)
theorem dw_417 (h : Pc9 c pc [182, 0, 240]) : decode c pc = .ok (.invokevirtual 240, 3) := op_182 h rfl
theorem op_33 (h : Pc9 c pc [33]) : decode c pc = .ok (.lload_n 3, 1) := o_start (op := 33) (f := _) rfl (pc_at h 0 rfl) rfl rfl rfl
theorem dw_418 (h : Pc9 c pc [33]) : decode c pc = .ok (.lload_n 3, 1) := op_33 h
theorem dw_419 (h : Pc9 c pc [182, 0, 244]) : decode c pc = .ok (.invokevirtual 244, 3) := op_182 h rfl
theorem dw_420 (h : Pc9 c pc [182, 0, 247]) : decode c pc = .ok (.invokevirtual 247, 3) := op_182 h rfl
theorem dw_421 (h : Pc9 c pc [180, 0, 58]) : decode c pc = .ok (.getfield 58, 3) := op_180 h rfl
theorem dw_422 (h : Pc9 c pc [162, 0, 37]) : decode c pc = .ok (.if_icmp .ge 37, 3) := op_162 h (by decide +kernel)
theorem dw_423 (h : Pc9 c pc [184, 0, 250]) : decode c pc = .ok (.invokestatic 250, 3) := op_184 h rfl
theorem dw_424 (h : Pc9 c pc [167, 255, 213]) : decode c pc = .ok (.goto (-43), 3) := op_167 h (by decide +kernel)
theorem dw_425 (h : Pc9 c pc [182, 0, 253]) : decode c pc = .ok (.invokevirtual 253, 3) := op_182 h rfl
theorem dw_426 (h : Pc9 c pc [182, 1, 1]) : decode c pc = .ok (.invokevirtual 257, 3) := op_182 h rfl
theorem dw_427 (h : Pc9 c pc [182, 1, 5]) : decode c pc = .ok (.invokevirtual 261, 3) := op_182 h rfl
theorem op_19 {a b : UInt8} {v : Nat} (h : Pc9 c pc [19, a, b]) (e : a.toNat * 256 + b.toNat = v) : decode c pc = .ok (.ldc_w v, 3) := o_start (op := 19) (f := _) rfl (pc_at h 0 rfl) rfl (k_u2 (g := fun x => .ldc_w x) (pc_at h 1 rfl) (pc_at h 2 rfl) e) rfl
theorem dw_428 (h : Pc9 c pc [19, 1, 8]) : decode c pc = .ok (.ldc_w 264, 3) := op_19 h rfl
theorem dw_429 (h : Pc9 c pc [182, 1, 9]) : decode c pc = .ok (.invokevirtual 265, 3) := op_182 h rfl
theorem op_158 {a b : UInt8} {v : Int} (h : Pc9 c pc [158, a, b]) (e : Jvm.ClassFile.Reader.signed 16 (a.toNat * 256 + b.toNat) = v) : decode c pc = .ok (.ifCond .le v, 3) := o_start (op := 158) (f := _) rfl (pc_at h 0 rfl) rfl (k_s2 (g := fun x => .ifCond .le x) (pc_at h 1 rfl) (pc_at h 2 rfl) e) rfl
theorem dw_430 (h : Pc9 c pc [158, 0, 7]) : decode c pc = .ok (.ifCond .le 7, 3) := op_158 h (by decide +kernel)
theorem dw_431 (h : Pc9 c pc [182, 1, 13]) : decode c pc = .ok (.invokevirtual 269, 3) := op_182 h rfl
theorem dw_432 (h : Pc9 c pc [16, 253]) : decode c pc = .ok (.bipush (-3), 2) := op_16 h (by decide +kernel)
theorem dw_433 (h : Pc9 c pc [180, 1, 17]) : decode c pc = .ok (.getfield 273, 3) := op_180 h rfl
theorem dw_434 (h : Pc9 c pc [184, 1, 20]) : decode c pc = .ok (.invokestatic 276, 3) := op_184 h rfl
theorem dw_435 (h : Pc9 c pc [182, 1, 26]) : decode c pc = .ok (.invokevirtual 282, 3) := op_182 h rfl
theorem dw_436 (h : Pc9 c pc [162, 0, 71]) : decode c pc = .ok (.if_icmp .ge 71, 3) := op_162 h (by decide +kernel)
theorem dw_437 (h : Pc9 c pc [167, 0, 15]) : decode c pc = .ok (.goto 15, 3) := op_167 h (by decide +kernel)
theorem dw_438 (h : Pc9 c pc [167, 0, 5]) : decode c pc = .ok (.goto 5, 3) := op_167 h (by decide +kernel)
theorem dw_439 (h : Pc9 c pc [184, 1, 29]) : decode c pc = .ok (.invokestatic 285, 3) := op_184 h rfl
theorem dw_440 (h : Pc9 c pc [167, 255, 179]) : decode c pc = .ok (.goto (-77), 3) := op_167 h (by decide +kernel)
theorem op_87 (h : Pc9 c pc [87]) : decode c pc = .ok (.pop, 1) := o_start (op := 87) (f := _) rfl (pc_at h 0 rfl) rfl rfl rfl
theorem dw_441 (h : Pc9 c pc [87]) : decode c pc = .ok (.pop, 1) := op_87 h
theorem dw_442 (h : Pc9 c pc [181, 1, 32]) : decode c pc = .ok (.putfield 288, 3) := op_181 h rfl
theorem dw_443 (h : Pc9 c pc [182, 1, 36]) : decode c pc = .ok (.invokevirtual 292, 3) := op_182 h rfl
theorem dw_444 (h : Pc9 c pc [181, 0, 99]) : decode c pc = .ok (.putfield 99, 3) := op_181 h rfl
theorem dw_445 (h : Pc9 c pc [180, 1, 32]) : decode c pc = .ok (.getfield 288, 3) := op_180 h rfl
theorem dw_446 (h : Pc9 c pc [180, 1, 39]) : decode c pc = .ok (.getfield 295, 3) := op_180 h rfl
theorem dw_447 (h : Pc9 c pc [180, 1, 42]) : decode c pc = .ok (.getfield 298, 3) := op_180 h rfl
theorem dw_448 (h : Pc9 c pc [180, 1, 45]) : decode c pc = .ok (.getfield 301, 3) := op_180 h rfl
theorem dw_449 (h : Pc9 c pc [180, 1, 48]) : decode c pc = .ok (.getfield 304, 3) := op_180 h rfl
theorem dw_450 (h : Pc9 c pc [180, 1, 51]) : decode c pc = .ok (.getfield 307, 3) := op_180 h rfl
theorem dw_451 (h : Pc9 c pc [180, 0, 86]) : decode c pc = .ok (.getfield 86, 3) := op_180 h rfl
theorem dw_452 (h : Pc9 c pc [180, 0, 65]) : decode c pc = .ok (.getfield 65, 3) := op_180 h rfl
theorem dw_453 (h : Pc9 c pc [180, 1, 54]) : decode c pc = .ok (.getfield 310, 3) := op_180 h rfl
theorem dw_454 (h : Pc9 c pc [16, 7]) : decode c pc = .ok (.bipush 7, 2) := op_16 h (by decide +kernel)
theorem dw_455 (h : Pc9 c pc [167, 0, 9]) : decode c pc = .ok (.goto 9, 3) := op_167 h (by decide +kernel)
theorem dw_456 (h : Pc9 c pc [181, 1, 54]) : decode c pc = .ok (.putfield 310, 3) := op_181 h rfl
theorem dw_457 (h : Pc9 c pc [182, 1, 57]) : decode c pc = .ok (.invokevirtual 313, 3) := op_182 h rfl
theorem dw_458 (h : Pc9 c pc [182, 1, 60]) : decode c pc = .ok (.invokevirtual 316, 3) := op_182 h rfl
theorem dw_459 (h : Pc9 c pc [180, 0, 33]) : decode c pc = .ok (.getfield 33, 3) := op_180 h rfl
theorem op_84 (h : Pc9 c pc [84]) : decode c pc = .ok (.bastore, 1) := o_start (op := 84) (f := _) rfl (pc_at h 0 rfl) rfl rfl rfl
theorem dw_460 (h : Pc9 c pc [84]) : decode c pc = .ok (.bastore, 1) := op_84 h
theorem op_51 (h : Pc9 c pc [51]) : decode c pc = .ok (.baload, 1) := o_start (op := 51) (f := _) rfl (pc_at h 0 rfl) rfl rfl rfl
theorem dw_461 (h : Pc9 c pc [51]) : decode c pc = .ok (.baload, 1) := op_51 h
theorem dw_462 (h : Pc9 c pc [155, 0, 9]) : decode c pc = .ok (.ifCond .lt 9, 3) := op_155 h (by decide +kernel)
theorem dw_463 (h : Pc9 c pc [161, 0, 14]) : decode c pc = .ok (.if_icmp .lt 14, 3) := op_161 h (by decide +kernel)
theorem dw_464 (h : Pc9 c pc [187, 1, 63]) : decode c pc = .ok (.new 319, 3) := op_187 h rfl
theorem dw_465 (h : Pc9 c pc [19, 1, 65]) : decode c pc = .ok (.ldc_w 321, 3) := op_19 h rfl
theorem dw_466 (h : Pc9 c pc [183, 1, 67]) : decode c pc = .ok (.invokespecial 323, 3) := op_183 h rfl
theorem op_191 (h : Pc9 c pc [191]) : decode c pc = .ok (.athrow, 1) := o_start (op := 191) (f := _) rfl (pc_at h 0 rfl) rfl rfl rfl
theorem dw_467 (h : Pc9 c pc [191]) : decode c pc = .ok (.athrow, 1) := op_191 h
theorem dw_468 (h : Pc9 c pc [155, 0, 14]) : decode c pc = .ok (.ifCond .lt 14, 3) := op_155 h (by decide +kernel)
theorem dw_469 (h : Pc9 c pc [19, 1, 70]) : decode c pc = .ok (.ldc_w 326, 3) := op_19 h rfl
theorem dw_470 (h : Pc9 c pc [182, 1, 72]) : decode c pc = .ok (.invokevirtual 328, 3) := op_182 h rfl
theorem dw_471 (h : Pc9 c pc [164, 0, 14]) : decode c pc = .ok (.if_icmp .le 14, 3) := op_164 h (by decide +kernel)
theorem dw_472 (h : Pc9 c pc [187, 1, 75]) : decode c pc = .ok (.new 331, 3) := op_187 h rfl
theorem dw_473 (h : Pc9 c pc [19, 1, 77]) : decode c pc = .ok (.ldc_w 333, 3) := op_19 h rfl
theorem dw_474 (h : Pc9 c pc [183, 1, 79]) : decode c pc = .ok (.invokespecial 335, 3) := op_183 h rfl
theorem dw_475 (h : Pc9 c pc [162, 0, 27]) : decode c pc = .ok (.if_icmp .ge 27, 3) := op_162 h (by decide +kernel)
theorem dw_476 (h : Pc9 c pc [184, 1, 80]) : decode c pc = .ok (.invokestatic 336, 3) := op_184 h rfl
theorem dw_477 (h : Pc9 c pc [162, 0, 19]) : decode c pc = .ok (.if_icmp .ge 19, 3) := op_162 h (by decide +kernel)
theorem dw_478 (h : Pc9 c pc [181, 1, 85]) : decode c pc = .ok (.putfield 341, 3) := op_181 h rfl
theorem dw_479 (h : Pc9 c pc [180, 1, 85]) : decode c pc = .ok (.getfield 341, 3) := op_180 h rfl
theorem dw_480 (h : Pc9 c pc [154, 0, 19]) : decode c pc = .ok (.ifCond .ne 19, 3) := op_154 h (by decide +kernel)
theorem dw_481 (h : Pc9 c pc [182, 1, 88]) : decode c pc = .ok (.invokevirtual 344, 3) := op_182 h rfl
theorem dw_482 (h : Pc9 c pc [180, 1, 91]) : decode c pc = .ok (.getfield 347, 3) := op_180 h rfl
theorem dw_483 (h : Pc9 c pc [181, 1, 48]) : decode c pc = .ok (.putfield 304, 3) := op_181 h rfl
theorem dw_484 (h : Pc9 c pc [180, 1, 92]) : decode c pc = .ok (.getfield 348, 3) := op_180 h rfl
theorem dw_485 (h : Pc9 c pc [181, 1, 51]) : decode c pc = .ok (.putfield 307, 3) := op_181 h rfl
theorem dw_486 (h : Pc9 c pc [160, 0, 5]) : decode c pc = .ok (.if_icmp .ne 5, 3) := op_160 h (by decide +kernel)
theorem dw_487 (h : Pc9 c pc [162, 0, 26]) : decode c pc = .ok (.if_icmp .ge 26, 3) := op_162 h (by decide +kernel)
theorem dw_488 (h : Pc9 c pc [167, 255, 230]) : decode c pc = .ok (.goto (-26), 3) := op_167 h (by decide +kernel)
theorem dw_489 (h : Pc9 c pc [153, 0, 10]) : decode c pc = .ok (.ifCond .eq 10, 3) := op_153 h (by decide +kernel)
theorem dw_490 (h : Pc9 c pc [163, 0, 30]) : decode c pc = .ok (.if_icmp .gt 30, 3) := op_163 h (by decide +kernel)
theorem dw_491 (h : Pc9 c pc [162, 0, 68]) : decode c pc = .ok (.if_icmp .ge 68, 3) := op_162 h (by decide +kernel)
theorem dw_492 (h : Pc9 c pc [162, 0, 35]) : decode c pc = .ok (.if_icmp .ge 35, 3) := op_162 h (by decide +kernel)
theorem dw_493 (h : Pc9 c pc [167, 255, 215]) : decode c pc = .ok (.goto (-41), 3) := op_167 h (by decide +kernel)
theorem dw_494 (h : Pc9 c pc [182, 1, 93]) : decode c pc = .ok (.invokevirtual 349, 3) := op_182 h rfl
theorem dw_495 (h : Pc9 c pc [153, 0, 38]) : decode c pc = .ok (.ifCond .eq 38, 3) := op_153 h (by decide +kernel)
theorem dw_496 (h : Pc9 c pc [184, 1, 97]) : decode c pc = .ok (.invokestatic 353, 3) := op_184 h rfl
theorem op_26 (h : Pc9 c pc [26]) : decode c pc = .ok (.iload_n 0, 1) := o_start (op := 26) (f := _) rfl (pc_at h 0 rfl) rfl rfl rfl
theorem dw_497 (h : Pc9 c pc [26]) : decode c pc = .ok (.iload_n 0, 1) := op_26 h
theorem op_133 (h : Pc9 c pc [133]) : decode c pc = .ok (.i2l, 1) := o_start (op := 133) (f := _) rfl (pc_at h 0 rfl) rfl rfl rfl
theorem dw_498 (h : Pc9 c pc [133]) : decode c pc = .ok (.i2l, 1) := op_133 h
theorem dw_499 (h : Pc9 c pc [20, 1, 100]) : decode c pc = .ok (.ldc2_w 356, 3) := op_20 h rfl
theorem op_116 (h : Pc9 c pc [116]) : decode c pc = .ok (.ineg, 1) := o_start (op := 116) (f := _) rfl (pc_at h 0 rfl) rfl rfl rfl
theorem dw_500 (h : Pc9 c pc [116]) : decode c pc = .ok (.ineg, 1) := op_116 h
theorem dw_501 (h : Pc9 c pc [16, 31]) : decode c pc = .ok (.bipush 31, 2) := op_16 h (by decide +kernel)
theorem dw_502 (h : Pc9 c pc [162, 0, 23]) : decode c pc = .ok (.if_icmp .ge 23, 3) := op_162 h (by decide +kernel)
theorem dw_503 (h : Pc9 c pc [159, 0, 36]) : decode c pc = .ok (.if_icmp .eq 36, 3) := op_159 h (by decide +kernel)
theorem dw_504 (h : Pc9 c pc [167, 255, 214]) : decode c pc = .ok (.goto (-42), 3) := op_167 h (by decide +kernel)
theorem dw_505 (h : Pc9 c pc [17, 0, 220]) : decode c pc = .ok (.sipush 220, 3) := op_17 h (by decide +kernel)
theorem dw_506 (h : Pc9 c pc [181, 0, 13]) : decode c pc = .ok (.putfield 13, 3) := op_181 h rfl
theorem dw_507 (h : Pc9 c pc [17, 6, 224]) : decode c pc = .ok (.sipush 1760, 3) := op_17 h (by decide +kernel)
theorem dw_508 (h : Pc9 c pc [181, 0, 16]) : decode c pc = .ok (.putfield 16, 3) := op_181 h rfl
theorem dw_509 (h : Pc9 c pc [17, 1, 184]) : decode c pc = .ok (.sipush 440, 3) := op_17 h (by decide +kernel)
theorem dw_510 (h : Pc9 c pc [181, 0, 34]) : decode c pc = .ok (.putfield 34, 3) := op_181 h rfl
theorem dw_511 (h : Pc9 c pc [181, 0, 37]) : decode c pc = .ok (.putfield 37, 3) := op_181 h rfl
theorem dw_512 (h : Pc9 c pc [181, 0, 40]) : decode c pc = .ok (.putfield 40, 3) := op_181 h rfl
theorem dw_513 (h : Pc9 c pc [181, 0, 43]) : decode c pc = .ok (.putfield 43, 3) := op_181 h rfl
theorem dw_514 (h : Pc9 c pc [181, 0, 50]) : decode c pc = .ok (.putfield 50, 3) := op_181 h rfl
theorem dw_515 (h : Pc9 c pc [181, 0, 53]) : decode c pc = .ok (.putfield 53, 3) := op_181 h rfl
theorem dw_516 (h : Pc9 c pc [184, 0, 56]) : decode c pc = .ok (.invokestatic 56, 3) := op_184 h rfl
theorem dw_517 (h : Pc9 c pc [180, 0, 60]) : decode c pc = .ok (.getfield 60, 3) := op_180 h rfl
theorem op_30 (h : Pc9 c pc [30]) : decode c pc = .ok (.lload_n 0, 1) := o_start (op := 30) (f := _) rfl (pc_at h 0 rfl) rfl rfl rfl
theorem dw_518 (h : Pc9 c pc [30]) : decode c pc = .ok (.lload_n 0, 1) := op_30 h
theorem op_22 {a : UInt8} {v : Nat} (h : Pc9 c pc [22, a]) (e : a.toNat = v) : decode c pc = .ok (.lload v, 2) := o_start (op := 22) (f := _) rfl (pc_at h 0 rfl) rfl (k_u1 (g := fun x => .lload x) (pc_at h 1 rfl) e) rfl
theorem dw_519 (h : Pc9 c pc [22, 4]) : decode c pc = .ok (.lload 4, 2) := op_22 h rfl
theorem op_157 {a b : UInt8} {v : Int} (h : Pc9 c pc [157, a, b]) (e : Jvm.ClassFile.Reader.signed 16 (a.toNat * 256 + b.toNat) = v) : decode c pc = .ok (.ifCond .gt v, 3) := o_start (op := 157) (f := _) rfl (pc_at h 0 rfl) rfl (k_s2 (g := fun x => .ifCond .gt x) (pc_at h 1 rfl) (pc_at h 2 rfl) e) rfl
theorem dw_520 (h : Pc9 c pc [157, 0, 7]) : decode c pc = .ok (.ifCond .gt 7, 3) := op_157 h (by decide +kernel)
theorem op_47 (h : Pc9 c pc [47]) : decode c pc = .ok (.laload, 1) := o_start (op := 47) (f := _) rfl (pc_at h 0 rfl) rfl rfl rfl
theorem dw_521 (h : Pc9 c pc [47]) : decode c pc = .ok (.laload, 1) := op_47 h
theorem op_80 (h : Pc9 c pc [80]) : decode c pc = .ok (.lastore, 1) := o_start (op := 80) (f := _) rfl (pc_at h 0 rfl) rfl rfl rfl
theorem dw_522 (h : Pc9 c pc [80]) : decode c pc = .ok (.lastore, 1) := op_80 h
theorem dw_523 (h : Pc9 c pc [162, 0, 13]) : decode c pc = .ok (.if_icmp .ge 13, 3) := op_162 h (by decide +kernel)
theorem dw_524 (h : Pc9 c pc [167, 255, 242]) : decode c pc = .ok (.goto (-14), 3) := op_167 h (by decide +kernel)
theorem dw_525 (h : Pc9 c pc [20, 0, 63]) : decode c pc = .ok (.ldc2_w 63, 3) := op_20 h rfl
theorem dw_526 (h : Pc9 c pc [181, 0, 60]) : decode c pc = .ok (.putfield 60, 3) := op_181 h rfl
theorem dw_527 (h : Pc9 c pc [20, 0, 65]) : decode c pc = .ok (.ldc2_w 65, 3) := op_20 h rfl
theorem dw_528 (h : Pc9 c pc [182, 0, 71]) : decode c pc = .ok (.invokevirtual 71, 3) := op_182 h rfl
theorem dw_529 (h : Pc9 c pc [16, 28]) : decode c pc = .ok (.bipush 28, 2) := op_16 h (by decide +kernel)
theorem op_123 (h : Pc9 c pc [123]) : decode c pc = .ok (.lshr, 1) := o_start (op := 123) (f := _) rfl (pc_at h 0 rfl) rfl rfl rfl
theorem dw_530 (h : Pc9 c pc [123]) : decode c pc = .ok (.lshr, 1) := op_123 h
theorem op_10 (h : Pc9 c pc [10]) : decode c pc = .ok (.lconst 1, 1) := o_start (op := 10) (f := _) rfl (pc_at h 0 rfl) rfl rfl rfl
theorem dw_531 (h : Pc9 c pc [10]) : decode c pc = .ok (.lconst 1, 1) := op_10 h
theorem op_66 (h : Pc9 c pc [66]) : decode c pc = .ok (.lstore_n 3, 1) := o_start (op := 66) (f := _) rfl (pc_at h 0 rfl) rfl rfl rfl
theorem dw_532 (h : Pc9 c pc [66]) : decode c pc = .ok (.lstore_n 3, 1) := op_66 h
theorem op_101 (h : Pc9 c pc [101]) : decode c pc = .ok (.lsub, 1) := o_start (op := 101) (f := _) rfl (pc_at h 0 rfl) rfl rfl rfl
theorem dw_533 (h : Pc9 c pc [101]) : decode c pc = .ok (.lsub, 1) := op_101 h
theorem dw_534 (h : Pc9 c pc [167, 255, 241]) : decode c pc = .ok (.goto (-15), 3) := op_167 h (by decide +kernel)
theorem op_121 (h : Pc9 c pc [121]) : decode c pc = .ok (.lshl, 1) := o_start (op := 121) (f := _) rfl (pc_at h 0 rfl) rfl rfl rfl
theorem dw_535 (h : Pc9 c pc [121]) : decode c pc = .ok (.lshl, 1) := op_121 h
theorem dw_536 (h : Pc9 c pc [20, 0, 75]) : decode c pc = .ok (.ldc2_w 75, 3) := op_20 h rfl
theorem dw_537 (h : Pc9 c pc [184, 0, 77]) : decode c pc = .ok (.invokestatic 77, 3) := op_184 h rfl
theorem dw_538 (h : Pc9 c pc [180, 0, 81]) : decode c pc = .ok (.getfield 81, 3) := op_180 h rfl
theorem op_145 (h : Pc9 c pc [145]) : decode c pc = .ok (.i2b, 1) := o_start (op := 145) (f := _) rfl (pc_at h 0 rfl) rfl rfl rfl
theorem dw_539 (h : Pc9 c pc [145]) : decode c pc = .ok (.i2b, 1) := op_145 h
theorem dw_540 (h : Pc9 c pc [181, 0, 81]) : decode c pc = .ok (.putfield 81, 3) := op_181 h rfl
theorem dw_541 (h : Pc9 c pc [167, 255, 211]) : decode c pc = .ok (.goto (-45), 3) := op_167 h (by decide +kernel)
theorem dw_542 (h : Pc9 c pc [180, 0, 84]) : decode c pc = .ok (.getfield 84, 3) := op_180 h rfl
theorem dw_543 (h : Pc9 c pc [17, 0, 255]) : decode c pc = .ok (.sipush 255, 3) := op_17 h (by decide +kernel)
theorem dw_544 (h : Pc9 c pc [182, 0, 87]) : decode c pc = .ok (.invokevirtual 87, 3) := op_182 h rfl
theorem dw_545 (h : Pc9 c pc [181, 0, 84]) : decode c pc = .ok (.putfield 84, 3) := op_181 h rfl
theorem dw_546 (h : Pc9 c pc [181, 0, 90]) : decode c pc = .ok (.putfield 90, 3) := op_181 h rfl
theorem dw_547 (h : Pc9 c pc [180, 0, 93]) : decode c pc = .ok (.getfield 93, 3) := op_180 h rfl
theorem dw_548 (h : Pc9 c pc [154, 0, 16]) : decode c pc = .ok (.ifCond .ne 16, 3) := op_154 h (by decide +kernel)
theorem dw_549 (h : Pc9 c pc [181, 0, 93]) : decode c pc = .ok (.putfield 93, 3) := op_181 h rfl
theorem dw_550 (h : Pc9 c pc [180, 0, 90]) : decode c pc = .ok (.getfield 90, 3) := op_180 h rfl
theorem dw_551 (h : Pc9 c pc [181, 0, 96]) : decode c pc = .ok (.putfield 96, 3) := op_181 h rfl
theorem dw_552 (h : Pc9 c pc [182, 0, 99]) : decode c pc = .ok (.invokevirtual 99, 3) := op_182 h rfl
theorem dw_553 (h : Pc9 c pc [20, 0, 102]) : decode c pc = .ok (.ldc2_w 102, 3) := op_20 h rfl
theorem dw_554 (h : Pc9 c pc [20, 0, 104]) : decode c pc = .ok (.ldc2_w 104, 3) := op_20 h rfl
theorem dw_555 (h : Pc9 c pc [182, 0, 106]) : decode c pc = .ok (.invokevirtual 106, 3) := op_182 h rfl
theorem dw_556 (h : Pc9 c pc [153, 0, 42]) : decode c pc = .ok (.ifCond .eq 42, 3) := op_153 h (by decide +kernel)
theorem dw_557 (h : Pc9 c pc [162, 0, 34]) : decode c pc = .ok (.if_icmp .ge 34, 3) := op_162 h (by decide +kernel)
theorem dw_558 (h : Pc9 c pc [182, 0, 110]) : decode c pc = .ok (.invokevirtual 110, 3) := op_182 h rfl
theorem dw_559 (h : Pc9 c pc [167, 255, 216]) : decode c pc = .ok (.goto (-40), 3) := op_167 h (by decide +kernel)
theorem dw_560 (h : Pc9 c pc [20, 0, 114]) : decode c pc = .ok (.ldc2_w 114, 3) := op_20 h rfl
theorem dw_561 (h : Pc9 c pc [20, 0, 116]) : decode c pc = .ok (.ldc2_w 116, 3) := op_20 h rfl
theorem dw_562 (h : Pc9 c pc [154, 0, 10]) : decode c pc = .ok (.ifCond .ne 10, 3) := op_154 h (by decide +kernel)
theorem dw_563 (h : Pc9 c pc [182, 0, 118]) : decode c pc = .ok (.invokevirtual 118, 3) := op_182 h rfl
theorem dw_564 (h : Pc9 c pc [184, 0, 123]) : decode c pc = .ok (.invokestatic 123, 3) := op_184 h rfl
theorem dw_565 (h : Pc9 c pc [182, 0, 129]) : decode c pc = .ok (.invokevirtual 129, 3) := op_182 h rfl
theorem dw_566 (h : Pc9 c pc [180, 0, 13]) : decode c pc = .ok (.getfield 13, 3) := op_180 h rfl
theorem dw_567 (h : Pc9 c pc [182, 0, 132]) : decode c pc = .ok (.invokevirtual 132, 3) := op_182 h rfl
theorem dw_568 (h : Pc9 c pc [18, 135]) : decode c pc = .ok (.ldc 135, 2) := op_18 h rfl
theorem dw_569 (h : Pc9 c pc [182, 0, 140]) : decode c pc = .ok (.invokevirtual 140, 3) := op_182 h rfl
theorem dw_570 (h : Pc9 c pc [182, 0, 143]) : decode c pc = .ok (.invokevirtual 143, 3) := op_182 h rfl
theorem dw_571 (h : Pc9 c pc [154, 0, 23]) : decode c pc = .ok (.ifCond .ne 23, 3) := op_154 h (by decide +kernel)
theorem op_129 (h : Pc9 c pc [129]) : decode c pc = .ok (.lor, 1) := o_start (op := 129) (f := _) rfl (pc_at h 0 rfl) rfl rfl rfl
theorem dw_572 (h : Pc9 c pc [129]) : decode c pc = .ok (.lor, 1) := op_129 h
theorem dw_573 (h : Pc9 c pc [154, 0, 25]) : decode c pc = .ok (.ifCond .ne 25, 3) := op_154 h (by decide +kernel)
theorem dw_574 (h : Pc9 c pc [153, 0, 4]) : decode c pc = .ok (.ifCond .eq 4, 3) := op_153 h (by decide +kernel)
theorem dw_575 (h : Pc9 c pc [153, 0, 65]) : decode c pc = .ok (.ifCond .eq 65, 3) := op_153 h (by decide +kernel)
theorem dw_576 (h : Pc9 c pc [163, 0, 7]) : decode c pc = .ok (.if_icmp .gt 7, 3) := op_163 h (by decide +kernel)
theorem dw_577 (h : Pc9 c pc [160, 0, 10]) : decode c pc = .ok (.if_icmp .ne 10, 3) := op_160 h (by decide +kernel)
theorem dw_578 (h : Pc9 c pc [167, 255, 180]) : decode c pc = .ok (.goto (-76), 3) := op_167 h (by decide +kernel)
theorem dw_579 (h : Pc9 c pc [18, 146]) : decode c pc = .ok (.ldc 146, 2) := op_18 h rfl
theorem dw_580 (h : Pc9 c pc [167, 0, 43]) : decode c pc = .ok (.goto 43, 3) := op_167 h (by decide +kernel)
theorem dw_581 (h : Pc9 c pc [18, 148]) : decode c pc = .ok (.ldc 148, 2) := op_18 h rfl
theorem dw_582 (h : Pc9 c pc [167, 0, 30]) : decode c pc = .ok (.goto 30, 3) := op_167 h (by decide +kernel)
theorem dw_583 (h : Pc9 c pc [18, 150]) : decode c pc = .ok (.ldc 150, 2) := op_18 h rfl
theorem dw_584 (h : Pc9 c pc [167, 0, 17]) : decode c pc = .ok (.goto 17, 3) := op_167 h (by decide +kernel)
theorem dw_585 (h : Pc9 c pc [18, 152]) : decode c pc = .ok (.ldc 152, 2) := op_18 h rfl
theorem dw_586 (h : Pc9 c pc [182, 0, 154]) : decode c pc = .ok (.invokevirtual 154, 3) := op_182 h rfl
theorem dw_587 (h : Pc9 c pc [160, 0, 8]) : decode c pc = .ok (.if_icmp .ne 8, 3) := op_160 h (by decide +kernel)
theorem dw_588 (h : Pc9 c pc [184, 0, 157]) : decode c pc = .ok (.invokestatic 157, 3) := op_184 h rfl
theorem dw_589 (h : Pc9 c pc [154, 0, 21]) : decode c pc = .ok (.ifCond .ne 21, 3) := op_154 h (by decide +kernel)
theorem dw_590 (h : Pc9 c pc [18, 161]) : decode c pc = .ok (.ldc 161, 2) := op_18 h rfl
theorem dw_591 (h : Pc9 c pc [182, 0, 163]) : decode c pc = .ok (.invokevirtual 163, 3) := op_182 h rfl
theorem dw_592 (h : Pc9 c pc [167, 0, 82]) : decode c pc = .ok (.goto 82, 3) := op_167 h (by decide +kernel)
theorem dw_593 (h : Pc9 c pc [18, 166]) : decode c pc = .ok (.ldc 166, 2) := op_18 h rfl
theorem dw_594 (h : Pc9 c pc [182, 0, 168]) : decode c pc = .ok (.invokevirtual 168, 3) := op_182 h rfl
theorem dw_595 (h : Pc9 c pc [167, 0, 66]) : decode c pc = .ok (.goto 66, 3) := op_167 h (by decide +kernel)
theorem dw_596 (h : Pc9 c pc [18, 171]) : decode c pc = .ok (.ldc 171, 2) := op_18 h rfl
theorem dw_597 (h : Pc9 c pc [182, 0, 173]) : decode c pc = .ok (.invokevirtual 173, 3) := op_182 h rfl
theorem dw_598 (h : Pc9 c pc [167, 0, 50]) : decode c pc = .ok (.goto 50, 3) := op_167 h (by decide +kernel)
theorem dw_599 (h : Pc9 c pc [18, 176]) : decode c pc = .ok (.ldc 176, 2) := op_18 h rfl
theorem dw_600 (h : Pc9 c pc [167, 0, 34]) : decode c pc = .ok (.goto 34, 3) := op_167 h (by decide +kernel)
theorem dw_601 (h : Pc9 c pc [18, 181]) : decode c pc = .ok (.ldc 181, 2) := op_18 h rfl
theorem dw_602 (h : Pc9 c pc [167, 0, 8]) : decode c pc = .ok (.goto 8, 3) := op_167 h (by decide +kernel)
theorem op_156 {a b : UInt8} {v : Int} (h : Pc9 c pc [156, a, b]) (e : Jvm.ClassFile.Reader.signed 16 (a.toNat * 256 + b.toNat) = v) : decode c pc = .ok (.ifCond .ge v, 3) := o_start (op := 156) (f := _) rfl (pc_at h 0 rfl) rfl (k_s2 (g := fun x => .ifCond .ge x) (pc_at h 1 rfl) (pc_at h 2 rfl) e) rfl
theorem dw_603 (h : Pc9 c pc [156, 0, 5]) : decode c pc = .ok (.ifCond .ge 5, 3) := op_156 h (by decide +kernel)
theorem dw_604 (h : Pc9 c pc [159, 0, 10]) : decode c pc = .ok (.if_icmp .eq 10, 3) := op_159 h (by decide +kernel)
theorem dw_605 (h : Pc9 c pc [180, 0, 183]) : decode c pc = .ok (.getfield 183, 3) := op_180 h rfl
theorem dw_606 (h : Pc9 c pc [181, 0, 183]) : decode c pc = .ok (.putfield 183, 3) := op_181 h rfl
theorem dw_607 (h : Pc9 c pc [182, 0, 186]) : decode c pc = .ok (.invokevirtual 186, 3) := op_182 h rfl
theorem dw_608 (h : Pc9 c pc [182, 0, 193]) : decode c pc = .ok (.invokevirtual 193, 3) := op_182 h rfl
theorem dw_609 (h : Pc9 c pc [167, 255, 245]) : decode c pc = .ok (.goto (-11), 3) := op_167 h (by decide +kernel)
theorem dw_610 (h : Pc9 c pc [181, 0, 195]) : decode c pc = .ok (.putfield 195, 3) := op_181 h rfl
theorem dw_611 (h : Pc9 c pc [167, 0, 7]) : decode c pc = .ok (.goto 7, 3) := op_167 h (by decide +kernel)
theorem dw_612 (h : Pc9 c pc [180, 0, 96]) : decode c pc = .ok (.getfield 96, 3) := op_180 h rfl
theorem dw_613 (h : Pc9 c pc [184, 0, 198]) : decode c pc = .ok (.invokestatic 198, 3) := op_184 h rfl
theorem dw_614 (h : Pc9 c pc [181, 0, 201]) : decode c pc = .ok (.putfield 201, 3) := op_181 h rfl
theorem dw_615 (h : Pc9 c pc [180, 0, 195]) : decode c pc = .ok (.getfield 195, 3) := op_180 h rfl
theorem dw_616 (h : Pc9 c pc [162, 0, 21]) : decode c pc = .ok (.if_icmp .ge 21, 3) := op_162 h (by decide +kernel)
theorem dw_617 (h : Pc9 c pc [20, 0, 207]) : decode c pc = .ok (.ldc2_w 207, 3) := op_20 h rfl
theorem dw_618 (h : Pc9 c pc [182, 0, 209]) : decode c pc = .ok (.invokevirtual 209, 3) := op_182 h rfl
theorem dw_619 (h : Pc9 c pc [167, 0, 19]) : decode c pc = .ok (.goto 19, 3) := op_167 h (by decide +kernel)
theorem dw_620 (h : Pc9 c pc [182, 0, 213]) : decode c pc = .ok (.invokevirtual 213, 3) := op_182 h rfl
theorem dw_621 (h : Pc9 c pc [180, 0, 201]) : decode c pc = .ok (.getfield 201, 3) := op_180 h rfl
theorem dw_622 (h : Pc9 c pc [184, 0, 216]) : decode c pc = .ok (.invokestatic 216, 3) := op_184 h rfl
theorem dw_623 (h : Pc9 c pc [182, 0, 220]) : decode c pc = .ok (.invokevirtual 220, 3) := op_182 h rfl
theorem dw_624 (h : Pc9 c pc [182, 0, 223]) : decode c pc = .ok (.invokevirtual 223, 3) := op_182 h rfl
theorem dw_625 (h : Pc9 c pc [167, 0, 13]) : decode c pc = .ok (.goto 13, 3) := op_167 h (by decide +kernel)
theorem dw_626 (h : Pc9 c pc [182, 0, 227]) : decode c pc = .ok (.invokevirtual 227, 3) := op_182 h rfl
theorem dw_627 (h : Pc9 c pc [184, 0, 231]) : decode c pc = .ok (.invokestatic 231, 3) := op_184 h rfl
theorem dw_628 (h : Pc9 c pc [154, 0, 22]) : decode c pc = .ok (.ifCond .ne 22, 3) := op_154 h (by decide +kernel)
theorem dw_629 (h : Pc9 c pc [184, 0, 234]) : decode c pc = .ok (.invokestatic 234, 3) := op_184 h rfl
theorem dw_630 (h : Pc9 c pc [155, 0, 35]) : decode c pc = .ok (.ifCond .lt 35, 3) := op_155 h (by decide +kernel)
theorem dw_631 (h : Pc9 c pc [160, 0, 14]) : decode c pc = .ok (.if_icmp .ne 14, 3) := op_160 h (by decide +kernel)
theorem dw_632 (h : Pc9 c pc [154, 0, 6]) : decode c pc = .ok (.ifCond .ne 6, 3) := op_154 h (by decide +kernel)
theorem dw_633 (h : Pc9 c pc [132, 4, 255]) : decode c pc = .ok (.iinc 4 (-1), 3) := op_132 h rfl (by decide +kernel)
theorem dw_634 (h : Pc9 c pc [182, 0, 238]) : decode c pc = .ok (.invokevirtual 238, 3) := op_182 h rfl
theorem dw_635 (h : Pc9 c pc [182, 0, 242]) : decode c pc = .ok (.invokevirtual 242, 3) := op_182 h rfl
theorem dw_636 (h : Pc9 c pc [182, 0, 245]) : decode c pc = .ok (.invokevirtual 245, 3) := op_182 h rfl
theorem dw_637 (h : Pc9 c pc [167, 255, 227]) : decode c pc = .ok (.goto (-29), 3) := op_167 h (by decide +kernel)
theorem dw_638 (h : Pc9 c pc [182, 0, 249]) : decode c pc = .ok (.invokevirtual 249, 3) := op_182 h rfl
theorem op_131 (h : Pc9 c pc [131]) : decode c pc = .ok (.lxor, 1) := o_start (op := 131) (f := _) rfl (pc_at h 0 rfl) rfl rfl rfl
theorem dw_639 (h : Pc9 c pc [131]) : decode c pc = .ok (.lxor, 1) := op_131 h
theorem dw_640 (h : Pc9 c pc [162, 0, 10]) : decode c pc = .ok (.if_icmp .ge 10, 3) := op_162 h (by decide +kernel)
theorem dw_641 (h : Pc9 c pc [167, 255, 205]) : decode c pc = .ok (.goto (-51), 3) := op_167 h (by decide +kernel)
theorem op_14 (h : Pc9 c pc [14]) : decode c pc = .ok (.dconst 0, 1) := o_start (op := 14) (f := _) rfl (pc_at h 0 rfl) rfl rfl rfl
theorem dw_642 (h : Pc9 c pc [14]) : decode c pc = .ok (.dconst 0, 1) := op_14 h
theorem dw_643 (h : Pc9 c pc [167, 0, 20]) : decode c pc = .ok (.goto 20, 3) := op_167 h (by decide +kernel)
theorem dw_644 (h : Pc9 c pc [162, 0, 47]) : decode c pc = .ok (.if_icmp .ge 47, 3) := op_162 h (by decide +kernel)
theorem dw_645 (h : Pc9 c pc [167, 255, 223]) : decode c pc = .ok (.goto (-33), 3) := op_167 h (by decide +kernel)
theorem dw_646 (h : Pc9 c pc [162, 0, 49]) : decode c pc = .ok (.if_icmp .ge 49, 3) := op_162 h (by decide +kernel)
theorem dw_647 (h : Pc9 c pc [162, 0, 33]) : decode c pc = .ok (.if_icmp .ge 33, 3) := op_162 h (by decide +kernel)
theorem dw_648 (h : Pc9 c pc [180, 0, 34]) : decode c pc = .ok (.getfield 34, 3) := op_180 h rfl
theorem dw_649 (h : Pc9 c pc [182, 0, 252]) : decode c pc = .ok (.invokevirtual 252, 3) := op_182 h rfl
theorem dw_650 (h : Pc9 c pc [182, 1, 0]) : decode c pc = .ok (.invokevirtual 256, 3) := op_182 h rfl
theorem dw_651 (h : Pc9 c pc [182, 1, 4]) : decode c pc = .ok (.invokevirtual 260, 3) := op_182 h rfl
theorem dw_652 (h : Pc9 c pc [182, 1, 7]) : decode c pc = .ok (.invokevirtual 263, 3) := op_182 h rfl
theorem dw_653 (h : Pc9 c pc [182, 1, 11]) : decode c pc = .ok (.invokevirtual 267, 3) := op_182 h rfl
theorem op_11 (h : Pc9 c pc [11]) : decode c pc = .ok (.fconst 0, 1) := o_start (op := 11) (f := _) rfl (pc_at h 0 rfl) rfl rfl rfl
theorem dw_654 (h : Pc9 c pc [11]) : decode c pc = .ok (.fconst 0, 1) := op_11 h
theorem dw_655 (h : Pc9 c pc [160, 0, 19]) : decode c pc = .ok (.if_icmp .ne 19, 3) := op_160 h (by decide +kernel)
theorem dw_656 (h : Pc9 c pc [182, 1, 14]) : decode c pc = .ok (.invokevirtual 270, 3) := op_182 h rfl
theorem dw_657 (h : Pc9 c pc [167, 255, 228]) : decode c pc = .ok (.goto (-28), 3) := op_167 h (by decide +kernel)
theorem dw_658 (h : Pc9 c pc [180, 0, 43]) : decode c pc = .ok (.getfield 43, 3) := op_180 h rfl
theorem dw_659 (h : Pc9 c pc [162, 0, 97]) : decode c pc = .ok (.if_icmp .ge 97, 3) := op_162 h (by decide +kernel)
theorem dw_660 (h : Pc9 c pc [162, 0, 79]) : decode c pc = .ok (.if_icmp .ge 79, 3) := op_162 h (by decide +kernel)
theorem dw_661 (h : Pc9 c pc [160, 0, 50]) : decode c pc = .ok (.if_icmp .ne 50, 3) := op_160 h (by decide +kernel)
theorem dw_662 (h : Pc9 c pc [160, 0, 20]) : decode c pc = .ok (.if_icmp .ne 20, 3) := op_160 h (by decide +kernel)
theorem dw_663 (h : Pc9 c pc [167, 255, 192]) : decode c pc = .ok (.goto (-64), 3) := op_167 h (by decide +kernel)
theorem dw_664 (h : Pc9 c pc [167, 255, 157]) : decode c pc = .ok (.goto (-99), 3) := op_167 h (by decide +kernel)
theorem dw_665 (h : Pc9 c pc [182, 1, 17]) : decode c pc = .ok (.invokevirtual 273, 3) := op_182 h rfl
theorem dw_666 (h : Pc9 c pc [153, 0, 22]) : decode c pc = .ok (.ifCond .eq 22, 3) := op_153 h (by decide +kernel)
theorem dw_667 (h : Pc9 c pc [167, 255, 199]) : decode c pc = .ok (.goto (-57), 3) := op_167 h (by decide +kernel)
theorem dw_668 (h : Pc9 c pc [160, 0, 42]) : decode c pc = .ok (.if_icmp .ne 42, 3) := op_160 h (by decide +kernel)
theorem dw_669 (h : Pc9 c pc [159, 0, 31]) : decode c pc = .ok (.if_icmp .eq 31, 3) := op_159 h (by decide +kernel)
theorem dw_670 (h : Pc9 c pc [159, 0, 16]) : decode c pc = .ok (.if_icmp .eq 16, 3) := op_159 h (by decide +kernel)
theorem dw_671 (h : Pc9 c pc [167, 255, 190]) : decode c pc = .ok (.goto (-66), 3) := op_167 h (by decide +kernel)
theorem dw_672 (h : Pc9 c pc [182, 1, 21]) : decode c pc = .ok (.invokevirtual 277, 3) := op_182 h rfl
theorem dw_673 (h : Pc9 c pc [162, 0, 41]) : decode c pc = .ok (.if_icmp .ge 41, 3) := op_162 h (by decide +kernel)
theorem dw_674 (h : Pc9 c pc [159, 0, 13]) : decode c pc = .ok (.if_icmp .eq 13, 3) := op_159 h (by decide +kernel)
theorem dw_675 (h : Pc9 c pc [162, 0, 88]) : decode c pc = .ok (.if_icmp .ge 88, 3) := op_162 h (by decide +kernel)
theorem dw_676 (h : Pc9 c pc [153, 0, 40]) : decode c pc = .ok (.ifCond .eq 40, 3) := op_153 h (by decide +kernel)
theorem dw_677 (h : Pc9 c pc [167, 255, 208]) : decode c pc = .ok (.goto (-48), 3) := op_167 h (by decide +kernel)
theorem dw_678 (h : Pc9 c pc [167, 255, 165]) : decode c pc = .ok (.goto (-91), 3) := op_167 h (by decide +kernel)
theorem dw_679 (h : Pc9 c pc [163, 0, 32]) : decode c pc = .ok (.if_icmp .gt 32, 3) := op_163 h (by decide +kernel)
theorem dw_680 (h : Pc9 c pc [182, 1, 24]) : decode c pc = .ok (.invokevirtual 280, 3) := op_182 h rfl
theorem dw_681 (h : Pc9 c pc [182, 1, 28]) : decode c pc = .ok (.invokevirtual 284, 3) := op_182 h rfl
theorem dw_682 (h : Pc9 c pc [162, 0, 93]) : decode c pc = .ok (.if_icmp .ge 93, 3) := op_162 h (by decide +kernel)
theorem op_112 (h : Pc9 c pc [112]) : decode c pc = .ok (.irem, 1) := o_start (op := 112) (f := _) rfl (pc_at h 0 rfl) rfl rfl rfl
theorem dw_683 (h : Pc9 c pc [112]) : decode c pc = .ok (.irem, 1) := op_112 h
theorem dw_684 (h : Pc9 c pc [162, 0, 75]) : decode c pc = .ok (.if_icmp .ge 75, 3) := op_162 h (by decide +kernel)
theorem op_108 (h : Pc9 c pc [108]) : decode c pc = .ok (.idiv, 1) := o_start (op := 108) (f := _) rfl (pc_at h 0 rfl) rfl rfl rfl
theorem dw_685 (h : Pc9 c pc [108]) : decode c pc = .ok (.idiv, 1) := op_108 h
theorem dw_686 (h : Pc9 c pc [159, 0, 6]) : decode c pc = .ok (.if_icmp .eq 6, 3) := op_159 h (by decide +kernel)
theorem dw_687 (h : Pc9 c pc [184, 1, 32]) : decode c pc = .ok (.invokestatic 288, 3) := op_184 h rfl
theorem dw_688 (h : Pc9 c pc [164, 0, 8]) : decode c pc = .ok (.if_icmp .le 8, 3) := op_164 h (by decide +kernel)
theorem dw_689 (h : Pc9 c pc [184, 1, 35]) : decode c pc = .ok (.invokestatic 291, 3) := op_184 h rfl
theorem dw_690 (h : Pc9 c pc [182, 1, 38]) : decode c pc = .ok (.invokevirtual 294, 3) := op_182 h rfl
theorem dw_691 (h : Pc9 c pc [162, 0, 118]) : decode c pc = .ok (.if_icmp .ge 118, 3) := op_162 h (by decide +kernel)
theorem dw_692 (h : Pc9 c pc [162, 0, 100]) : decode c pc = .ok (.if_icmp .ge 100, 3) := op_162 h (by decide +kernel)
theorem dw_693 (h : Pc9 c pc [162, 0, 82]) : decode c pc = .ok (.if_icmp .ge 82, 3) := op_162 h (by decide +kernel)
theorem dw_694 (h : Pc9 c pc [159, 0, 76]) : decode c pc = .ok (.if_icmp .eq 76, 3) := op_159 h (by decide +kernel)
theorem dw_695 (h : Pc9 c pc [160, 0, 61]) : decode c pc = .ok (.if_icmp .ne 61, 3) := op_160 h (by decide +kernel)
theorem dw_696 (h : Pc9 c pc [159, 0, 45]) : decode c pc = .ok (.if_icmp .eq 45, 3) := op_159 h (by decide +kernel)
theorem dw_697 (h : Pc9 c pc [159, 0, 38]) : decode c pc = .ok (.if_icmp .eq 38, 3) := op_159 h (by decide +kernel)
theorem dw_698 (h : Pc9 c pc [160, 0, 22]) : decode c pc = .ok (.if_icmp .ne 22, 3) := op_160 h (by decide +kernel)
theorem dw_699 (h : Pc9 c pc [167, 255, 171]) : decode c pc = .ok (.goto (-85), 3) := op_167 h (by decide +kernel)
theorem dw_700 (h : Pc9 c pc [167, 255, 153]) : decode c pc = .ok (.goto (-103), 3) := op_167 h (by decide +kernel)
theorem dw_701 (h : Pc9 c pc [167, 255, 136]) : decode c pc = .ok (.goto (-120), 3) := op_167 h (by decide +kernel)
theorem op_55 {a : UInt8} {v : Nat} (h : Pc9 c pc [55, a]) (e : a.toNat = v) : decode c pc = .ok (.lstore v, 2) := o_start (op := 55) (f := _) rfl (pc_at h 0 rfl) rfl (k_u1 (g := fun x => .lstore x) (pc_at h 1 rfl) e) rfl
theorem dw_702 (h : Pc9 c pc [55, 5]) : decode c pc = .ok (.lstore 5, 2) := op_55 h rfl
theorem dw_703 (h : Pc9 c pc [22, 5]) : decode c pc = .ok (.lload 5, 2) := op_22 h rfl
theorem dw_704 (h : Pc9 c pc [181, 1, 41]) : decode c pc = .ok (.putfield 297, 3) := op_181 h rfl
theorem dw_705 (h : Pc9 c pc [162, 0, 161]) : decode c pc = .ok (.if_icmp .ge 161, 3) := op_162 h (by decide +kernel)
theorem dw_706 (h : Pc9 c pc [180, 1, 41]) : decode c pc = .ok (.getfield 297, 3) := op_180 h rfl
theorem dw_707 (h : Pc9 c pc [154, 0, 9]) : decode c pc = .ok (.ifCond .ne 9, 3) := op_154 h (by decide +kernel)
theorem dw_708 (h : Pc9 c pc [167, 0, 112]) : decode c pc = .ok (.goto 112, 3) := op_167 h (by decide +kernel)
theorem dw_709 (h : Pc9 c pc [182, 1, 44]) : decode c pc = .ok (.invokevirtual 300, 3) := op_182 h rfl
theorem dw_710 (h : Pc9 c pc [159, 0, 56]) : decode c pc = .ok (.if_icmp .eq 56, 3) := op_159 h (by decide +kernel)
theorem dw_711 (h : Pc9 c pc [160, 0, 41]) : decode c pc = .ok (.if_icmp .ne 41, 3) := op_160 h (by decide +kernel)
theorem dw_712 (h : Pc9 c pc [167, 255, 182]) : decode c pc = .ok (.goto (-74), 3) := op_167 h (by decide +kernel)
theorem dw_713 (h : Pc9 c pc [180, 0, 50]) : decode c pc = .ok (.getfield 50, 3) := op_180 h rfl
theorem dw_714 (h : Pc9 c pc [167, 255, 93]) : decode c pc = .ok (.goto (-163), 3) := op_167 h (by decide +kernel)
theorem dw_715 (h : Pc9 c pc [182, 1, 47]) : decode c pc = .ok (.invokevirtual 303, 3) := op_182 h rfl
theorem dw_716 (h : Pc9 c pc [167, 255, 231]) : decode c pc = .ok (.goto (-25), 3) := op_167 h (by decide +kernel)
theorem dw_717 (h : Pc9 c pc [55, 4]) : decode c pc = .ok (.lstore 4, 2) := op_55 h rfl
theorem dw_718 (h : Pc9 c pc [20, 1, 50]) : decode c pc = .ok (.ldc2_w 306, 3) := op_20 h rfl
theorem dw_719 (h : Pc9 c pc [182, 1, 52]) : decode c pc = .ok (.invokevirtual 308, 3) := op_182 h rfl
theorem dw_720 (h : Pc9 c pc [160, 0, 44]) : decode c pc = .ok (.if_icmp .ne 44, 3) := op_160 h (by decide +kernel)
theorem dw_721 (h : Pc9 c pc [17, 6, 4]) : decode c pc = .ok (.sipush 1540, 3) := op_17 h (by decide +kernel)
theorem dw_722 (h : Pc9 c pc [180, 0, 16]) : decode c pc = .ok (.getfield 16, 3) := op_180 h rfl
theorem dw_723 (h : Pc9 c pc [154, 0, 28]) : decode c pc = .ok (.ifCond .ne 28, 3) := op_154 h (by decide +kernel)
theorem dw_724 (h : Pc9 c pc [16, 16]) : decode c pc = .ok (.bipush 16, 2) := op_16 h (by decide +kernel)
theorem op_97 (h : Pc9 c pc [97]) : decode c pc = .ok (.ladd, 1) := o_start (op := 97) (f := _) rfl (pc_at h 0 rfl) rfl rfl rfl
theorem dw_725 (h : Pc9 c pc [97]) : decode c pc = .ok (.ladd, 1) := op_97 h
theorem dw_726 (h : Pc9 c pc [182, 1, 56]) : decode c pc = .ok (.invokevirtual 312, 3) := op_182 h rfl
theorem dw_727 (h : Pc9 c pc [16, 22]) : decode c pc = .ok (.bipush 22, 2) := op_16 h (by decide +kernel)
theorem dw_728 (h : Pc9 c pc [182, 1, 59]) : decode c pc = .ok (.invokevirtual 315, 3) := op_182 h rfl
theorem dw_729 (h : Pc9 c pc [180, 0, 37]) : decode c pc = .ok (.getfield 37, 3) := op_180 h rfl
theorem dw_730 (h : Pc9 c pc [182, 1, 62]) : decode c pc = .ok (.invokevirtual 318, 3) := op_182 h rfl
theorem dw_731 (h : Pc9 c pc [182, 1, 66]) : decode c pc = .ok (.invokevirtual 322, 3) := op_182 h rfl
theorem dw_732 (h : Pc9 c pc [184, 1, 70]) : decode c pc = .ok (.invokestatic 326, 3) := op_184 h rfl
theorem dw_733 (h : Pc9 c pc [162, 0, 87]) : decode c pc = .ok (.if_icmp .ge 87, 3) := op_162 h (by decide +kernel)
theorem dw_734 (h : Pc9 c pc [167, 255, 167]) : decode c pc = .ok (.goto (-89), 3) := op_167 h (by decide +kernel)
theorem dw_735 (h : Pc9 c pc [182, 1, 74]) : decode c pc = .ok (.invokevirtual 330, 3) := op_182 h rfl
theorem dw_736 (h : Pc9 c pc [162, 0, 81]) : decode c pc = .ok (.if_icmp .ge 81, 3) := op_162 h (by decide +kernel)
theorem dw_737 (h : Pc9 c pc [55, 7]) : decode c pc = .ok (.lstore 7, 2) := op_55 h rfl
theorem dw_738 (h : Pc9 c pc [22, 7]) : decode c pc = .ok (.lload 7, 2) := op_22 h rfl
theorem dw_739 (h : Pc9 c pc [167, 255, 172]) : decode c pc = .ok (.goto (-84), 3) := op_167 h (by decide +kernel)
theorem dw_740 (h : Pc9 c pc [180, 0, 40]) : decode c pc = .ok (.getfield 40, 3) := op_180 h rfl
theorem dw_741 (h : Pc9 c pc [182, 1, 77]) : decode c pc = .ok (.invokevirtual 333, 3) := op_182 h rfl
theorem dw_742 (h : Pc9 c pc [162, 0, 15]) : decode c pc = .ok (.if_icmp .ge 15, 3) := op_162 h (by decide +kernel)
theorem dw_743 (h : Pc9 c pc [154, 0, 20]) : decode c pc = .ok (.ifCond .ne 20, 3) := op_154 h (by decide +kernel)
theorem dw_744 (h : Pc9 c pc [20, 1, 81]) : decode c pc = .ok (.ldc2_w 337, 3) := op_20 h rfl
theorem dw_745 (h : Pc9 c pc [16, 20]) : decode c pc = .ok (.bipush 20, 2) := op_16 h (by decide +kernel)
theorem dw_746 (h : Pc9 c pc [155, 0, 18]) : decode c pc = .ok (.ifCond .lt 18, 3) := op_155 h (by decide +kernel)
theorem dw_747 (h : Pc9 c pc [155, 0, 79]) : decode c pc = .ok (.ifCond .lt 79, 3) := op_155 h (by decide +kernel)
theorem dw_748 (h : Pc9 c pc [182, 1, 83]) : decode c pc = .ok (.invokevirtual 339, 3) := op_182 h rfl
theorem dw_749 (h : Pc9 c pc [160, 0, 33]) : decode c pc = .ok (.if_icmp .ne 33, 3) := op_160 h (by decide +kernel)
theorem dw_750 (h : Pc9 c pc [167, 255, 178]) : decode c pc = .ok (.goto (-78), 3) := op_167 h (by decide +kernel)
theorem dw_751 (h : Pc9 c pc [162, 0, 106]) : decode c pc = .ok (.if_icmp .ge 106, 3) := op_162 h (by decide +kernel)
theorem dw_752 (h : Pc9 c pc [182, 1, 87]) : decode c pc = .ok (.invokevirtual 343, 3) := op_182 h rfl
theorem dw_753 (h : Pc9 c pc [167, 255, 143]) : decode c pc = .ok (.goto (-113), 3) := op_167 h (by decide +kernel)
theorem dw_754 (h : Pc9 c pc [160, 0, 13]) : decode c pc = .ok (.if_icmp .ne 13, 3) := op_160 h (by decide +kernel)
theorem dw_755 (h : Pc9 c pc [184, 1, 91]) : decode c pc = .ok (.invokestatic 347, 3) := op_184 h rfl
theorem dw_756 (h : Pc9 c pc [20, 1, 95]) : decode c pc = .ok (.ldc2_w 351, 3) := op_20 h rfl
theorem dw_757 (h : Pc9 c pc [20, 1, 97]) : decode c pc = .ok (.ldc2_w 353, 3) := op_20 h rfl
theorem dw_758 (h : Pc9 c pc [181, 1, 99]) : decode c pc = .ok (.putfield 355, 3) := op_181 h rfl
theorem dw_759 (h : Pc9 c pc [180, 1, 99]) : decode c pc = .ok (.getfield 355, 3) := op_180 h rfl
theorem dw_760 (h : Pc9 c pc [19, 1, 9]) : decode c pc = .ok (.ldc_w 265, 3) := op_19 h rfl
theorem op_59 (h : Pc9 c pc [59]) : decode c pc = .ok (.istore_n 0, 1) := o_start (op := 59) (f := _) rfl (pc_at h 0 rfl) rfl rfl rfl
theorem dw_761 (h : Pc9 c pc [59]) : decode c pc = .ok (.istore_n 0, 1) := op_59 h
theorem dw_762 (h : Pc9 c pc [19, 1, 10]) : decode c pc = .ok (.ldc_w 266, 3) := op_19 h rfl
theorem dw_763 (h : Pc9 c pc [19, 1, 11]) : decode c pc = .ok (.ldc_w 267, 3) := op_19 h rfl
theorem dw_764 (h : Pc9 c pc [16, 63]) : decode c pc = .ok (.bipush 63, 2) := op_16 h (by decide +kernel)
theorem dw_765 (h : Pc9 c pc [156, 0, 8]) : decode c pc = .ok (.ifCond .ge 8, 3) := op_156 h (by decide +kernel)
theorem dw_766 (h : Pc9 c pc [161, 0, 7]) : decode c pc = .ok (.if_icmp .lt 7, 3) := op_161 h (by decide +kernel)
theorem op_190 (h : Pc9 c pc [190]) : decode c pc = .ok (.arraylength, 1) := o_start (op := 190) (f := _) rfl (pc_at h 0 rfl) rfl rfl rfl
theorem dw_767 (h : Pc9 c pc [190]) : decode c pc = .ok (.arraylength, 1) := op_190 h
theorem dw_768 (h : Pc9 c pc [182, 1, 79]) : decode c pc = .ok (.invokevirtual 335, 3) := op_182 h rfl
theorem dw_769 (h : Pc9 c pc [182, 1, 236]) : decode c pc = .ok (.invokevirtual 492, 3) := op_182 h rfl
theorem dw_770 (h : Pc9 c pc [184, 1, 239]) : decode c pc = .ok (.invokestatic 495, 3) := op_184 h rfl
theorem dw_771 (h : Pc9 c pc [184, 1, 242]) : decode c pc = .ok (.invokestatic 498, 3) := op_184 h rfl
theorem op_178 {a b : UInt8} {v : Nat} (h : Pc9 c pc [178, a, b]) (e : a.toNat * 256 + b.toNat = v) : decode c pc = .ok (.getstatic v, 3) := o_start (op := 178) (f := _) rfl (pc_at h 0 rfl) rfl (k_u2 (g := fun x => .getstatic x) (pc_at h 1 rfl) (pc_at h 2 rfl) e) rfl
theorem dw_772 (h : Pc9 c pc [178, 0, 38]) : decode c pc = .ok (.getstatic 38, 3) := op_178 h rfl
theorem dw_773 (h : Pc9 c pc [178, 4, 29]) : decode c pc = .ok (.getstatic 1053, 3) := op_178 h rfl
theorem dw_774 (h : Pc9 c pc [184, 4, 35]) : decode c pc = .ok (.invokestatic 1059, 3) := op_184 h rfl
theorem dw_775 (h : Pc9 c pc [184, 0, 9]) : decode c pc = .ok (.invokestatic 9, 3) := op_184 h rfl
theorem op_146 (h : Pc9 c pc [146]) : decode c pc = .ok (.i2c, 1) := o_start (op := 146) (f := _) rfl (pc_at h 0 rfl) rfl rfl rfl
theorem dw_776 (h : Pc9 c pc [146]) : decode c pc = .ok (.i2c, 1) := op_146 h
theorem dw_777 (h : Pc9 c pc [178, 0, 44]) : decode c pc = .ok (.getstatic 44, 3) := op_178 h rfl
theorem dw_778 (h : Pc9 c pc [155, 0, 11]) : decode c pc = .ok (.ifCond .lt 11, 3) := op_155 h (by decide +kernel)
theorem dw_779 (h : Pc9 c pc [184, 0, 48]) : decode c pc = .ok (.invokestatic 48, 3) := op_184 h rfl
theorem dw_780 (h : Pc9 c pc [161, 0, 13]) : decode c pc = .ok (.if_icmp .lt 13, 3) := op_161 h (by decide +kernel)
theorem dw_781 (h : Pc9 c pc [187, 0, 52]) : decode c pc = .ok (.new 52, 3) := op_187 h rfl
theorem dw_782 (h : Pc9 c pc [18, 54]) : decode c pc = .ok (.ldc 54, 2) := op_18 h rfl
theorem dw_783 (h : Pc9 c pc [183, 0, 56]) : decode c pc = .ok (.invokespecial 56, 3) := op_183 h rfl
theorem dw_784 (h : Pc9 c pc [178, 0, 59]) : decode c pc = .ok (.getstatic 59, 3) := op_178 h rfl
theorem dw_785 (h : Pc9 c pc [178, 0, 63]) : decode c pc = .ok (.getstatic 63, 3) := op_178 h rfl
theorem dw_786 (h : Pc9 c pc [184, 0, 71]) : decode c pc = .ok (.invokestatic 71, 3) := op_184 h rfl
theorem dw_787 (h : Pc9 c pc [184, 1, 158]) : decode c pc = .ok (.invokestatic 414, 3) := op_184 h rfl
theorem dw_788 (h : Pc9 c pc [155, 0, 8]) : decode c pc = .ok (.ifCond .lt 8, 3) := op_155 h (by decide +kernel)
theorem dw_789 (h : Pc9 c pc [161, 0, 10]) : decode c pc = .ok (.if_icmp .lt 10, 3) := op_161 h (by decide +kernel)
theorem dw_790 (h : Pc9 c pc [184, 0, 95]) : decode c pc = .ok (.invokestatic 95, 3) := op_184 h rfl
end
end
