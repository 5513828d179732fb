/-! the law's names; its code in pieces -/
def RL : String := "BitDeskLaw"
abbrev cL_count : ByteArray := method_3_code
def yL_count : MethodName := ⟨RL, "count", "(LBitDesk;I[J)I"⟩
abbrev cL_bit : ByteArray := method_4_code
def yL_bit : MethodName := ⟨RL, "bit", "(LBitDesk;III[J)I"⟩
abbrev cL_row : ByteArray := method_5_code
def yL_row : MethodName := ⟨RL, "row", "(LBitDesk;II[J)I"⟩
abbrev cL_rank : ByteArray := method_6_code
def yL_rank : MethodName := ⟨RL, "rank", "(LBitDesk;III[J)I"⟩
abbrev cL_select : ByteArray := method_7_code
def yL_select : MethodName := ⟨RL, "select", "(LBitDesk;III[J)I"⟩
abbrev cL_ones : ByteArray := method_8_code
def yL_ones : MethodName := ⟨RL, "ones", "(LBitDesk;I[J)I"⟩
abbrev cL_columnOnes : ByteArray := method_9_code
def yL_columnOnes : MethodName := ⟨RL, "columnOnes", "(LBitDesk;II[J)I"⟩
abbrev cL_sameAs : ByteArray := method_10_code
def yL_sameAs : MethodName := ⟨RL, "sameAs", "(LBitDesk;II[J)I"⟩
abbrev cL_classes : ByteArray := method_11_code
def yL_classes : MethodName := ⟨RL, "classes", "(LBitDesk;I[J)I"⟩
abbrev cL_classOf : ByteArray := method_12_code
def yL_classOf : MethodName := ⟨RL, "classOf", "(LBitDesk;II[J)I"⟩
abbrev cL_find : ByteArray := method_13_code
def yL_find : MethodName := ⟨RL, "find", "(LBitDesk;IJ[J)I"⟩
abbrev cL_nearest : ByteArray := method_14_code
def yL_nearest : MethodName := ⟨RL, "nearest", "(LBitDesk;II[J)I"⟩
abbrev cL_density : ByteArray := method_15_code
def yL_density : MethodName := ⟨RL, "density", "(LBitDesk;I[D)I"⟩
abbrev cL_isSymmetric : ByteArray := method_16_code
def yL_isSymmetric : MethodName := ⟨RL, "isSymmetric", "(LBitDesk;I[J)I"⟩
abbrev cL_reaches : ByteArray := method_17_code
def yL_reaches : MethodName := ⟨RL, "reaches", "(LBitDesk;III[J)I"⟩
abbrev cL_reached : ByteArray := method_18_code
def yL_reached : MethodName := ⟨RL, "reached", "(LBitDesk;II[J)I"⟩
abbrev cL_pairs : ByteArray := method_19_code
def yL_pairs : MethodName := ⟨RL, "pairs", "(LBitDesk;I[J)I"⟩
abbrev cL_meanReach : ByteArray := method_20_code
def yL_meanReach : MethodName := ⟨RL, "meanReach", "(LBitDesk;I[D)I"⟩
abbrev cL_component : ByteArray := method_21_code
def yL_component : MethodName := ⟨RL, "component", "(LBitDesk;II[J)I"⟩
abbrev cL_components : ByteArray := method_22_code
def yL_components : MethodName := ⟨RL, "components", "(LBitDesk;I[J)I"⟩
abbrev cL_distance : ByteArray := method_23_code
def yL_distance : MethodName := ⟨RL, "distance", "(LBitDesk;III[J)I"⟩
abbrev cL_stepAt : ByteArray := method_24_code
def yL_stepAt : MethodName := ⟨RL, "stepAt", "(LBitDesk;IIII[J)I"⟩
abbrev cL_around : ByteArray := method_25_code
def yL_around : MethodName := ⟨RL, "around", "(LBitDesk;II[J)I"⟩
abbrev cL_girth : ByteArray := method_26_code
def yL_girth : MethodName := ⟨RL, "girth", "(LBitDesk;I[J)I"⟩
abbrev cL_order : ByteArray := method_27_code
def yL_order : MethodName := ⟨RL, "order", "(LBitDesk;II[J)I"⟩
abbrev cL_gained : ByteArray := method_28_code
def yL_gained : MethodName := ⟨RL, "gained", "(LBitDesk;III[J)I"⟩
abbrev cL_lost : ByteArray := method_29_code
def yL_lost : MethodName := ⟨RL, "lost", "(LBitDesk;III[J)I"⟩
abbrev cL_bestEdge : ByteArray := method_30_code
def yL_bestEdge : MethodName := ⟨RL, "bestEdge", "(LBitDesk;I[J)I"⟩
abbrev cL_weakest : ByteArray := method_31_code
def yL_weakest : MethodName := ⟨RL, "weakest", "(LBitDesk;I[J)I"⟩
abbrev cL_triangles : ByteArray := method_32_code
def yL_triangles : MethodName := ⟨RL, "triangles", "(LBitDesk;I[J)I"⟩
abbrev cL_fieldRank : ByteArray := method_33_code
def yL_fieldRank : MethodName := ⟨RL, "fieldRank", "(LBitDesk;I[J)I"⟩
abbrev cL_solve : ByteArray := method_34_code
def yL_solve : MethodName := ⟨RL, "solve", "(LBitDesk;IJ[J)I"⟩
abbrev cL_freedom : ByteArray := method_35_code
def yL_freedom : MethodName := ⟨RL, "freedom", "(LBitDesk;IJ[J)I"⟩
abbrev cL_pivot : ByteArray := method_36_code
def yL_pivot : MethodName := ⟨RL, "pivot", "(LBitDesk;II[J)I"⟩
abbrev cL_put : ByteArray := method_37_code
def yL_put : MethodName := ⟨RL, "put", "(LBitDesk;IIIZ[J)I"⟩
abbrev cL_setRow : ByteArray := method_38_code
def yL_setRow : MethodName := ⟨RL, "setRow", "(LBitDesk;IIJ[J)I"⟩
abbrev cL_copy : ByteArray := method_39_code
def yL_copy : MethodName := ⟨RL, "copy", "(LBitDesk;II[J)I"⟩
abbrev cL_transpose : ByteArray := method_40_code
def yL_transpose : MethodName := ⟨RL, "transpose", "(LBitDesk;II[J)I"⟩
abbrev cL_combine : ByteArray := method_41_code
def yL_combine : MethodName := ⟨RL, "combine", "(LBitDesk;IIII[J)I"⟩
abbrev cL_product : ByteArray := method_42_code
def yL_product : MethodName := ⟨RL, "product", "(LBitDesk;IIIZ[J)I"⟩
abbrev cL_power : ByteArray := method_43_code
def yL_power : MethodName := ⟨RL, "power", "(LBitDesk;IIIZ[J)I"⟩
abbrev cL_invert : ByteArray := method_44_code
def yL_invert : MethodName := ⟨RL, "invert", "(LBitDesk;II[J)I"⟩
abbrev cL_close : ByteArray := method_45_code
def yL_close : MethodName := ⟨RL, "close", "(LBitDesk;II[J)I"⟩
abbrev cL_reduce : ByteArray := method_46_code
def yL_reduce : MethodName := ⟨RL, "reduce", "(LBitDesk;II[J)I"⟩
abbrev cL_exchange : ByteArray := method_47_code
def yL_exchange : MethodName := ⟨RL, "exchange", "(LBitDesk;III[J)I"⟩
abbrev cL_keep : ByteArray := method_48_code
def yL_keep : MethodName := ⟨RL, "keep", "(LBitDesk;IZ[J)I"⟩
abbrev cL_setBlock : ByteArray := method_49_code
def yL_setBlock : MethodName := ⟨RL, "setBlock", "(LBitDesk;I[J)I"⟩
abbrev cL_kept : ByteArray := method_50_code
def yL_kept : MethodName := ⟨RL, "kept", "(LBitDesk;II[J)I"⟩
abbrev cL_work : ByteArray := method_51_code
def yL_work : MethodName := ⟨RL, "work", "(LBitDesk;I[J)I"⟩
abbrev cL_writeRow : ByteArray := method_52_code
def yL_writeRow : MethodName := ⟨RL, "writeRow", "(LBitDesk;II[J)I"⟩
abbrev cL_saveSnapshot : ByteArray := method_53_code
def yL_saveSnapshot : MethodName := ⟨RL, "saveSnapshot", "(LBitDesk;I[J)I"⟩
abbrev cL_restoreSnapshot : ByteArray := method_54_code
def yL_restoreSnapshot : MethodName := ⟨RL, "restoreSnapshot", "(LBitDesk;I[J)I"⟩
abbrev cL_law : ByteArray := code
def yL_law : MethodName := ⟨RL, "law", "([I)Z"⟩
theorem dL_count_0 : decode cL_count 0 = .ok (.aload_n 2, 1) := by decide +kernel
theorem dL_count_1 : decode cL_count 1 = .ok (.iconst 0, 1) := by decide +kernel
theorem dL_count_2 : decode cL_count 2 = .ok (.aload_n 0, 1) := by decide +kernel
theorem dL_count_3 : decode cL_count 3 = .ok (.iload_n 1, 1) := by decide +kernel
theorem dL_count_4 : decode cL_count 4 = .ok (.invokevirtual 7, 3) := by decide +kernel
theorem dL_count_7 : decode cL_count 7 = .ok (.i2l, 1) := by decide +kernel
theorem dL_count_8 : decode cL_count 8 = .ok (.lastore, 1) := by decide +kernel
theorem dL_count_9 : decode cL_count 9 = .ok (.goto 6, 3) := by decide +kernel
theorem dL_count_12 : decode cL_count 12 = .ok (.astore_n 3, 1) := by decide +kernel
theorem dL_count_13 : decode cL_count 13 = .ok (.iconst 1, 1) := by decide +kernel
theorem dL_count_14 : decode cL_count 14 = .ok (.ireturn, 1) := by decide +kernel
theorem dL_count_15 : decode cL_count 15 = .ok (.iconst 0, 1) := by decide +kernel
theorem dL_count_16 : decode cL_count 16 = .ok (.ireturn, 1) := by decide +kernel
theorem dL_bit_0 : decode cL_bit 0 = .ok (.aload 4, 2) := by decide +kernel
theorem dL_bit_2 : decode cL_bit 2 = .ok (.iconst 0, 1) := by decide +kernel
theorem dL_bit_3 : decode cL_bit 3 = .ok (.aload_n 0, 1) := by decide +kernel
theorem dL_bit_4 : decode cL_bit 4 = .ok (.iload_n 1, 1) := by decide +kernel
theorem dL_bit_5 : decode cL_bit 5 = .ok (.iload_n 2, 1) := by decide +kernel
theorem dL_bit_6 : decode cL_bit 6 = .ok (.iload_n 3, 1) := by decide +kernel
theorem dL_bit_7 : decode cL_bit 7 = .ok (.invokevirtual 15, 3) := by decide +kernel
theorem dL_bit_10 : decode cL_bit 10 = .ok (.i2l, 1) := by decide +kernel
theorem dL_bit_11 : decode cL_bit 11 = .ok (.lastore, 1) := by decide +kernel
theorem dL_bit_12 : decode cL_bit 12 = .ok (.goto 7, 3) := by decide +kernel
theorem dL_bit_15 : decode cL_bit 15 = .ok (.astore 5, 2) := by decide +kernel
theorem dL_bit_17 : decode cL_bit 17 = .ok (.iconst 1, 1) := by decide +kernel
theorem dL_bit_18 : decode cL_bit 18 = .ok (.ireturn, 1) := by decide +kernel
theorem dL_bit_19 : decode cL_bit 19 = .ok (.iconst 0, 1) := by decide +kernel
theorem dL_bit_20 : decode cL_bit 20 = .ok (.ireturn, 1) := by decide +kernel
theorem dL_row_0 : decode cL_row 0 = .ok (.aload_n 3, 1) := by decide +kernel
theorem dL_row_1 : decode cL_row 1 = .ok (.iconst 0, 1) := by decide +kernel
theorem dL_row_2 : decode cL_row 2 = .ok (.aload_n 0, 1) := by decide +kernel
theorem dL_row_3 : decode cL_row 3 = .ok (.iload_n 1, 1) := by decide +kernel
theorem dL_row_4 : decode cL_row 4 = .ok (.iload_n 2, 1) := by decide +kernel
theorem dL_row_5 : decode cL_row 5 = .ok (.invokevirtual 21, 3) := by decide +kernel
theorem dL_row_8 : decode cL_row 8 = .ok (.lastore, 1) := by decide +kernel
theorem dL_row_9 : decode cL_row 9 = .ok (.goto 7, 3) := by decide +kernel
theorem dL_row_12 : decode cL_row 12 = .ok (.astore 4, 2) := by decide +kernel
theorem dL_row_14 : decode cL_row 14 = .ok (.iconst 1, 1) := by decide +kernel
theorem dL_row_15 : decode cL_row 15 = .ok (.ireturn, 1) := by decide +kernel
theorem dL_row_16 : decode cL_row 16 = .ok (.iconst 0, 1) := by decide +kernel
theorem dL_row_17 : decode cL_row 17 = .ok (.ireturn, 1) := by decide +kernel
theorem dL_rank_0 : decode cL_rank 0 = .ok (.aload 4, 2) := by decide +kernel
theorem dL_rank_2 : decode cL_rank 2 = .ok (.iconst 0, 1) := by decide +kernel
theorem dL_rank_3 : decode cL_rank 3 = .ok (.aload_n 0, 1) := by decide +kernel
theorem dL_rank_4 : decode cL_rank 4 = .ok (.iload_n 1, 1) := by decide +kernel
theorem dL_rank_5 : decode cL_rank 5 = .ok (.iload_n 2, 1) := by decide +kernel
theorem dL_rank_6 : decode cL_rank 6 = .ok (.iload_n 3, 1) := by decide +kernel
theorem dL_rank_7 : decode cL_rank 7 = .ok (.invokevirtual 25, 3) := by decide +kernel
theorem dL_rank_10 : decode cL_rank 10 = .ok (.i2l, 1) := by decide +kernel
theorem dL_rank_11 : decode cL_rank 11 = .ok (.lastore, 1) := by decide +kernel
theorem dL_rank_12 : decode cL_rank 12 = .ok (.goto 11, 3) := by decide +kernel
theorem dL_rank_15 : decode cL_rank 15 = .ok (.astore 5, 2) := by decide +kernel
theorem dL_rank_17 : decode cL_rank 17 = .ok (.iconst 1, 1) := by decide +kernel
theorem dL_rank_18 : decode cL_rank 18 = .ok (.ireturn, 1) := by decide +kernel
theorem dL_rank_19 : decode cL_rank 19 = .ok (.astore 5, 2) := by decide +kernel
theorem dL_rank_21 : decode cL_rank 21 = .ok (.iconst 2, 1) := by decide +kernel
theorem dL_rank_22 : decode cL_rank 22 = .ok (.ireturn, 1) := by decide +kernel
theorem dL_rank_23 : decode cL_rank 23 = .ok (.iconst 0, 1) := by decide +kernel
theorem dL_rank_24 : decode cL_rank 24 = .ok (.ireturn, 1) := by decide +kernel
theorem dL_select_0 : decode cL_select 0 = .ok (.aload 4, 2) := by decide +kernel
theorem dL_select_2 : decode cL_select 2 = .ok (.iconst 0, 1) := by decide +kernel
theorem dL_select_3 : decode cL_select 3 = .ok (.aload_n 0, 1) := by decide +kernel
theorem dL_select_4 : decode cL_select 4 = .ok (.iload_n 1, 1) := by decide +kernel
theorem dL_select_5 : decode cL_select 5 = .ok (.iload_n 2, 1) := by decide +kernel
theorem dL_select_6 : decode cL_select 6 = .ok (.iload_n 3, 1) := by decide +kernel
theorem dL_select_7 : decode cL_select 7 = .ok (.invokevirtual 28, 3) := by decide +kernel
theorem dL_select_10 : decode cL_select 10 = .ok (.i2l, 1) := by decide +kernel
theorem dL_select_11 : decode cL_select 11 = .ok (.lastore, 1) := by decide +kernel
theorem dL_select_12 : decode cL_select 12 = .ok (.goto 7, 3) := by decide +kernel
theorem dL_select_15 : decode cL_select 15 = .ok (.astore 5, 2) := by decide +kernel
theorem dL_select_17 : decode cL_select 17 = .ok (.iconst 1, 1) := by decide +kernel
theorem dL_select_18 : decode cL_select 18 = .ok (.ireturn, 1) := by decide +kernel
theorem dL_select_19 : decode cL_select 19 = .ok (.iconst 0, 1) := by decide +kernel
theorem dL_select_20 : decode cL_select 20 = .ok (.ireturn, 1) := by decide +kernel
theorem dL_ones_0 : decode cL_ones 0 = .ok (.aload_n 2, 1) := by decide +kernel
theorem dL_ones_1 : decode cL_ones 1 = .ok (.iconst 0, 1) := by decide +kernel
theorem dL_ones_2 : decode cL_ones 2 = .ok (.aload_n 0, 1) := by decide +kernel
theorem dL_ones_3 : decode cL_ones 3 = .ok (.iload_n 1, 1) := by decide +kernel
theorem dL_ones_4 : decode cL_ones 4 = .ok (.invokevirtual 31, 3) := by decide +kernel
theorem dL_ones_7 : decode cL_ones 7 = .ok (.i2l, 1) := by decide +kernel
theorem dL_ones_8 : decode cL_ones 8 = .ok (.lastore, 1) := by decide +kernel
theorem dL_ones_9 : decode cL_ones 9 = .ok (.goto 6, 3) := by decide +kernel
theorem dL_ones_12 : decode cL_ones 12 = .ok (.astore_n 3, 1) := by decide +kernel
theorem dL_ones_13 : decode cL_ones 13 = .ok (.iconst 1, 1) := by decide +kernel
theorem dL_ones_14 : decode cL_ones 14 = .ok (.ireturn, 1) := by decide +kernel
theorem dL_ones_15 : decode cL_ones 15 = .ok (.iconst 0, 1) := by decide +kernel
theorem dL_ones_16 : decode cL_ones 16 = .ok (.ireturn, 1) := by decide +kernel
theorem dL_columnOnes_0 : decode cL_columnOnes 0 = .ok (.aload_n 3, 1) := by decide +kernel
theorem dL_columnOnes_1 : decode cL_columnOnes 1 = .ok (.iconst 0, 1) := by decide +kernel
theorem dL_columnOnes_2 : decode cL_columnOnes 2 = .ok (.aload_n 0, 1) := by decide +kernel
theorem dL_columnOnes_3 : decode cL_columnOnes 3 = .ok (.iload_n 1, 1) := by decide +kernel
theorem dL_columnOnes_4 : decode cL_columnOnes 4 = .ok (.iload_n 2, 1) := by decide +kernel
theorem dL_columnOnes_5 : decode cL_columnOnes 5 = .ok (.invokevirtual 34, 3) := by decide +kernel
theorem dL_columnOnes_8 : decode cL_columnOnes 8 = .ok (.i2l, 1) := by decide +kernel
theorem dL_columnOnes_9 : decode cL_columnOnes 9 = .ok (.lastore, 1) := by decide +kernel
theorem dL_columnOnes_10 : decode cL_columnOnes 10 = .ok (.goto 7, 3) := by decide +kernel
theorem dL_columnOnes_13 : decode cL_columnOnes 13 = .ok (.astore 4, 2) := by decide +kernel
theorem dL_columnOnes_15 : decode cL_columnOnes 15 = .ok (.iconst 1, 1) := by decide +kernel
theorem dL_columnOnes_16 : decode cL_columnOnes 16 = .ok (.ireturn, 1) := by decide +kernel
theorem dL_columnOnes_17 : decode cL_columnOnes 17 = .ok (.iconst 0, 1) := by decide +kernel
theorem dL_columnOnes_18 : decode cL_columnOnes 18 = .ok (.ireturn, 1) := by decide +kernel
theorem dL_sameAs_0 : decode cL_sameAs 0 = .ok (.aload_n 3, 1) := by decide +kernel
theorem dL_sameAs_1 : decode cL_sameAs 1 = .ok (.iconst 0, 1) := by decide +kernel
theorem dL_sameAs_2 : decode cL_sameAs 2 = .ok (.aload_n 0, 1) := by decide +kernel
theorem dL_sameAs_3 : decode cL_sameAs 3 = .ok (.iload_n 1, 1) := by decide +kernel
theorem dL_sameAs_4 : decode cL_sameAs 4 = .ok (.iload_n 2, 1) := by decide +kernel
theorem dL_sameAs_5 : decode cL_sameAs 5 = .ok (.invokevirtual 38, 3) := by decide +kernel
theorem dL_sameAs_8 : decode cL_sameAs 8 = .ok (.i2l, 1) := by decide +kernel
theorem dL_sameAs_9 : decode cL_sameAs 9 = .ok (.lastore, 1) := by decide +kernel
theorem dL_sameAs_10 : decode cL_sameAs 10 = .ok (.goto 7, 3) := by decide +kernel
theorem dL_sameAs_13 : decode cL_sameAs 13 = .ok (.astore 4, 2) := by decide +kernel
theorem dL_sameAs_15 : decode cL_sameAs 15 = .ok (.iconst 1, 1) := by decide +kernel
theorem dL_sameAs_16 : decode cL_sameAs 16 = .ok (.ireturn, 1) := by decide +kernel
theorem dL_sameAs_17 : decode cL_sameAs 17 = .ok (.iconst 0, 1) := by decide +kernel
theorem dL_sameAs_18 : decode cL_sameAs 18 = .ok (.ireturn, 1) := by decide +kernel
theorem dL_classes_0 : decode cL_classes 0 = .ok (.aload_n 2, 1) := by decide +kernel
theorem dL_classes_1 : decode cL_classes 1 = .ok (.iconst 0, 1) := by decide +kernel
theorem dL_classes_2 : decode cL_classes 2 = .ok (.aload_n 0, 1) := by decide +kernel
theorem dL_classes_3 : decode cL_classes 3 = .ok (.iload_n 1, 1) := by decide +kernel
theorem dL_classes_4 : decode cL_classes 4 = .ok (.invokevirtual 41, 3) := by decide +kernel
theorem dL_classes_7 : decode cL_classes 7 = .ok (.i2l, 1) := by decide +kernel
theorem dL_classes_8 : decode cL_classes 8 = .ok (.lastore, 1) := by decide +kernel
theorem dL_classes_9 : decode cL_classes 9 = .ok (.goto 6, 3) := by decide +kernel
theorem dL_classes_12 : decode cL_classes 12 = .ok (.astore_n 3, 1) := by decide +kernel
theorem dL_classes_13 : decode cL_classes 13 = .ok (.iconst 1, 1) := by decide +kernel
theorem dL_classes_14 : decode cL_classes 14 = .ok (.ireturn, 1) := by decide +kernel
theorem dL_classes_15 : decode cL_classes 15 = .ok (.iconst 0, 1) := by decide +kernel
theorem dL_classes_16 : decode cL_classes 16 = .ok (.ireturn, 1) := by decide +kernel
theorem dL_classOf_0 : decode cL_classOf 0 = .ok (.aload_n 3, 1) := by decide +kernel
theorem dL_classOf_1 : decode cL_classOf 1 = .ok (.iconst 0, 1) := by decide +kernel
theorem dL_classOf_2 : decode cL_classOf 2 = .ok (.aload_n 0, 1) := by decide +kernel
theorem dL_classOf_3 : decode cL_classOf 3 = .ok (.iload_n 1, 1) := by decide +kernel
theorem dL_classOf_4 : decode cL_classOf 4 = .ok (.iload_n 2, 1) := by decide +kernel
theorem dL_classOf_5 : decode cL_classOf 5 = .ok (.invokevirtual 44, 3) := by decide +kernel
theorem dL_classOf_8 : decode cL_classOf 8 = .ok (.i2l, 1) := by decide +kernel
theorem dL_classOf_9 : decode cL_classOf 9 = .ok (.lastore, 1) := by decide +kernel
theorem dL_classOf_10 : decode cL_classOf 10 = .ok (.goto 7, 3) := by decide +kernel
theorem dL_classOf_13 : decode cL_classOf 13 = .ok (.astore 4, 2) := by decide +kernel
theorem dL_classOf_15 : decode cL_classOf 15 = .ok (.iconst 1, 1) := by decide +kernel
theorem dL_classOf_16 : decode cL_classOf 16 = .ok (.ireturn, 1) := by decide +kernel
theorem dL_classOf_17 : decode cL_classOf 17 = .ok (.iconst 0, 1) := by decide +kernel
theorem dL_classOf_18 : decode cL_classOf 18 = .ok (.ireturn, 1) := by decide +kernel
theorem dL_find_0 : decode cL_find 0 = .ok (.aload 4, 2) := by decide +kernel
theorem dL_find_2 : decode cL_find 2 = .ok (.iconst 0, 1) := by decide +kernel
theorem dL_find_3 : decode cL_find 3 = .ok (.aload_n 0, 1) := by decide +kernel
theorem dL_find_4 : decode cL_find 4 = .ok (.iload_n 1, 1) := by decide +kernel
theorem dL_find_5 : decode cL_find 5 = .ok (.lload_n 2, 1) := by decide +kernel
theorem dL_find_6 : decode cL_find 6 = .ok (.invokevirtual 47, 3) := by decide +kernel
theorem dL_find_9 : decode cL_find 9 = .ok (.i2l, 1) := by decide +kernel
theorem dL_find_10 : decode cL_find 10 = .ok (.lastore, 1) := by decide +kernel
theorem dL_find_11 : decode cL_find 11 = .ok (.goto 7, 3) := by decide +kernel
theorem dL_find_14 : decode cL_find 14 = .ok (.astore 5, 2) := by decide +kernel
theorem dL_find_16 : decode cL_find 16 = .ok (.iconst 1, 1) := by decide +kernel
theorem dL_find_17 : decode cL_find 17 = .ok (.ireturn, 1) := by decide +kernel
theorem dL_find_18 : decode cL_find 18 = .ok (.iconst 0, 1) := by decide +kernel
theorem dL_find_19 : decode cL_find 19 = .ok (.ireturn, 1) := by decide +kernel
theorem dL_nearest_0 : decode cL_nearest 0 = .ok (.aload_n 3, 1) := by decide +kernel
theorem dL_nearest_1 : decode cL_nearest 1 = .ok (.iconst 0, 1) := by decide +kernel
theorem dL_nearest_2 : decode cL_nearest 2 = .ok (.aload_n 0, 1) := by decide +kernel
theorem dL_nearest_3 : decode cL_nearest 3 = .ok (.iload_n 1, 1) := by decide +kernel
theorem dL_nearest_4 : decode cL_nearest 4 = .ok (.iload_n 2, 1) := by decide +kernel
theorem dL_nearest_5 : decode cL_nearest 5 = .ok (.invokevirtual 51, 3) := by decide +kernel
theorem dL_nearest_8 : decode cL_nearest 8 = .ok (.i2l, 1) := by decide +kernel
theorem dL_nearest_9 : decode cL_nearest 9 = .ok (.lastore, 1) := by decide +kernel
theorem dL_nearest_10 : decode cL_nearest 10 = .ok (.goto 7, 3) := by decide +kernel
theorem dL_nearest_13 : decode cL_nearest 13 = .ok (.astore 4, 2) := by decide +kernel
theorem dL_nearest_15 : decode cL_nearest 15 = .ok (.iconst 1, 1) := by decide +kernel
theorem dL_nearest_16 : decode cL_nearest 16 = .ok (.ireturn, 1) := by decide +kernel
theorem dL_nearest_17 : decode cL_nearest 17 = .ok (.iconst 0, 1) := by decide +kernel
theorem dL_nearest_18 : decode cL_nearest 18 = .ok (.ireturn, 1) := by decide +kernel
theorem dL_density_0 : decode cL_density 0 = .ok (.aload_n 2, 1) := by decide +kernel
theorem dL_density_1 : decode cL_density 1 = .ok (.iconst 0, 1) := by decide +kernel
theorem dL_density_2 : decode cL_density 2 = .ok (.aload_n 0, 1) := by decide +kernel
theorem dL_density_3 : decode cL_density 3 = .ok (.iload_n 1, 1) := by decide +kernel
theorem dL_density_4 : decode cL_density 4 = .ok (.invokevirtual 54, 3) := by decide +kernel
theorem dL_density_7 : decode cL_density 7 = .ok (.dastore, 1) := by decide +kernel
theorem dL_density_8 : decode cL_density 8 = .ok (.goto 6, 3) := by decide +kernel
theorem dL_density_11 : decode cL_density 11 = .ok (.astore_n 3, 1) := by decide +kernel
theorem dL_density_12 : decode cL_density 12 = .ok (.iconst 1, 1) := by decide +kernel
theorem dL_density_13 : decode cL_density 13 = .ok (.ireturn, 1) := by decide +kernel
theorem dL_density_14 : decode cL_density 14 = .ok (.iconst 0, 1) := by decide +kernel
theorem dL_density_15 : decode cL_density 15 = .ok (.ireturn, 1) := by decide +kernel
theorem dL_isSymmetric_0 : decode cL_isSymmetric 0 = .ok (.aload_n 2, 1) := by decide +kernel
theorem dL_isSymmetric_1 : decode cL_isSymmetric 1 = .ok (.iconst 0, 1) := by decide +kernel
theorem dL_isSymmetric_2 : decode cL_isSymmetric 2 = .ok (.aload_n 0, 1) := by decide +kernel
theorem dL_isSymmetric_3 : decode cL_isSymmetric 3 = .ok (.iload_n 1, 1) := by decide +kernel
theorem dL_isSymmetric_4 : decode cL_isSymmetric 4 = .ok (.invokevirtual 58, 3) := by decide +kernel
theorem dL_isSymmetric_7 : decode cL_isSymmetric 7 = .ok (.ifCond .eq 7, 3) := by decide +kernel
theorem dL_isSymmetric_10 : decode cL_isSymmetric 10 = .ok (.lconst 1, 1) := by decide +kernel
theorem dL_isSymmetric_11 : decode cL_isSymmetric 11 = .ok (.goto 4, 3) := by decide +kernel
theorem dL_isSymmetric_14 : decode cL_isSymmetric 14 = .ok (.lconst 0, 1) := by decide +kernel
theorem dL_isSymmetric_15 : decode cL_isSymmetric 15 = .ok (.lastore, 1) := by decide +kernel
theorem dL_isSymmetric_16 : decode cL_isSymmetric 16 = .ok (.goto 6, 3) := by decide +kernel
theorem dL_isSymmetric_19 : decode cL_isSymmetric 19 = .ok (.astore_n 3, 1) := by decide +kernel
theorem dL_isSymmetric_20 : decode cL_isSymmetric 20 = .ok (.iconst 1, 1) := by decide +kernel
theorem dL_isSymmetric_21 : decode cL_isSymmetric 21 = .ok (.ireturn, 1) := by decide +kernel
theorem dL_isSymmetric_22 : decode cL_isSymmetric 22 = .ok (.iconst 0, 1) := by decide +kernel
theorem dL_isSymmetric_23 : decode cL_isSymmetric 23 = .ok (.ireturn, 1) := by decide +kernel
theorem dL_reaches_0 : decode cL_reaches 0 = .ok (.aload 4, 2) := by decide +kernel
theorem dL_reaches_2 : decode cL_reaches 2 = .ok (.iconst 0, 1) := by decide +kernel
theorem dL_reaches_3 : decode cL_reaches 3 = .ok (.aload_n 0, 1) := by decide +kernel
theorem dL_reaches_4 : decode cL_reaches 4 = .ok (.iload_n 1, 1) := by decide +kernel
theorem dL_reaches_5 : decode cL_reaches 5 = .ok (.iload_n 2, 1) := by decide +kernel
theorem dL_reaches_6 : decode cL_reaches 6 = .ok (.iload_n 3, 1) := by decide +kernel
theorem dL_reaches_7 : decode cL_reaches 7 = .ok (.invokevirtual 62, 3) := by decide +kernel
theorem dL_reaches_10 : decode cL_reaches 10 = .ok (.i2l, 1) := by decide +kernel
theorem dL_reaches_11 : decode cL_reaches 11 = .ok (.lastore, 1) := by decide +kernel
theorem dL_reaches_12 : decode cL_reaches 12 = .ok (.goto 7, 3) := by decide +kernel
theorem dL_reaches_15 : decode cL_reaches 15 = .ok (.astore 5, 2) := by decide +kernel
theorem dL_reaches_17 : decode cL_reaches 17 = .ok (.iconst 1, 1) := by decide +kernel
theorem dL_reaches_18 : decode cL_reaches 18 = .ok (.ireturn, 1) := by decide +kernel
theorem dL_reaches_19 : decode cL_reaches 19 = .ok (.iconst 0, 1) := by decide +kernel
theorem dL_reaches_20 : decode cL_reaches 20 = .ok (.ireturn, 1) := by decide +kernel
theorem dL_reached_0 : decode cL_reached 0 = .ok (.aload_n 3, 1) := by decide +kernel
theorem dL_reached_1 : decode cL_reached 1 = .ok (.iconst 0, 1) := by decide +kernel
theorem dL_reached_2 : decode cL_reached 2 = .ok (.aload_n 0, 1) := by decide +kernel
theorem dL_reached_3 : decode cL_reached 3 = .ok (.iload_n 1, 1) := by decide +kernel
theorem dL_reached_4 : decode cL_reached 4 = .ok (.iload_n 2, 1) := by decide +kernel
theorem dL_reached_5 : decode cL_reached 5 = .ok (.invokevirtual 65, 3) := by decide +kernel
theorem dL_reached_8 : decode cL_reached 8 = .ok (.i2l, 1) := by decide +kernel
theorem dL_reached_9 : decode cL_reached 9 = .ok (.lastore, 1) := by decide +kernel
theorem dL_reached_10 : decode cL_reached 10 = .ok (.goto 7, 3) := by decide +kernel
theorem dL_reached_13 : decode cL_reached 13 = .ok (.astore 4, 2) := by decide +kernel
theorem dL_reached_15 : decode cL_reached 15 = .ok (.iconst 1, 1) := by decide +kernel
theorem dL_reached_16 : decode cL_reached 16 = .ok (.ireturn, 1) := by decide +kernel
theorem dL_reached_17 : decode cL_reached 17 = .ok (.iconst 0, 1) := by decide +kernel
theorem dL_reached_18 : decode cL_reached 18 = .ok (.ireturn, 1) := by decide +kernel
theorem dL_pairs_0 : decode cL_pairs 0 = .ok (.aload_n 2, 1) := by decide +kernel
theorem dL_pairs_1 : decode cL_pairs 1 = .ok (.iconst 0, 1) := by decide +kernel
theorem dL_pairs_2 : decode cL_pairs 2 = .ok (.aload_n 0, 1) := by decide +kernel
theorem dL_pairs_3 : decode cL_pairs 3 = .ok (.iload_n 1, 1) := by decide +kernel
theorem dL_pairs_4 : decode cL_pairs 4 = .ok (.invokevirtual 68, 3) := by decide +kernel
theorem dL_pairs_7 : decode cL_pairs 7 = .ok (.i2l, 1) := by decide +kernel
theorem dL_pairs_8 : decode cL_pairs 8 = .ok (.lastore, 1) := by decide +kernel
theorem dL_pairs_9 : decode cL_pairs 9 = .ok (.goto 6, 3) := by decide +kernel
theorem dL_pairs_12 : decode cL_pairs 12 = .ok (.astore_n 3, 1) := by decide +kernel
theorem dL_pairs_13 : decode cL_pairs 13 = .ok (.iconst 1, 1) := by decide +kernel
theorem dL_pairs_14 : decode cL_pairs 14 = .ok (.ireturn, 1) := by decide +kernel
theorem dL_pairs_15 : decode cL_pairs 15 = .ok (.iconst 0, 1) := by decide +kernel
theorem dL_pairs_16 : decode cL_pairs 16 = .ok (.ireturn, 1) := by decide +kernel
theorem dL_meanReach_0 : decode cL_meanReach 0 = .ok (.aload_n 2, 1) := by decide +kernel
theorem dL_meanReach_1 : decode cL_meanReach 1 = .ok (.iconst 0, 1) := by decide +kernel
theorem dL_meanReach_2 : decode cL_meanReach 2 = .ok (.aload_n 0, 1) := by decide +kernel
theorem dL_meanReach_3 : decode cL_meanReach 3 = .ok (.iload_n 1, 1) := by decide +kernel
theorem dL_meanReach_4 : decode cL_meanReach 4 = .ok (.invokevirtual 71, 3) := by decide +kernel
theorem dL_meanReach_7 : decode cL_meanReach 7 = .ok (.f2d, 1) := by decide +kernel
theorem dL_meanReach_8 : decode cL_meanReach 8 = .ok (.dastore, 1) := by decide +kernel
theorem dL_meanReach_9 : decode cL_meanReach 9 = .ok (.goto 6, 3) := by decide +kernel
theorem dL_meanReach_12 : decode cL_meanReach 12 = .ok (.astore_n 3, 1) := by decide +kernel
theorem dL_meanReach_13 : decode cL_meanReach 13 = .ok (.iconst 1, 1) := by decide +kernel
theorem dL_meanReach_14 : decode cL_meanReach 14 = .ok (.ireturn, 1) := by decide +kernel
theorem dL_meanReach_15 : decode cL_meanReach 15 = .ok (.iconst 0, 1) := by decide +kernel
theorem dL_meanReach_16 : decode cL_meanReach 16 = .ok (.ireturn, 1) := by decide +kernel
theorem dL_component_0 : decode cL_component 0 = .ok (.aload_n 3, 1) := by decide +kernel
theorem dL_component_1 : decode cL_component 1 = .ok (.iconst 0, 1) := by decide +kernel
theorem dL_component_2 : decode cL_component 2 = .ok (.aload_n 0, 1) := by decide +kernel
theorem dL_component_3 : decode cL_component 3 = .ok (.iload_n 1, 1) := by decide +kernel
theorem dL_component_4 : decode cL_component 4 = .ok (.iload_n 2, 1) := by decide +kernel
theorem dL_component_5 : decode cL_component 5 = .ok (.invokevirtual 75, 3) := by decide +kernel
theorem dL_component_8 : decode cL_component 8 = .ok (.i2l, 1) := by decide +kernel
theorem dL_component_9 : decode cL_component 9 = .ok (.lastore, 1) := by decide +kernel
theorem dL_component_10 : decode cL_component 10 = .ok (.goto 7, 3) := by decide +kernel
theorem dL_component_13 : decode cL_component 13 = .ok (.astore 4, 2) := by decide +kernel
theorem dL_component_15 : decode cL_component 15 = .ok (.iconst 1, 1) := by decide +kernel
theorem dL_component_16 : decode cL_component 16 = .ok (.ireturn, 1) := by decide +kernel
theorem dL_component_17 : decode cL_component 17 = .ok (.iconst 0, 1) := by decide +kernel
theorem dL_component_18 : decode cL_component 18 = .ok (.ireturn, 1) := by decide +kernel
theorem dL_components_0 : decode cL_components 0 = .ok (.aload_n 2, 1) := by decide +kernel
theorem dL_components_1 : decode cL_components 1 = .ok (.iconst 0, 1) := by decide +kernel
theorem dL_components_2 : decode cL_components 2 = .ok (.aload_n 0, 1) := by decide +kernel
theorem dL_components_3 : decode cL_components 3 = .ok (.iload_n 1, 1) := by decide +kernel
theorem dL_components_4 : decode cL_components 4 = .ok (.invokevirtual 78, 3) := by decide +kernel
theorem dL_components_7 : decode cL_components 7 = .ok (.i2l, 1) := by decide +kernel
theorem dL_components_8 : decode cL_components 8 = .ok (.lastore, 1) := by decide +kernel
theorem dL_components_9 : decode cL_components 9 = .ok (.goto 6, 3) := by decide +kernel
theorem dL_components_12 : decode cL_components 12 = .ok (.astore_n 3, 1) := by decide +kernel
theorem dL_components_13 : decode cL_components 13 = .ok (.iconst 1, 1) := by decide +kernel
theorem dL_components_14 : decode cL_components 14 = .ok (.ireturn, 1) := by decide +kernel
theorem dL_components_15 : decode cL_components 15 = .ok (.iconst 0, 1) := by decide +kernel
theorem dL_components_16 : decode cL_components 16 = .ok (.ireturn, 1) := by decide +kernel
theorem dL_distance_0 : decode cL_distance 0 = .ok (.aload 4, 2) := by decide +kernel
theorem dL_distance_2 : decode cL_distance 2 = .ok (.iconst 0, 1) := by decide +kernel
theorem dL_distance_3 : decode cL_distance 3 = .ok (.aload_n 0, 1) := by decide +kernel
theorem dL_distance_4 : decode cL_distance 4 = .ok (.iload_n 1, 1) := by decide +kernel
theorem dL_distance_5 : decode cL_distance 5 = .ok (.iload_n 2, 1) := by decide +kernel
theorem dL_distance_6 : decode cL_distance 6 = .ok (.iload_n 3, 1) := by decide +kernel
theorem dL_distance_7 : decode cL_distance 7 = .ok (.invokevirtual 81, 3) := by decide +kernel
theorem dL_distance_10 : decode cL_distance 10 = .ok (.i2l, 1) := by decide +kernel
theorem dL_distance_11 : decode cL_distance 11 = .ok (.lastore, 1) := by decide +kernel
theorem dL_distance_12 : decode cL_distance 12 = .ok (.goto 7, 3) := by decide +kernel
theorem dL_distance_15 : decode cL_distance 15 = .ok (.astore 5, 2) := by decide +kernel
theorem dL_distance_17 : decode cL_distance 17 = .ok (.iconst 1, 1) := by decide +kernel
theorem dL_distance_18 : decode cL_distance 18 = .ok (.ireturn, 1) := by decide +kernel
theorem dL_distance_19 : decode cL_distance 19 = .ok (.iconst 0, 1) := by decide +kernel
theorem dL_distance_20 : decode cL_distance 20 = .ok (.ireturn, 1) := by decide +kernel
theorem dL_stepAt_0 : decode cL_stepAt 0 = .ok (.aload 5, 2) := by decide +kernel
theorem dL_stepAt_2 : decode cL_stepAt 2 = .ok (.iconst 0, 1) := by decide +kernel
theorem dL_stepAt_3 : decode cL_stepAt 3 = .ok (.aload_n 0, 1) := by decide +kernel
theorem dL_stepAt_4 : decode cL_stepAt 4 = .ok (.iload_n 1, 1) := by decide +kernel
theorem dL_stepAt_5 : decode cL_stepAt 5 = .ok (.iload_n 2, 1) := by decide +kernel
theorem dL_stepAt_6 : decode cL_stepAt 6 = .ok (.iload_n 3, 1) := by decide +kernel
theorem dL_stepAt_7 : decode cL_stepAt 7 = .ok (.iload 4, 2) := by decide +kernel
theorem dL_stepAt_9 : decode cL_stepAt 9 = .ok (.invokevirtual 84, 3) := by decide +kernel
theorem dL_stepAt_12 : decode cL_stepAt 12 = .ok (.i2l, 1) := by decide +kernel
theorem dL_stepAt_13 : decode cL_stepAt 13 = .ok (.lastore, 1) := by decide +kernel
theorem dL_stepAt_14 : decode cL_stepAt 14 = .ok (.goto 7, 3) := by decide +kernel
theorem dL_stepAt_17 : decode cL_stepAt 17 = .ok (.astore 6, 2) := by decide +kernel
theorem dL_stepAt_19 : decode cL_stepAt 19 = .ok (.iconst 1, 1) := by decide +kernel
theorem dL_stepAt_20 : decode cL_stepAt 20 = .ok (.ireturn, 1) := by decide +kernel
theorem dL_stepAt_21 : decode cL_stepAt 21 = .ok (.iconst 0, 1) := by decide +kernel
theorem dL_stepAt_22 : decode cL_stepAt 22 = .ok (.ireturn, 1) := by decide +kernel
theorem dL_around_0 : decode cL_around 0 = .ok (.aload_n 3, 1) := by decide +kernel
theorem dL_around_1 : decode cL_around 1 = .ok (.iconst 0, 1) := by decide +kernel
theorem dL_around_2 : decode cL_around 2 = .ok (.aload_n 0, 1) := by decide +kernel
theorem dL_around_3 : decode cL_around 3 = .ok (.iload_n 1, 1) := by decide +kernel
theorem dL_around_4 : decode cL_around 4 = .ok (.iload_n 2, 1) := by decide +kernel
theorem dL_around_5 : decode cL_around 5 = .ok (.invokevirtual 88, 3) := by decide +kernel
theorem dL_around_8 : decode cL_around 8 = .ok (.i2l, 1) := by decide +kernel
theorem dL_around_9 : decode cL_around 9 = .ok (.lastore, 1) := by decide +kernel
theorem dL_around_10 : decode cL_around 10 = .ok (.goto 7, 3) := by decide +kernel
theorem dL_around_13 : decode cL_around 13 = .ok (.astore 4, 2) := by decide +kernel
theorem dL_around_15 : decode cL_around 15 = .ok (.iconst 1, 1) := by decide +kernel
theorem dL_around_16 : decode cL_around 16 = .ok (.ireturn, 1) := by decide +kernel
theorem dL_around_17 : decode cL_around 17 = .ok (.iconst 0, 1) := by decide +kernel
theorem dL_around_18 : decode cL_around 18 = .ok (.ireturn, 1) := by decide +kernel
theorem dL_girth_0 : decode cL_girth 0 = .ok (.aload_n 2, 1) := by decide +kernel
theorem dL_girth_1 : decode cL_girth 1 = .ok (.iconst 0, 1) := by decide +kernel
theorem dL_girth_2 : decode cL_girth 2 = .ok (.aload_n 0, 1) := by decide +kernel
theorem dL_girth_3 : decode cL_girth 3 = .ok (.iload_n 1, 1) := by decide +kernel
theorem dL_girth_4 : decode cL_girth 4 = .ok (.invokevirtual 91, 3) := by decide +kernel
theorem dL_girth_7 : decode cL_girth 7 = .ok (.i2l, 1) := by decide +kernel
theorem dL_girth_8 : decode cL_girth 8 = .ok (.lastore, 1) := by decide +kernel
theorem dL_girth_9 : decode cL_girth 9 = .ok (.goto 6, 3) := by decide +kernel
theorem dL_girth_12 : decode cL_girth 12 = .ok (.astore_n 3, 1) := by decide +kernel
theorem dL_girth_13 : decode cL_girth 13 = .ok (.iconst 1, 1) := by decide +kernel
theorem dL_girth_14 : decode cL_girth 14 = .ok (.ireturn, 1) := by decide +kernel
theorem dL_girth_15 : decode cL_girth 15 = .ok (.iconst 0, 1) := by decide +kernel
theorem dL_girth_16 : decode cL_girth 16 = .ok (.ireturn, 1) := by decide +kernel
theorem dL_order_0 : decode cL_order 0 = .ok (.aload_n 3, 1) := by decide +kernel
theorem dL_order_1 : decode cL_order 1 = .ok (.iconst 0, 1) := by decide +kernel
theorem dL_order_2 : decode cL_order 2 = .ok (.aload_n 0, 1) := by decide +kernel
theorem dL_order_3 : decode cL_order 3 = .ok (.iload_n 1, 1) := by decide +kernel
theorem dL_order_4 : decode cL_order 4 = .ok (.iload_n 2, 1) := by decide +kernel
theorem dL_order_5 : decode cL_order 5 = .ok (.invokevirtual 94, 3) := by decide +kernel
theorem dL_order_8 : decode cL_order 8 = .ok (.i2l, 1) := by decide +kernel
theorem dL_order_9 : decode cL_order 9 = .ok (.lastore, 1) := by decide +kernel
theorem dL_order_10 : decode cL_order 10 = .ok (.goto 7, 3) := by decide +kernel
theorem dL_order_13 : decode cL_order 13 = .ok (.astore 4, 2) := by decide +kernel
theorem dL_order_15 : decode cL_order 15 = .ok (.iconst 1, 1) := by decide +kernel
theorem dL_order_16 : decode cL_order 16 = .ok (.ireturn, 1) := by decide +kernel
theorem dL_order_17 : decode cL_order 17 = .ok (.iconst 0, 1) := by decide +kernel
theorem dL_order_18 : decode cL_order 18 = .ok (.ireturn, 1) := by decide +kernel
theorem dL_gained_0 : decode cL_gained 0 = .ok (.aload 4, 2) := by decide +kernel
theorem dL_gained_2 : decode cL_gained 2 = .ok (.iconst 0, 1) := by decide +kernel
theorem dL_gained_3 : decode cL_gained 3 = .ok (.aload_n 0, 1) := by decide +kernel
theorem dL_gained_4 : decode cL_gained 4 = .ok (.iload_n 1, 1) := by decide +kernel
theorem dL_gained_5 : decode cL_gained 5 = .ok (.iload_n 2, 1) := by decide +kernel
theorem dL_gained_6 : decode cL_gained 6 = .ok (.iload_n 3, 1) := by decide +kernel
theorem dL_gained_7 : decode cL_gained 7 = .ok (.invokevirtual 97, 3) := by decide +kernel
theorem dL_gained_10 : decode cL_gained 10 = .ok (.i2l, 1) := by decide +kernel
theorem dL_gained_11 : decode cL_gained 11 = .ok (.lastore, 1) := by decide +kernel
theorem dL_gained_12 : decode cL_gained 12 = .ok (.goto 7, 3) := by decide +kernel
theorem dL_gained_15 : decode cL_gained 15 = .ok (.astore 5, 2) := by decide +kernel
theorem dL_gained_17 : decode cL_gained 17 = .ok (.iconst 1, 1) := by decide +kernel
theorem dL_gained_18 : decode cL_gained 18 = .ok (.ireturn, 1) := by decide +kernel
theorem dL_gained_19 : decode cL_gained 19 = .ok (.iconst 0, 1) := by decide +kernel
theorem dL_gained_20 : decode cL_gained 20 = .ok (.ireturn, 1) := by decide +kernel
theorem dL_lost_0 : decode cL_lost 0 = .ok (.aload 4, 2) := by decide +kernel
theorem dL_lost_2 : decode cL_lost 2 = .ok (.iconst 0, 1) := by decide +kernel
theorem dL_lost_3 : decode cL_lost 3 = .ok (.aload_n 0, 1) := by decide +kernel
theorem dL_lost_4 : decode cL_lost 4 = .ok (.iload_n 1, 1) := by decide +kernel
theorem dL_lost_5 : decode cL_lost 5 = .ok (.iload_n 2, 1) := by decide +kernel
theorem dL_lost_6 : decode cL_lost 6 = .ok (.iload_n 3, 1) := by decide +kernel
theorem dL_lost_7 : decode cL_lost 7 = .ok (.invokevirtual 100, 3) := by decide +kernel
theorem dL_lost_10 : decode cL_lost 10 = .ok (.i2l, 1) := by decide +kernel
theorem dL_lost_11 : decode cL_lost 11 = .ok (.lastore, 1) := by decide +kernel
theorem dL_lost_12 : decode cL_lost 12 = .ok (.goto 7, 3) := by decide +kernel
theorem dL_lost_15 : decode cL_lost 15 = .ok (.astore 5, 2) := by decide +kernel
theorem dL_lost_17 : decode cL_lost 17 = .ok (.iconst 1, 1) := by decide +kernel
theorem dL_lost_18 : decode cL_lost 18 = .ok (.ireturn, 1) := by decide +kernel
theorem dL_lost_19 : decode cL_lost 19 = .ok (.iconst 0, 1) := by decide +kernel
theorem dL_lost_20 : decode cL_lost 20 = .ok (.ireturn, 1) := by decide +kernel
theorem dL_bestEdge_0 : decode cL_bestEdge 0 = .ok (.aload_n 2, 1) := by decide +kernel
theorem dL_bestEdge_1 : decode cL_bestEdge 1 = .ok (.iconst 0, 1) := by decide +kernel
theorem dL_bestEdge_2 : decode cL_bestEdge 2 = .ok (.aload_n 0, 1) := by decide +kernel
theorem dL_bestEdge_3 : decode cL_bestEdge 3 = .ok (.iload_n 1, 1) := by decide +kernel
theorem dL_bestEdge_4 : decode cL_bestEdge 4 = .ok (.invokevirtual 103, 3) := by decide +kernel
theorem dL_bestEdge_7 : decode cL_bestEdge 7 = .ok (.i2l, 1) := by decide +kernel
theorem dL_bestEdge_8 : decode cL_bestEdge 8 = .ok (.lastore, 1) := by decide +kernel
theorem dL_bestEdge_9 : decode cL_bestEdge 9 = .ok (.goto 6, 3) := by decide +kernel
theorem dL_bestEdge_12 : decode cL_bestEdge 12 = .ok (.astore_n 3, 1) := by decide +kernel
theorem dL_bestEdge_13 : decode cL_bestEdge 13 = .ok (.iconst 1, 1) := by decide +kernel
theorem dL_bestEdge_14 : decode cL_bestEdge 14 = .ok (.ireturn, 1) := by decide +kernel
theorem dL_bestEdge_15 : decode cL_bestEdge 15 = .ok (.iconst 0, 1) := by decide +kernel
theorem dL_bestEdge_16 : decode cL_bestEdge 16 = .ok (.ireturn, 1) := by decide +kernel
theorem dL_weakest_0 : decode cL_weakest 0 = .ok (.aload_n 2, 1) := by decide +kernel
theorem dL_weakest_1 : decode cL_weakest 1 = .ok (.iconst 0, 1) := by decide +kernel
theorem dL_weakest_2 : decode cL_weakest 2 = .ok (.aload_n 0, 1) := by decide +kernel
theorem dL_weakest_3 : decode cL_weakest 3 = .ok (.iload_n 1, 1) := by decide +kernel
theorem dL_weakest_4 : decode cL_weakest 4 = .ok (.invokevirtual 106, 3) := by decide +kernel
theorem dL_weakest_7 : decode cL_weakest 7 = .ok (.i2l, 1) := by decide +kernel
theorem dL_weakest_8 : decode cL_weakest 8 = .ok (.lastore, 1) := by decide +kernel
theorem dL_weakest_9 : decode cL_weakest 9 = .ok (.goto 6, 3) := by decide +kernel
theorem dL_weakest_12 : decode cL_weakest 12 = .ok (.astore_n 3, 1) := by decide +kernel
theorem dL_weakest_13 : decode cL_weakest 13 = .ok (.iconst 1, 1) := by decide +kernel
theorem dL_weakest_14 : decode cL_weakest 14 = .ok (.ireturn, 1) := by decide +kernel
theorem dL_weakest_15 : decode cL_weakest 15 = .ok (.iconst 0, 1) := by decide +kernel
theorem dL_weakest_16 : decode cL_weakest 16 = .ok (.ireturn, 1) := by decide +kernel
theorem dL_triangles_0 : decode cL_triangles 0 = .ok (.aload_n 2, 1) := by decide +kernel
theorem dL_triangles_1 : decode cL_triangles 1 = .ok (.iconst 0, 1) := by decide +kernel
theorem dL_triangles_2 : decode cL_triangles 2 = .ok (.aload_n 0, 1) := by decide +kernel
theorem dL_triangles_3 : decode cL_triangles 3 = .ok (.iload_n 1, 1) := by decide +kernel
theorem dL_triangles_4 : decode cL_triangles 4 = .ok (.invokevirtual 109, 3) := by decide +kernel
theorem dL_triangles_7 : decode cL_triangles 7 = .ok (.i2l, 1) := by decide +kernel
theorem dL_triangles_8 : decode cL_triangles 8 = .ok (.lastore, 1) := by decide +kernel
theorem dL_triangles_9 : decode cL_triangles 9 = .ok (.goto 6, 3) := by decide +kernel
theorem dL_triangles_12 : decode cL_triangles 12 = .ok (.astore_n 3, 1) := by decide +kernel
theorem dL_triangles_13 : decode cL_triangles 13 = .ok (.iconst 1, 1) := by decide +kernel
theorem dL_triangles_14 : decode cL_triangles 14 = .ok (.ireturn, 1) := by decide +kernel
theorem dL_triangles_15 : decode cL_triangles 15 = .ok (.iconst 0, 1) := by decide +kernel
theorem dL_triangles_16 : decode cL_triangles 16 = .ok (.ireturn, 1) := by decide +kernel
theorem dL_fieldRank_0 : decode cL_fieldRank 0 = .ok (.aload_n 2, 1) := by decide +kernel
theorem dL_fieldRank_1 : decode cL_fieldRank 1 = .ok (.iconst 0, 1) := by decide +kernel
theorem dL_fieldRank_2 : decode cL_fieldRank 2 = .ok (.aload_n 0, 1) := by decide +kernel
theorem dL_fieldRank_3 : decode cL_fieldRank 3 = .ok (.iload_n 1, 1) := by decide +kernel
theorem dL_fieldRank_4 : decode cL_fieldRank 4 = .ok (.invokevirtual 112, 3) := by decide +kernel
theorem dL_fieldRank_7 : decode cL_fieldRank 7 = .ok (.i2l, 1) := by decide +kernel
theorem dL_fieldRank_8 : decode cL_fieldRank 8 = .ok (.lastore, 1) := by decide +kernel
theorem dL_fieldRank_9 : decode cL_fieldRank 9 = .ok (.goto 6, 3) := by decide +kernel
theorem dL_fieldRank_12 : decode cL_fieldRank 12 = .ok (.astore_n 3, 1) := by decide +kernel
theorem dL_fieldRank_13 : decode cL_fieldRank 13 = .ok (.iconst 1, 1) := by decide +kernel
theorem dL_fieldRank_14 : decode cL_fieldRank 14 = .ok (.ireturn, 1) := by decide +kernel
theorem dL_fieldRank_15 : decode cL_fieldRank 15 = .ok (.iconst 0, 1) := by decide +kernel
theorem dL_fieldRank_16 : decode cL_fieldRank 16 = .ok (.ireturn, 1) := by decide +kernel
theorem dL_solve_0 : decode cL_solve 0 = .ok (.aload 4, 2) := by decide +kernel
theorem dL_solve_2 : decode cL_solve 2 = .ok (.iconst 0, 1) := by decide +kernel
theorem dL_solve_3 : decode cL_solve 3 = .ok (.aload_n 0, 1) := by decide +kernel
theorem dL_solve_4 : decode cL_solve 4 = .ok (.iload_n 1, 1) := by decide +kernel
theorem dL_solve_5 : decode cL_solve 5 = .ok (.lload_n 2, 1) := by decide +kernel
theorem dL_solve_6 : decode cL_solve 6 = .ok (.invokevirtual 115, 3) := by decide +kernel
theorem dL_solve_9 : decode cL_solve 9 = .ok (.lastore, 1) := by decide +kernel
theorem dL_solve_10 : decode cL_solve 10 = .ok (.goto 7, 3) := by decide +kernel
theorem dL_solve_13 : decode cL_solve 13 = .ok (.astore 5, 2) := by decide +kernel
theorem dL_solve_15 : decode cL_solve 15 = .ok (.iconst 1, 1) := by decide +kernel
theorem dL_solve_16 : decode cL_solve 16 = .ok (.ireturn, 1) := by decide +kernel
theorem dL_solve_17 : decode cL_solve 17 = .ok (.iconst 0, 1) := by decide +kernel
theorem dL_solve_18 : decode cL_solve 18 = .ok (.ireturn, 1) := by decide +kernel
theorem dL_freedom_0 : decode cL_freedom 0 = .ok (.aload 4, 2) := by decide +kernel
theorem dL_freedom_2 : decode cL_freedom 2 = .ok (.iconst 0, 1) := by decide +kernel
theorem dL_freedom_3 : decode cL_freedom 3 = .ok (.aload_n 0, 1) := by decide +kernel
theorem dL_freedom_4 : decode cL_freedom 4 = .ok (.iload_n 1, 1) := by decide +kernel
theorem dL_freedom_5 : decode cL_freedom 5 = .ok (.lload_n 2, 1) := by decide +kernel
theorem dL_freedom_6 : decode cL_freedom 6 = .ok (.invokevirtual 119, 3) := by decide +kernel
theorem dL_freedom_9 : decode cL_freedom 9 = .ok (.i2l, 1) := by decide +kernel
theorem dL_freedom_10 : decode cL_freedom 10 = .ok (.lastore, 1) := by decide +kernel
theorem dL_freedom_11 : decode cL_freedom 11 = .ok (.goto 7, 3) := by decide +kernel
theorem dL_freedom_14 : decode cL_freedom 14 = .ok (.astore 5, 2) := by decide +kernel
theorem dL_freedom_16 : decode cL_freedom 16 = .ok (.iconst 1, 1) := by decide +kernel
theorem dL_freedom_17 : decode cL_freedom 17 = .ok (.ireturn, 1) := by decide +kernel
theorem dL_freedom_18 : decode cL_freedom 18 = .ok (.iconst 0, 1) := by decide +kernel
theorem dL_freedom_19 : decode cL_freedom 19 = .ok (.ireturn, 1) := by decide +kernel
theorem dL_pivot_0 : decode cL_pivot 0 = .ok (.aload_n 3, 1) := by decide +kernel
theorem dL_pivot_1 : decode cL_pivot 1 = .ok (.iconst 0, 1) := by decide +kernel
theorem dL_pivot_2 : decode cL_pivot 2 = .ok (.aload_n 0, 1) := by decide +kernel
theorem dL_pivot_3 : decode cL_pivot 3 = .ok (.iload_n 1, 1) := by decide +kernel
theorem dL_pivot_4 : decode cL_pivot 4 = .ok (.iload_n 2, 1) := by decide +kernel
theorem dL_pivot_5 : decode cL_pivot 5 = .ok (.invokevirtual 122, 3) := by decide +kernel
theorem dL_pivot_8 : decode cL_pivot 8 = .ok (.i2l, 1) := by decide +kernel
theorem dL_pivot_9 : decode cL_pivot 9 = .ok (.lastore, 1) := by decide +kernel
theorem dL_pivot_10 : decode cL_pivot 10 = .ok (.goto 7, 3) := by decide +kernel
theorem dL_pivot_13 : decode cL_pivot 13 = .ok (.astore 4, 2) := by decide +kernel
theorem dL_pivot_15 : decode cL_pivot 15 = .ok (.iconst 1, 1) := by decide +kernel
theorem dL_pivot_16 : decode cL_pivot 16 = .ok (.ireturn, 1) := by decide +kernel
theorem dL_pivot_17 : decode cL_pivot 17 = .ok (.iconst 0, 1) := by decide +kernel
theorem dL_pivot_18 : decode cL_pivot 18 = .ok (.ireturn, 1) := by decide +kernel
theorem dL_put_0 : decode cL_put 0 = .ok (.aload 5, 2) := by decide +kernel
theorem dL_put_2 : decode cL_put 2 = .ok (.iconst 0, 1) := by decide +kernel
theorem dL_put_3 : decode cL_put 3 = .ok (.aload_n 0, 1) := by decide +kernel
theorem dL_put_4 : decode cL_put 4 = .ok (.iload_n 1, 1) := by decide +kernel
theorem dL_put_5 : decode cL_put 5 = .ok (.iload_n 2, 1) := by decide +kernel
theorem dL_put_6 : decode cL_put 6 = .ok (.iload_n 3, 1) := by decide +kernel
theorem dL_put_7 : decode cL_put 7 = .ok (.iload 4, 2) := by decide +kernel
theorem dL_put_9 : decode cL_put 9 = .ok (.invokevirtual 125, 3) := by decide +kernel
theorem dL_put_12 : decode cL_put 12 = .ok (.i2l, 1) := by decide +kernel
theorem dL_put_13 : decode cL_put 13 = .ok (.lastore, 1) := by decide +kernel
theorem dL_put_14 : decode cL_put 14 = .ok (.goto 7, 3) := by decide +kernel
theorem dL_put_17 : decode cL_put 17 = .ok (.astore 6, 2) := by decide +kernel
theorem dL_put_19 : decode cL_put 19 = .ok (.iconst 1, 1) := by decide +kernel
theorem dL_put_20 : decode cL_put 20 = .ok (.ireturn, 1) := by decide +kernel
theorem dL_put_21 : decode cL_put 21 = .ok (.iconst 0, 1) := by decide +kernel
theorem dL_put_22 : decode cL_put 22 = .ok (.ireturn, 1) := by decide +kernel
theorem dL_setRow_0 : decode cL_setRow 0 = .ok (.aload 5, 2) := by decide +kernel
theorem dL_setRow_2 : decode cL_setRow 2 = .ok (.iconst 0, 1) := by decide +kernel
theorem dL_setRow_3 : decode cL_setRow 3 = .ok (.aload_n 0, 1) := by decide +kernel
theorem dL_setRow_4 : decode cL_setRow 4 = .ok (.iload_n 1, 1) := by decide +kernel
theorem dL_setRow_5 : decode cL_setRow 5 = .ok (.iload_n 2, 1) := by decide +kernel
theorem dL_setRow_6 : decode cL_setRow 6 = .ok (.lload_n 3, 1) := by decide +kernel
theorem dL_setRow_7 : decode cL_setRow 7 = .ok (.invokevirtual 129, 3) := by decide +kernel
theorem dL_setRow_10 : decode cL_setRow 10 = .ok (.i2l, 1) := by decide +kernel
theorem dL_setRow_11 : decode cL_setRow 11 = .ok (.lastore, 1) := by decide +kernel
theorem dL_setRow_12 : decode cL_setRow 12 = .ok (.goto 7, 3) := by decide +kernel
theorem dL_setRow_15 : decode cL_setRow 15 = .ok (.astore 6, 2) := by decide +kernel
theorem dL_setRow_17 : decode cL_setRow 17 = .ok (.iconst 1, 1) := by decide +kernel
theorem dL_setRow_18 : decode cL_setRow 18 = .ok (.ireturn, 1) := by decide +kernel
theorem dL_setRow_19 : decode cL_setRow 19 = .ok (.iconst 0, 1) := by decide +kernel
theorem dL_setRow_20 : decode cL_setRow 20 = .ok (.ireturn, 1) := by decide +kernel
theorem dL_copy_0 : decode cL_copy 0 = .ok (.aload_n 3, 1) := by decide +kernel
theorem dL_copy_1 : decode cL_copy 1 = .ok (.iconst 0, 1) := by decide +kernel
theorem dL_copy_2 : decode cL_copy 2 = .ok (.aload_n 0, 1) := by decide +kernel
theorem dL_copy_3 : decode cL_copy 3 = .ok (.iload_n 1, 1) := by decide +kernel
theorem dL_copy_4 : decode cL_copy 4 = .ok (.iload_n 2, 1) := by decide +kernel
theorem dL_copy_5 : decode cL_copy 5 = .ok (.invokevirtual 133, 3) := by decide +kernel
theorem dL_copy_8 : decode cL_copy 8 = .ok (.i2l, 1) := by decide +kernel
theorem dL_copy_9 : decode cL_copy 9 = .ok (.lastore, 1) := by decide +kernel
theorem dL_copy_10 : decode cL_copy 10 = .ok (.goto 7, 3) := by decide +kernel
theorem dL_copy_13 : decode cL_copy 13 = .ok (.astore 4, 2) := by decide +kernel
theorem dL_copy_15 : decode cL_copy 15 = .ok (.iconst 1, 1) := by decide +kernel
theorem dL_copy_16 : decode cL_copy 16 = .ok (.ireturn, 1) := by decide +kernel
theorem dL_copy_17 : decode cL_copy 17 = .ok (.iconst 0, 1) := by decide +kernel
theorem dL_copy_18 : decode cL_copy 18 = .ok (.ireturn, 1) := by decide +kernel
theorem dL_transpose_0 : decode cL_transpose 0 = .ok (.aload_n 3, 1) := by decide +kernel
theorem dL_transpose_1 : decode cL_transpose 1 = .ok (.iconst 0, 1) := by decide +kernel
theorem dL_transpose_2 : decode cL_transpose 2 = .ok (.aload_n 0, 1) := by decide +kernel
theorem dL_transpose_3 : decode cL_transpose 3 = .ok (.iload_n 1, 1) := by decide +kernel
theorem dL_transpose_4 : decode cL_transpose 4 = .ok (.iload_n 2, 1) := by decide +kernel
theorem dL_transpose_5 : decode cL_transpose 5 = .ok (.invokevirtual 136, 3) := by decide +kernel
theorem dL_transpose_8 : decode cL_transpose 8 = .ok (.i2l, 1) := by decide +kernel
theorem dL_transpose_9 : decode cL_transpose 9 = .ok (.lastore, 1) := by decide +kernel
theorem dL_transpose_10 : decode cL_transpose 10 = .ok (.goto 7, 3) := by decide +kernel
theorem dL_transpose_13 : decode cL_transpose 13 = .ok (.astore 4, 2) := by decide +kernel
theorem dL_transpose_15 : decode cL_transpose 15 = .ok (.iconst 1, 1) := by decide +kernel
theorem dL_transpose_16 : decode cL_transpose 16 = .ok (.ireturn, 1) := by decide +kernel
theorem dL_transpose_17 : decode cL_transpose 17 = .ok (.iconst 0, 1) := by decide +kernel
theorem dL_transpose_18 : decode cL_transpose 18 = .ok (.ireturn, 1) := by decide +kernel
theorem dL_combine_0 : decode cL_combine 0 = .ok (.aload 5, 2) := by decide +kernel
theorem dL_combine_2 : decode cL_combine 2 = .ok (.iconst 0, 1) := by decide +kernel
theorem dL_combine_3 : decode cL_combine 3 = .ok (.aload_n 0, 1) := by decide +kernel
theorem dL_combine_4 : decode cL_combine 4 = .ok (.iload_n 1, 1) := by decide +kernel
theorem dL_combine_5 : decode cL_combine 5 = .ok (.iload_n 2, 1) := by decide +kernel
theorem dL_combine_6 : decode cL_combine 6 = .ok (.iload_n 3, 1) := by decide +kernel
theorem dL_combine_7 : decode cL_combine 7 = .ok (.iload 4, 2) := by decide +kernel
theorem dL_combine_9 : decode cL_combine 9 = .ok (.invokevirtual 139, 3) := by decide +kernel
theorem dL_combine_12 : decode cL_combine 12 = .ok (.i2l, 1) := by decide +kernel
theorem dL_combine_13 : decode cL_combine 13 = .ok (.lastore, 1) := by decide +kernel
theorem dL_combine_14 : decode cL_combine 14 = .ok (.goto 11, 3) := by decide +kernel
theorem dL_combine_17 : decode cL_combine 17 = .ok (.astore 6, 2) := by decide +kernel
theorem dL_combine_19 : decode cL_combine 19 = .ok (.iconst 1, 1) := by decide +kernel
theorem dL_combine_20 : decode cL_combine 20 = .ok (.ireturn, 1) := by decide +kernel
theorem dL_combine_21 : decode cL_combine 21 = .ok (.astore 6, 2) := by decide +kernel
theorem dL_combine_23 : decode cL_combine 23 = .ok (.iconst 2, 1) := by decide +kernel
theorem dL_combine_24 : decode cL_combine 24 = .ok (.ireturn, 1) := by decide +kernel
theorem dL_combine_25 : decode cL_combine 25 = .ok (.iconst 0, 1) := by decide +kernel
theorem dL_combine_26 : decode cL_combine 26 = .ok (.ireturn, 1) := by decide +kernel
theorem dL_product_0 : decode cL_product 0 = .ok (.aload 5, 2) := by decide +kernel
theorem dL_product_2 : decode cL_product 2 = .ok (.iconst 0, 1) := by decide +kernel
theorem dL_product_3 : decode cL_product 3 = .ok (.aload_n 0, 1) := by decide +kernel
theorem dL_product_4 : decode cL_product 4 = .ok (.iload_n 1, 1) := by decide +kernel
theorem dL_product_5 : decode cL_product 5 = .ok (.iload_n 2, 1) := by decide +kernel
theorem dL_product_6 : decode cL_product 6 = .ok (.iload_n 3, 1) := by decide +kernel
theorem dL_product_7 : decode cL_product 7 = .ok (.iload 4, 2) := by decide +kernel
theorem dL_product_9 : decode cL_product 9 = .ok (.invokevirtual 142, 3) := by decide +kernel
theorem dL_product_12 : decode cL_product 12 = .ok (.i2l, 1) := by decide +kernel
theorem dL_product_13 : decode cL_product 13 = .ok (.lastore, 1) := by decide +kernel
theorem dL_product_14 : decode cL_product 14 = .ok (.goto 7, 3) := by decide +kernel
theorem dL_product_17 : decode cL_product 17 = .ok (.astore 6, 2) := by decide +kernel
theorem dL_product_19 : decode cL_product 19 = .ok (.iconst 1, 1) := by decide +kernel
theorem dL_product_20 : decode cL_product 20 = .ok (.ireturn, 1) := by decide +kernel
theorem dL_product_21 : decode cL_product 21 = .ok (.iconst 0, 1) := by decide +kernel
theorem dL_product_22 : decode cL_product 22 = .ok (.ireturn, 1) := by decide +kernel
theorem dL_power_0 : decode cL_power 0 = .ok (.aload 5, 2) := by decide +kernel
theorem dL_power_2 : decode cL_power 2 = .ok (.iconst 0, 1) := by decide +kernel
theorem dL_power_3 : decode cL_power 3 = .ok (.aload_n 0, 1) := by decide +kernel
theorem dL_power_4 : decode cL_power 4 = .ok (.iload_n 1, 1) := by decide +kernel
theorem dL_power_5 : decode cL_power 5 = .ok (.iload_n 2, 1) := by decide +kernel
theorem dL_power_6 : decode cL_power 6 = .ok (.iload_n 3, 1) := by decide +kernel
theorem dL_power_7 : decode cL_power 7 = .ok (.iload 4, 2) := by decide +kernel
theorem dL_power_9 : decode cL_power 9 = .ok (.invokevirtual 145, 3) := by decide +kernel
theorem dL_power_12 : decode cL_power 12 = .ok (.i2l, 1) := by decide +kernel
theorem dL_power_13 : decode cL_power 13 = .ok (.lastore, 1) := by decide +kernel
theorem dL_power_14 : decode cL_power 14 = .ok (.goto 11, 3) := by decide +kernel
theorem dL_power_17 : decode cL_power 17 = .ok (.astore 6, 2) := by decide +kernel
theorem dL_power_19 : decode cL_power 19 = .ok (.iconst 1, 1) := by decide +kernel
theorem dL_power_20 : decode cL_power 20 = .ok (.ireturn, 1) := by decide +kernel
theorem dL_power_21 : decode cL_power 21 = .ok (.astore 6, 2) := by decide +kernel
theorem dL_power_23 : decode cL_power 23 = .ok (.iconst 2, 1) := by decide +kernel
theorem dL_power_24 : decode cL_power 24 = .ok (.ireturn, 1) := by decide +kernel
theorem dL_power_25 : decode cL_power 25 = .ok (.iconst 0, 1) := by decide +kernel
theorem dL_power_26 : decode cL_power 26 = .ok (.ireturn, 1) := by decide +kernel
theorem dL_invert_0 : decode cL_invert 0 = .ok (.aload_n 3, 1) := by decide +kernel
theorem dL_invert_1 : decode cL_invert 1 = .ok (.iconst 0, 1) := by decide +kernel
theorem dL_invert_2 : decode cL_invert 2 = .ok (.aload_n 0, 1) := by decide +kernel
theorem dL_invert_3 : decode cL_invert 3 = .ok (.iload_n 1, 1) := by decide +kernel
theorem dL_invert_4 : decode cL_invert 4 = .ok (.iload_n 2, 1) := by decide +kernel
theorem dL_invert_5 : decode cL_invert 5 = .ok (.invokevirtual 148, 3) := by decide +kernel
theorem dL_invert_8 : decode cL_invert 8 = .ok (.i2l, 1) := by decide +kernel
theorem dL_invert_9 : decode cL_invert 9 = .ok (.lastore, 1) := by decide +kernel
theorem dL_invert_10 : decode cL_invert 10 = .ok (.goto 7, 3) := by decide +kernel
theorem dL_invert_13 : decode cL_invert 13 = .ok (.astore 4, 2) := by decide +kernel
theorem dL_invert_15 : decode cL_invert 15 = .ok (.iconst 1, 1) := by decide +kernel
theorem dL_invert_16 : decode cL_invert 16 = .ok (.ireturn, 1) := by decide +kernel
theorem dL_invert_17 : decode cL_invert 17 = .ok (.iconst 0, 1) := by decide +kernel
theorem dL_invert_18 : decode cL_invert 18 = .ok (.ireturn, 1) := by decide +kernel
theorem dL_close_0 : decode cL_close 0 = .ok (.aload_n 3, 1) := by decide +kernel
theorem dL_close_1 : decode cL_close 1 = .ok (.iconst 0, 1) := by decide +kernel
theorem dL_close_2 : decode cL_close 2 = .ok (.aload_n 0, 1) := by decide +kernel
theorem dL_close_3 : decode cL_close 3 = .ok (.iload_n 1, 1) := by decide +kernel
theorem dL_close_4 : decode cL_close 4 = .ok (.iload_n 2, 1) := by decide +kernel
theorem dL_close_5 : decode cL_close 5 = .ok (.invokevirtual 151, 3) := by decide +kernel
theorem dL_close_8 : decode cL_close 8 = .ok (.i2l, 1) := by decide +kernel
theorem dL_close_9 : decode cL_close 9 = .ok (.lastore, 1) := by decide +kernel
theorem dL_close_10 : decode cL_close 10 = .ok (.goto 7, 3) := by decide +kernel
theorem dL_close_13 : decode cL_close 13 = .ok (.astore 4, 2) := by decide +kernel
theorem dL_close_15 : decode cL_close 15 = .ok (.iconst 1, 1) := by decide +kernel
theorem dL_close_16 : decode cL_close 16 = .ok (.ireturn, 1) := by decide +kernel
theorem dL_close_17 : decode cL_close 17 = .ok (.iconst 0, 1) := by decide +kernel
theorem dL_close_18 : decode cL_close 18 = .ok (.ireturn, 1) := by decide +kernel
theorem dL_reduce_0 : decode cL_reduce 0 = .ok (.aload_n 3, 1) := by decide +kernel
theorem dL_reduce_1 : decode cL_reduce 1 = .ok (.iconst 0, 1) := by decide +kernel
theorem dL_reduce_2 : decode cL_reduce 2 = .ok (.aload_n 0, 1) := by decide +kernel
theorem dL_reduce_3 : decode cL_reduce 3 = .ok (.iload_n 1, 1) := by decide +kernel
theorem dL_reduce_4 : decode cL_reduce 4 = .ok (.iload_n 2, 1) := by decide +kernel
theorem dL_reduce_5 : decode cL_reduce 5 = .ok (.invokevirtual 154, 3) := by decide +kernel
theorem dL_reduce_8 : decode cL_reduce 8 = .ok (.i2l, 1) := by decide +kernel
theorem dL_reduce_9 : decode cL_reduce 9 = .ok (.lastore, 1) := by decide +kernel
theorem dL_reduce_10 : decode cL_reduce 10 = .ok (.goto 7, 3) := by decide +kernel
theorem dL_reduce_13 : decode cL_reduce 13 = .ok (.astore 4, 2) := by decide +kernel
theorem dL_reduce_15 : decode cL_reduce 15 = .ok (.iconst 1, 1) := by decide +kernel
theorem dL_reduce_16 : decode cL_reduce 16 = .ok (.ireturn, 1) := by decide +kernel
theorem dL_reduce_17 : decode cL_reduce 17 = .ok (.iconst 0, 1) := by decide +kernel
theorem dL_reduce_18 : decode cL_reduce 18 = .ok (.ireturn, 1) := by decide +kernel
theorem dL_exchange_0 : decode cL_exchange 0 = .ok (.aload 4, 2) := by decide +kernel
theorem dL_exchange_2 : decode cL_exchange 2 = .ok (.iconst 0, 1) := by decide +kernel
theorem dL_exchange_3 : decode cL_exchange 3 = .ok (.aload_n 0, 1) := by decide +kernel
theorem dL_exchange_4 : decode cL_exchange 4 = .ok (.iload_n 1, 1) := by decide +kernel
theorem dL_exchange_5 : decode cL_exchange 5 = .ok (.iload_n 2, 1) := by decide +kernel
theorem dL_exchange_6 : decode cL_exchange 6 = .ok (.iload_n 3, 1) := by decide +kernel
theorem dL_exchange_7 : decode cL_exchange 7 = .ok (.invokevirtual 157, 3) := by decide +kernel
theorem dL_exchange_10 : decode cL_exchange 10 = .ok (.i2l, 1) := by decide +kernel
theorem dL_exchange_11 : decode cL_exchange 11 = .ok (.lastore, 1) := by decide +kernel
theorem dL_exchange_12 : decode cL_exchange 12 = .ok (.goto 7, 3) := by decide +kernel
theorem dL_exchange_15 : decode cL_exchange 15 = .ok (.astore 5, 2) := by decide +kernel
theorem dL_exchange_17 : decode cL_exchange 17 = .ok (.iconst 1, 1) := by decide +kernel
theorem dL_exchange_18 : decode cL_exchange 18 = .ok (.ireturn, 1) := by decide +kernel
theorem dL_exchange_19 : decode cL_exchange 19 = .ok (.iconst 0, 1) := by decide +kernel
theorem dL_exchange_20 : decode cL_exchange 20 = .ok (.ireturn, 1) := by decide +kernel
theorem dL_keep_0 : decode cL_keep 0 = .ok (.aload_n 3, 1) := by decide +kernel
theorem dL_keep_1 : decode cL_keep 1 = .ok (.iconst 0, 1) := by decide +kernel
theorem dL_keep_2 : decode cL_keep 2 = .ok (.aload_n 0, 1) := by decide +kernel
theorem dL_keep_3 : decode cL_keep 3 = .ok (.iload_n 1, 1) := by decide +kernel
theorem dL_keep_4 : decode cL_keep 4 = .ok (.iload_n 2, 1) := by decide +kernel
theorem dL_keep_5 : decode cL_keep 5 = .ok (.invokevirtual 160, 3) := by decide +kernel
theorem dL_keep_8 : decode cL_keep 8 = .ok (.i2l, 1) := by decide +kernel
theorem dL_keep_9 : decode cL_keep 9 = .ok (.lastore, 1) := by decide +kernel
theorem dL_keep_10 : decode cL_keep 10 = .ok (.goto 7, 3) := by decide +kernel
theorem dL_keep_13 : decode cL_keep 13 = .ok (.astore 4, 2) := by decide +kernel
theorem dL_keep_15 : decode cL_keep 15 = .ok (.iconst 1, 1) := by decide +kernel
theorem dL_keep_16 : decode cL_keep 16 = .ok (.ireturn, 1) := by decide +kernel
theorem dL_keep_17 : decode cL_keep 17 = .ok (.iconst 0, 1) := by decide +kernel
theorem dL_keep_18 : decode cL_keep 18 = .ok (.ireturn, 1) := by decide +kernel
theorem dL_setBlock_0 : decode cL_setBlock 0 = .ok (.aload_n 2, 1) := by decide +kernel
theorem dL_setBlock_1 : decode cL_setBlock 1 = .ok (.iconst 0, 1) := by decide +kernel
theorem dL_setBlock_2 : decode cL_setBlock 2 = .ok (.aload_n 0, 1) := by decide +kernel
theorem dL_setBlock_3 : decode cL_setBlock 3 = .ok (.iload_n 1, 1) := by decide +kernel
theorem dL_setBlock_4 : decode cL_setBlock 4 = .ok (.invokevirtual 164, 3) := by decide +kernel
theorem dL_setBlock_7 : decode cL_setBlock 7 = .ok (.i2l, 1) := by decide +kernel
theorem dL_setBlock_8 : decode cL_setBlock 8 = .ok (.lastore, 1) := by decide +kernel
theorem dL_setBlock_9 : decode cL_setBlock 9 = .ok (.goto 6, 3) := by decide +kernel
theorem dL_setBlock_12 : decode cL_setBlock 12 = .ok (.astore_n 3, 1) := by decide +kernel
theorem dL_setBlock_13 : decode cL_setBlock 13 = .ok (.iconst 1, 1) := by decide +kernel
theorem dL_setBlock_14 : decode cL_setBlock 14 = .ok (.ireturn, 1) := by decide +kernel
theorem dL_setBlock_15 : decode cL_setBlock 15 = .ok (.iconst 0, 1) := by decide +kernel
theorem dL_setBlock_16 : decode cL_setBlock 16 = .ok (.ireturn, 1) := by decide +kernel
theorem dL_kept_0 : decode cL_kept 0 = .ok (.aload_n 3, 1) := by decide +kernel
theorem dL_kept_1 : decode cL_kept 1 = .ok (.iconst 0, 1) := by decide +kernel
theorem dL_kept_2 : decode cL_kept 2 = .ok (.aload_n 0, 1) := by decide +kernel
theorem dL_kept_3 : decode cL_kept 3 = .ok (.iload_n 1, 1) := by decide +kernel
theorem dL_kept_4 : decode cL_kept 4 = .ok (.iload_n 2, 1) := by decide +kernel
theorem dL_kept_5 : decode cL_kept 5 = .ok (.invokevirtual 167, 3) := by decide +kernel
theorem dL_kept_8 : decode cL_kept 8 = .ok (.i2l, 1) := by decide +kernel
theorem dL_kept_9 : decode cL_kept 9 = .ok (.lastore, 1) := by decide +kernel
theorem dL_kept_10 : decode cL_kept 10 = .ok (.goto 11, 3) := by decide +kernel
theorem dL_kept_13 : decode cL_kept 13 = .ok (.astore 4, 2) := by decide +kernel
theorem dL_kept_15 : decode cL_kept 15 = .ok (.iconst 1, 1) := by decide +kernel
theorem dL_kept_16 : decode cL_kept 16 = .ok (.ireturn, 1) := by decide +kernel
theorem dL_kept_17 : decode cL_kept 17 = .ok (.astore 4, 2) := by decide +kernel
theorem dL_kept_19 : decode cL_kept 19 = .ok (.iconst 2, 1) := by decide +kernel
theorem dL_kept_20 : decode cL_kept 20 = .ok (.ireturn, 1) := by decide +kernel
theorem dL_kept_21 : decode cL_kept 21 = .ok (.iconst 0, 1) := by decide +kernel
theorem dL_kept_22 : decode cL_kept 22 = .ok (.ireturn, 1) := by decide +kernel
theorem dL_work_0 : decode cL_work 0 = .ok (.aload_n 2, 1) := by decide +kernel
theorem dL_work_1 : decode cL_work 1 = .ok (.iconst 0, 1) := by decide +kernel
theorem dL_work_2 : decode cL_work 2 = .ok (.aload_n 0, 1) := by decide +kernel
theorem dL_work_3 : decode cL_work 3 = .ok (.iload_n 1, 1) := by decide +kernel
theorem dL_work_4 : decode cL_work 4 = .ok (.invokevirtual 170, 3) := by decide +kernel
theorem dL_work_7 : decode cL_work 7 = .ok (.i2l, 1) := by decide +kernel
theorem dL_work_8 : decode cL_work 8 = .ok (.lastore, 1) := by decide +kernel
theorem dL_work_9 : decode cL_work 9 = .ok (.goto 6, 3) := by decide +kernel
theorem dL_work_12 : decode cL_work 12 = .ok (.astore_n 3, 1) := by decide +kernel
theorem dL_work_13 : decode cL_work 13 = .ok (.iconst 1, 1) := by decide +kernel
theorem dL_work_14 : decode cL_work 14 = .ok (.ireturn, 1) := by decide +kernel
theorem dL_work_15 : decode cL_work 15 = .ok (.iconst 0, 1) := by decide +kernel
theorem dL_work_16 : decode cL_work 16 = .ok (.ireturn, 1) := by decide +kernel
theorem dL_writeRow_0 : decode cL_writeRow 0 = .ok (.aload_n 3, 1) := by decide +kernel
theorem dL_writeRow_1 : decode cL_writeRow 1 = .ok (.iconst 0, 1) := by decide +kernel
theorem dL_writeRow_2 : decode cL_writeRow 2 = .ok (.aload_n 0, 1) := by decide +kernel
theorem dL_writeRow_3 : decode cL_writeRow 3 = .ok (.iload_n 1, 1) := by decide +kernel
theorem dL_writeRow_4 : decode cL_writeRow 4 = .ok (.iload_n 2, 1) := by decide +kernel
theorem dL_writeRow_5 : decode cL_writeRow 5 = .ok (.invokevirtual 173, 3) := by decide +kernel
theorem dL_writeRow_8 : decode cL_writeRow 8 = .ok (.i2l, 1) := by decide +kernel
theorem dL_writeRow_9 : decode cL_writeRow 9 = .ok (.lastore, 1) := by decide +kernel
theorem dL_writeRow_10 : decode cL_writeRow 10 = .ok (.goto 7, 3) := by decide +kernel
theorem dL_writeRow_13 : decode cL_writeRow 13 = .ok (.astore 4, 2) := by decide +kernel
theorem dL_writeRow_15 : decode cL_writeRow 15 = .ok (.iconst 1, 1) := by decide +kernel
theorem dL_writeRow_16 : decode cL_writeRow 16 = .ok (.ireturn, 1) := by decide +kernel
theorem dL_writeRow_17 : decode cL_writeRow 17 = .ok (.iconst 0, 1) := by decide +kernel
theorem dL_writeRow_18 : decode cL_writeRow 18 = .ok (.ireturn, 1) := by decide +kernel
theorem dL_saveSnapshot_0 : decode cL_saveSnapshot 0 = .ok (.aload_n 2, 1) := by decide +kernel
theorem dL_saveSnapshot_1 : decode cL_saveSnapshot 1 = .ok (.iconst 0, 1) := by decide +kernel
theorem dL_saveSnapshot_2 : decode cL_saveSnapshot 2 = .ok (.aload_n 0, 1) := by decide +kernel
theorem dL_saveSnapshot_3 : decode cL_saveSnapshot 3 = .ok (.iload_n 1, 1) := by decide +kernel
theorem dL_saveSnapshot_4 : decode cL_saveSnapshot 4 = .ok (.invokevirtual 176, 3) := by decide +kernel
theorem dL_saveSnapshot_7 : decode cL_saveSnapshot 7 = .ok (.i2l, 1) := by decide +kernel
theorem dL_saveSnapshot_8 : decode cL_saveSnapshot 8 = .ok (.lastore, 1) := by decide +kernel
theorem dL_saveSnapshot_9 : decode cL_saveSnapshot 9 = .ok (.goto 6, 3) := by decide +kernel
theorem dL_saveSnapshot_12 : decode cL_saveSnapshot 12 = .ok (.astore_n 3, 1) := by decide +kernel
theorem dL_saveSnapshot_13 : decode cL_saveSnapshot 13 = .ok (.iconst 1, 1) := by decide +kernel
theorem dL_saveSnapshot_14 : decode cL_saveSnapshot 14 = .ok (.ireturn, 1) := by decide +kernel
theorem dL_saveSnapshot_15 : decode cL_saveSnapshot 15 = .ok (.iconst 0, 1) := by decide +kernel
theorem dL_saveSnapshot_16 : decode cL_saveSnapshot 16 = .ok (.ireturn, 1) := by decide +kernel
theorem dL_restoreSnapshot_0 : decode cL_restoreSnapshot 0 = .ok (.aload_n 2, 1) := by decide +kernel
theorem dL_restoreSnapshot_1 : decode cL_restoreSnapshot 1 = .ok (.iconst 0, 1) := by decide +kernel
theorem dL_restoreSnapshot_2 : decode cL_restoreSnapshot 2 = .ok (.aload_n 0, 1) := by decide +kernel
theorem dL_restoreSnapshot_3 : decode cL_restoreSnapshot 3 = .ok (.iload_n 1, 1) := by decide +kernel
theorem dL_restoreSnapshot_4 : decode cL_restoreSnapshot 4 = .ok (.invokevirtual 179, 3) := by decide +kernel
theorem dL_restoreSnapshot_7 : decode cL_restoreSnapshot 7 = .ok (.i2l, 1) := by decide +kernel
theorem dL_restoreSnapshot_8 : decode cL_restoreSnapshot 8 = .ok (.lastore, 1) := by decide +kernel
theorem dL_restoreSnapshot_9 : decode cL_restoreSnapshot 9 = .ok (.goto 6, 3) := by decide +kernel
theorem dL_restoreSnapshot_12 : decode cL_restoreSnapshot 12 = .ok (.astore_n 3, 1) := by decide +kernel
theorem dL_restoreSnapshot_13 : decode cL_restoreSnapshot 13 = .ok (.iconst 1, 1) := by decide +kernel
theorem dL_restoreSnapshot_14 : decode cL_restoreSnapshot 14 = .ok (.ireturn, 1) := by decide +kernel
theorem dL_restoreSnapshot_15 : decode cL_restoreSnapshot 15 = .ok (.iconst 0, 1) := by decide +kernel
theorem dL_restoreSnapshot_16 : decode cL_restoreSnapshot 16 = .ok (.ireturn, 1) := by decide +kernel
theorem drp9 {L c r : List UInt8} {a : Nat} (b : Nat) (h : L.drop a = c ++ r) (hl : c.length = b) : L.drop (a + b) = r := by rw [← List.drop_drop, h, List.drop_left' hl]
theorem pc9 {c : ByteArray} {T l : List UInt8} {k j : Nat} (hD : c.data.toList.drop k = T) (h : (T.drop j).take l.length = l) : Pc9 c (k + j) l := by unfold Pc9; rw [← List.drop_drop, hD, h]
def lwC_42 : List UInt8 := [0xb6, 0x01, 0x79, 0x36, 0x07, 0xa7, 0x00, 0x1f, 0x2b, 0x2a, 0x15, 0x05, 0x04, 0x60, 0x2e, 0x2d, 0xb8, 0x01, 0x7a, 0x36, 0x06, 0x2c, 0x2a, 0x15, 0x05, 0x04, 0x60, 0x2e, 0xb6, 0x01, 0x7c, 0x36, 0x07, 0xa7, 0x00, 0x03, 0x84, 0x05, 0x05, 0xa7, 0xf5, 0x75, 0x04, 0xac]
def lwT_42 : List UInt8 := lwC_42
def lwC_41 : List UInt8 := [0x6e, 0x36, 0x07, 0xa7, 0x00, 0x61, 0x2b, 0x2a, 0x15, 0x05, 0x04, 0x60, 0x2e, 0xb6, 0x01, 0x6f, 0x57, 0x2c, 0x2a, 0x15, 0x05, 0x04, 0x60, 0x2e, 0xb6, 0x01, 0x72, 0x57, 0xa7, 0x00, 0x48, 0x2b, 0xb6, 0x01, 0x73, 0x57, 0x2c, 0xb6, 0x01, 0x76, 0x57, 0xa7, 0x00, 0x3b, 0x2b, 0x2a, 0x15, 0x05, 0x04, 0x60, 0x2e, 0x2d, 0xb8, 0x01, 0x77, 0x36, 0x06, 0x2c, 0x2a, 0x15, 0x05, 0x04, 0x60, 0x2e]
def lwT_41 : List UInt8 := lwC_41 ++ lwT_42
def lwC_40 : List UInt8 := [0x00, 0xa5, 0x2b, 0x2a, 0x15, 0x05, 0x04, 0x60, 0x2e, 0x2d, 0xb8, 0x01, 0x69, 0x36, 0x06, 0x2c, 0x2a, 0x15, 0x05, 0x04, 0x60, 0x2e, 0xb6, 0x01, 0x6b, 0x36, 0x07, 0xa7, 0x00, 0x89, 0x2b, 0x2a, 0x15, 0x05, 0x04, 0x60, 0x2e, 0x2a, 0x15, 0x05, 0x05, 0x60, 0x2e, 0x2d, 0xb8, 0x01, 0x6c, 0x36, 0x06, 0x2c, 0x2a, 0x15, 0x05, 0x04, 0x60, 0x2e, 0x2a, 0x15, 0x05, 0x05, 0x60, 0x2e, 0xb6, 0x01]
def lwT_40 : List UInt8 := lwC_40 ++ lwT_41
def lwC_39 : List UInt8 := [0x15, 0x05, 0x04, 0x60, 0x2e, 0x2d, 0xb8, 0x01, 0x63, 0x36, 0x06, 0x2c, 0x2a, 0x15, 0x05, 0x04, 0x60, 0x2e, 0xb6, 0x01, 0x65, 0x36, 0x07, 0xa7, 0x00, 0xcd, 0x2b, 0x2a, 0x15, 0x05, 0x04, 0x60, 0x2e, 0x2a, 0x15, 0x05, 0x05, 0x60, 0x2e, 0x2d, 0xb8, 0x01, 0x66, 0x36, 0x06, 0x2c, 0x2a, 0x15, 0x05, 0x04, 0x60, 0x2e, 0x2a, 0x15, 0x05, 0x05, 0x60, 0x2e, 0xb6, 0x01, 0x68, 0x36, 0x07, 0xa7]
def lwT_39 : List UInt8 := lwC_39 ++ lwT_40
def lwC_38 : List UInt8 := [0x5e, 0x36, 0x07, 0xa7, 0x01, 0x21, 0x2b, 0x2a, 0x15, 0x05, 0x04, 0x60, 0x2e, 0x2a, 0x15, 0x05, 0x05, 0x60, 0x2e, 0x99, 0x00, 0x07, 0x04, 0xa7, 0x00, 0x04, 0x03, 0x2d, 0xb8, 0x01, 0x5f, 0x36, 0x06, 0x2c, 0x2a, 0x15, 0x05, 0x04, 0x60, 0x2e, 0x2a, 0x15, 0x05, 0x05, 0x60, 0x2e, 0x99, 0x00, 0x07, 0x04, 0xa7, 0x00, 0x04, 0x03, 0xb6, 0x01, 0x62, 0x36, 0x07, 0xa7, 0x00, 0xe9, 0x2b, 0x2a]
def lwT_38 : List UInt8 := lwC_38 ++ lwT_39
def lwC_37 : List UInt8 := [0x05, 0x04, 0x60, 0x2e, 0x2a, 0x15, 0x05, 0x05, 0x60, 0x2e, 0xb6, 0x01, 0x5b, 0x36, 0x07, 0xa7, 0x01, 0x55, 0x2b, 0x2a, 0x15, 0x05, 0x04, 0x60, 0x2e, 0x2a, 0x15, 0x05, 0x05, 0x60, 0x2e, 0x2a, 0x15, 0x05, 0x06, 0x60, 0x2e, 0x2d, 0xb8, 0x01, 0x5c, 0x36, 0x06, 0x2c, 0x2a, 0x15, 0x05, 0x04, 0x60, 0x2e, 0x2a, 0x15, 0x05, 0x05, 0x60, 0x2e, 0x2a, 0x15, 0x05, 0x06, 0x60, 0x2e, 0xb6, 0x01]
def lwT_37 : List UInt8 := lwC_37 ++ lwT_38
def lwC_36 : List UInt8 := [0x01, 0xa5, 0x2b, 0x2a, 0x15, 0x05, 0x04, 0x60, 0x2e, 0x2a, 0x15, 0x05, 0x05, 0x60, 0x2e, 0x2d, 0xb8, 0x01, 0x56, 0x36, 0x06, 0x2c, 0x2a, 0x15, 0x05, 0x04, 0x60, 0x2e, 0x2a, 0x15, 0x05, 0x05, 0x60, 0x2e, 0xb6, 0x01, 0x58, 0x36, 0x07, 0xa7, 0x01, 0x7d, 0x2b, 0x2a, 0x15, 0x05, 0x04, 0x60, 0x2e, 0x2a, 0x15, 0x05, 0x05, 0x60, 0x2e, 0x2d, 0xb8, 0x01, 0x59, 0x36, 0x06, 0x2c, 0x2a, 0x15]
def lwT_36 : List UInt8 := lwC_36 ++ lwT_37
def lwC_35 : List UInt8 := [0x05, 0x06, 0x60, 0x2e, 0x2a, 0x15, 0x05, 0x07, 0x60, 0x2e, 0x99, 0x00, 0x07, 0x04, 0xa7, 0x00, 0x04, 0x03, 0xb6, 0x01, 0x52, 0x36, 0x07, 0xa7, 0x01, 0xcd, 0x2b, 0x2a, 0x15, 0x05, 0x04, 0x60, 0x2e, 0x2a, 0x15, 0x05, 0x05, 0x60, 0x2e, 0x2d, 0xb8, 0x01, 0x53, 0x36, 0x06, 0x2c, 0x2a, 0x15, 0x05, 0x04, 0x60, 0x2e, 0x2a, 0x15, 0x05, 0x05, 0x60, 0x2e, 0xb6, 0x01, 0x55, 0x36, 0x07, 0xa7]
def lwT_35 : List UInt8 := lwC_35 ++ lwT_36
def lwC_34 : List UInt8 := [0x04, 0x03, 0xb6, 0x01, 0x4f, 0x36, 0x07, 0xa7, 0x02, 0x1d, 0x2b, 0x2a, 0x15, 0x05, 0x04, 0x60, 0x2e, 0x2a, 0x15, 0x05, 0x05, 0x60, 0x2e, 0x2a, 0x15, 0x05, 0x06, 0x60, 0x2e, 0x2a, 0x15, 0x05, 0x07, 0x60, 0x2e, 0x99, 0x00, 0x07, 0x04, 0xa7, 0x00, 0x04, 0x03, 0x2d, 0xb8, 0x01, 0x50, 0x36, 0x06, 0x2c, 0x2a, 0x15, 0x05, 0x04, 0x60, 0x2e, 0x2a, 0x15, 0x05, 0x05, 0x60, 0x2e, 0x2a, 0x15]
def lwT_34 : List UInt8 := lwC_34 ++ lwT_35
def lwC_33 : List UInt8 := [0x2e, 0x2a, 0x15, 0x05, 0x05, 0x60, 0x2e, 0x2a, 0x15, 0x05, 0x06, 0x60, 0x2e, 0x2a, 0x15, 0x05, 0x07, 0x60, 0x2e, 0x99, 0x00, 0x07, 0x04, 0xa7, 0x00, 0x04, 0x03, 0x2d, 0xb8, 0x01, 0x4d, 0x36, 0x06, 0x2c, 0x2a, 0x15, 0x05, 0x04, 0x60, 0x2e, 0x2a, 0x15, 0x05, 0x05, 0x60, 0x2e, 0x2a, 0x15, 0x05, 0x06, 0x60, 0x2e, 0x2a, 0x15, 0x05, 0x07, 0x60, 0x2e, 0x99, 0x00, 0x07, 0x04, 0xa7, 0x00]
def lwT_33 : List UInt8 := lwC_33 ++ lwT_34
def lwC_32 : List UInt8 := [0x2e, 0x2a, 0x15, 0x05, 0x05, 0x60, 0x2e, 0x2a, 0x15, 0x05, 0x06, 0x60, 0x2e, 0x2a, 0x15, 0x05, 0x07, 0x60, 0x2e, 0x2d, 0xb8, 0x01, 0x4a, 0x36, 0x06, 0x2c, 0x2a, 0x15, 0x05, 0x04, 0x60, 0x2e, 0x2a, 0x15, 0x05, 0x05, 0x60, 0x2e, 0x2a, 0x15, 0x05, 0x06, 0x60, 0x2e, 0x2a, 0x15, 0x05, 0x07, 0x60, 0x2e, 0xb6, 0x01, 0x4c, 0x36, 0x07, 0xa7, 0x02, 0x6d, 0x2b, 0x2a, 0x15, 0x05, 0x04, 0x60]
def lwT_32 : List UInt8 := lwC_32 ++ lwT_33
def lwC_31 : List UInt8 := [0x05, 0x04, 0x60, 0x2e, 0x2a, 0x15, 0x05, 0x05, 0x60, 0x2e, 0xb6, 0x01, 0x46, 0x36, 0x07, 0xa7, 0x02, 0xd5, 0x2b, 0x2a, 0x15, 0x05, 0x04, 0x60, 0x2e, 0x2a, 0x15, 0x05, 0x05, 0x60, 0x2e, 0x2d, 0xb8, 0x01, 0x47, 0x36, 0x06, 0x2c, 0x2a, 0x15, 0x05, 0x04, 0x60, 0x2e, 0x2a, 0x15, 0x05, 0x05, 0x60, 0x2e, 0xb6, 0x01, 0x49, 0x36, 0x07, 0xa7, 0x02, 0xad, 0x2b, 0x2a, 0x15, 0x05, 0x04, 0x60]
def lwT_31 : List UInt8 := lwC_31 ++ lwT_32
def lwC_30 : List UInt8 := [0x2a, 0x15, 0x05, 0x04, 0x60, 0x2e, 0x2a, 0x15, 0x05, 0x05, 0x60, 0x2e, 0x2a, 0x15, 0x05, 0x06, 0x60, 0x2e, 0x85, 0x10, 0x20, 0x79, 0x2a, 0x15, 0x05, 0x07, 0x60, 0x2e, 0x85, 0x14, 0x00, 0xba, 0x7f, 0x81, 0xb6, 0x01, 0x43, 0x36, 0x07, 0xa7, 0x02, 0xfd, 0x2b, 0x2a, 0x15, 0x05, 0x04, 0x60, 0x2e, 0x2a, 0x15, 0x05, 0x05, 0x60, 0x2e, 0x2d, 0xb8, 0x01, 0x44, 0x36, 0x06, 0x2c, 0x2a, 0x15]
def lwT_30 : List UInt8 := lwC_30 ++ lwT_31
def lwC_29 : List UInt8 := [0x2a, 0x15, 0x05, 0x07, 0x60, 0x2e, 0x99, 0x00, 0x07, 0x04, 0xa7, 0x00, 0x04, 0x03, 0xb6, 0x01, 0x3f, 0x36, 0x07, 0xa7, 0x03, 0x51, 0x2b, 0x2a, 0x15, 0x05, 0x04, 0x60, 0x2e, 0x2a, 0x15, 0x05, 0x05, 0x60, 0x2e, 0x2a, 0x15, 0x05, 0x06, 0x60, 0x2e, 0x85, 0x10, 0x20, 0x79, 0x2a, 0x15, 0x05, 0x07, 0x60, 0x2e, 0x85, 0x14, 0x00, 0xba, 0x7f, 0x81, 0x2d, 0xb8, 0x01, 0x40, 0x36, 0x06, 0x2c]
def lwT_29 : List UInt8 := lwC_29 ++ lwT_30
def lwC_28 : List UInt8 := [0x3b, 0x36, 0x07, 0xa7, 0x03, 0xa1, 0x2b, 0x2a, 0x15, 0x05, 0x04, 0x60, 0x2e, 0x2a, 0x15, 0x05, 0x05, 0x60, 0x2e, 0x2a, 0x15, 0x05, 0x06, 0x60, 0x2e, 0x2a, 0x15, 0x05, 0x07, 0x60, 0x2e, 0x99, 0x00, 0x07, 0x04, 0xa7, 0x00, 0x04, 0x03, 0x2d, 0xb8, 0x01, 0x3c, 0x36, 0x06, 0x2c, 0x2a, 0x15, 0x05, 0x04, 0x60, 0x2e, 0x2a, 0x15, 0x05, 0x05, 0x60, 0x2e, 0x2a, 0x15, 0x05, 0x06, 0x60, 0x2e]
def lwT_28 : List UInt8 := lwC_28 ++ lwT_29
def lwC_27 : List UInt8 := [0x2a, 0x15, 0x05, 0x05, 0x60, 0x2e, 0x85, 0x10, 0x20, 0x79, 0x2a, 0x15, 0x05, 0x06, 0x60, 0x2e, 0x85, 0x14, 0x00, 0xba, 0x7f, 0x81, 0xb6, 0x01, 0x38, 0x36, 0x07, 0xa7, 0x03, 0xc9, 0x2b, 0x2a, 0x15, 0x05, 0x04, 0x60, 0x2e, 0x2a, 0x15, 0x05, 0x05, 0x60, 0x2e, 0x2d, 0xb8, 0x01, 0x39, 0x36, 0x06, 0x2c, 0x2a, 0x15, 0x05, 0x04, 0x60, 0x2e, 0x2a, 0x15, 0x05, 0x05, 0x60, 0x2e, 0xb6, 0x01]
def lwT_27 : List UInt8 := lwC_27 ++ lwT_28
def lwC_26 : List UInt8 := [0x20, 0x79, 0x2a, 0x15, 0x05, 0x06, 0x60, 0x2e, 0x85, 0x14, 0x00, 0xba, 0x7f, 0x81, 0xb6, 0x01, 0x35, 0x37, 0x07, 0xa7, 0x04, 0x11, 0x2b, 0x2a, 0x15, 0x05, 0x04, 0x60, 0x2e, 0x2a, 0x15, 0x05, 0x05, 0x60, 0x2e, 0x85, 0x10, 0x20, 0x79, 0x2a, 0x15, 0x05, 0x06, 0x60, 0x2e, 0x85, 0x14, 0x00, 0xba, 0x7f, 0x81, 0x2d, 0xb8, 0x01, 0x36, 0x36, 0x06, 0x2c, 0x2a, 0x15, 0x05, 0x04, 0x60, 0x2e]
def lwT_26 : List UInt8 := lwC_26 ++ lwT_27
def lwC_25 : List UInt8 := [0x2a, 0x15, 0x05, 0x04, 0x60, 0x2e, 0xb6, 0x01, 0x32, 0x36, 0x07, 0xa7, 0x04, 0x59, 0x2b, 0x2a, 0x15, 0x05, 0x04, 0x60, 0x2e, 0x2a, 0x15, 0x05, 0x05, 0x60, 0x2e, 0x85, 0x10, 0x20, 0x79, 0x2a, 0x15, 0x05, 0x06, 0x60, 0x2e, 0x85, 0x14, 0x00, 0xba, 0x7f, 0x81, 0x2d, 0xb8, 0x01, 0x33, 0x36, 0x06, 0x2c, 0x2a, 0x15, 0x05, 0x04, 0x60, 0x2e, 0x2a, 0x15, 0x05, 0x05, 0x60, 0x2e, 0x85, 0x10]
def lwT_25 : List UInt8 := lwC_25 ++ lwT_26
def lwC_24 : List UInt8 := [0x2e, 0x2d, 0xb8, 0x01, 0x2a, 0x36, 0x06, 0x2c, 0x2a, 0x15, 0x05, 0x04, 0x60, 0x2e, 0xb6, 0x01, 0x2c, 0x36, 0x07, 0xa7, 0x04, 0x91, 0x2b, 0x2a, 0x15, 0x05, 0x04, 0x60, 0x2e, 0x2d, 0xb8, 0x01, 0x2d, 0x36, 0x06, 0x2c, 0x2a, 0x15, 0x05, 0x04, 0x60, 0x2e, 0xb6, 0x01, 0x2f, 0x36, 0x07, 0xa7, 0x04, 0x75, 0x2b, 0x2a, 0x15, 0x05, 0x04, 0x60, 0x2e, 0x2d, 0xb8, 0x01, 0x30, 0x36, 0x06, 0x2c]
def lwT_24 : List UInt8 := lwC_24 ++ lwT_25
def lwC_23 : List UInt8 := [0x24, 0x36, 0x06, 0x2c, 0x2a, 0x15, 0x05, 0x04, 0x60, 0x2e, 0x2a, 0x15, 0x05, 0x05, 0x60, 0x2e, 0x2a, 0x15, 0x05, 0x06, 0x60, 0x2e, 0xb6, 0x01, 0x26, 0x36, 0x07, 0xa7, 0x04, 0xc9, 0x2b, 0x2a, 0x15, 0x05, 0x04, 0x60, 0x2e, 0x2d, 0xb8, 0x01, 0x27, 0x36, 0x06, 0x2c, 0x2a, 0x15, 0x05, 0x04, 0x60, 0x2e, 0xb6, 0x01, 0x29, 0x36, 0x07, 0xa7, 0x04, 0xad, 0x2b, 0x2a, 0x15, 0x05, 0x04, 0x60]
def lwT_23 : List UInt8 := lwC_23 ++ lwT_24
def lwC_22 : List UInt8 := [0x05, 0x60, 0x2e, 0x2a, 0x15, 0x05, 0x06, 0x60, 0x2e, 0x2d, 0xb8, 0x01, 0x21, 0x36, 0x06, 0x2c, 0x2a, 0x15, 0x05, 0x04, 0x60, 0x2e, 0x2a, 0x15, 0x05, 0x05, 0x60, 0x2e, 0x2a, 0x15, 0x05, 0x06, 0x60, 0x2e, 0xb6, 0x01, 0x23, 0x36, 0x07, 0xa7, 0x04, 0xfd, 0x2b, 0x2a, 0x15, 0x05, 0x04, 0x60, 0x2e, 0x2a, 0x15, 0x05, 0x05, 0x60, 0x2e, 0x2a, 0x15, 0x05, 0x06, 0x60, 0x2e, 0x2d, 0xb8, 0x01]
def lwT_22 : List UInt8 := lwC_22 ++ lwT_23
def lwC_21 : List UInt8 := [0x2a, 0x15, 0x05, 0x04, 0x60, 0x2e, 0xb6, 0x01, 0x1d, 0x36, 0x07, 0xa7, 0x05, 0x59, 0x2b, 0x2a, 0x15, 0x05, 0x04, 0x60, 0x2e, 0x2a, 0x15, 0x05, 0x05, 0x60, 0x2e, 0x2d, 0xb8, 0x01, 0x1e, 0x36, 0x06, 0x2c, 0x2a, 0x15, 0x05, 0x04, 0x60, 0x2e, 0x2a, 0x15, 0x05, 0x05, 0x60, 0x2e, 0xb6, 0x01, 0x20, 0x36, 0x07, 0xa7, 0x05, 0x31, 0x2b, 0x2a, 0x15, 0x05, 0x04, 0x60, 0x2e, 0x2a, 0x15, 0x05]
def lwT_21 : List UInt8 := lwC_21 ++ lwT_22
def lwC_20 : List UInt8 := [0x60, 0x2e, 0xb6, 0x01, 0x17, 0x36, 0x07, 0xa7, 0x05, 0x9d, 0x2b, 0x2a, 0x15, 0x05, 0x04, 0x60, 0x2e, 0x2a, 0x15, 0x05, 0x05, 0x60, 0x2e, 0x2d, 0xb8, 0x01, 0x18, 0x36, 0x06, 0x2c, 0x2a, 0x15, 0x05, 0x04, 0x60, 0x2e, 0x2a, 0x15, 0x05, 0x05, 0x60, 0x2e, 0xb6, 0x01, 0x1a, 0x36, 0x07, 0xa7, 0x05, 0x75, 0x2b, 0x2a, 0x15, 0x05, 0x04, 0x60, 0x2e, 0x2d, 0xb8, 0x01, 0x1b, 0x36, 0x06, 0x2c]
def lwT_20 : List UInt8 := lwC_20 ++ lwT_21
def lwC_19 : List UInt8 := [0x60, 0x2e, 0xb6, 0x01, 0x13, 0x36, 0x07, 0xa7, 0x05, 0xdd, 0x2b, 0x2a, 0x15, 0x05, 0x04, 0x60, 0x2e, 0x2a, 0x15, 0x05, 0x05, 0x60, 0x2e, 0x2a, 0x15, 0x05, 0x06, 0x60, 0x2e, 0x2a, 0x15, 0x05, 0x07, 0x60, 0x2e, 0x2d, 0xb8, 0x01, 0x14, 0x36, 0x06, 0x2c, 0x2a, 0x15, 0x05, 0x04, 0x60, 0x2e, 0x2a, 0x15, 0x05, 0x05, 0x60, 0x2e, 0x2a, 0x15, 0x05, 0x06, 0x60, 0x2e, 0x2a, 0x15, 0x05, 0x07]
def lwT_19 : List UInt8 := lwC_19 ++ lwT_20
def lwC_18 : List UInt8 := [0x2e, 0x2d, 0xb8, 0x01, 0x0e, 0x36, 0x06, 0x2c, 0x2a, 0x15, 0x05, 0x04, 0x60, 0x2e, 0xb6, 0x01, 0x10, 0x36, 0x07, 0xa7, 0x06, 0x11, 0x2b, 0x2a, 0x15, 0x05, 0x04, 0x60, 0x2e, 0x2a, 0x15, 0x05, 0x05, 0x60, 0x2e, 0x2a, 0x15, 0x05, 0x06, 0x60, 0x2e, 0x2d, 0xb8, 0x01, 0x11, 0x36, 0x06, 0x2c, 0x2a, 0x15, 0x05, 0x04, 0x60, 0x2e, 0x2a, 0x15, 0x05, 0x05, 0x60, 0x2e, 0x2a, 0x15, 0x05, 0x06]
def lwT_18 : List UInt8 := lwC_18 ++ lwT_19
def lwC_17 : List UInt8 := [0x08, 0x36, 0x06, 0x2c, 0x2a, 0x15, 0x05, 0x04, 0x60, 0x2e, 0xb6, 0x01, 0x0a, 0x38, 0x07, 0xa7, 0x06, 0x55, 0x2b, 0x2a, 0x15, 0x05, 0x04, 0x60, 0x2e, 0x2a, 0x15, 0x05, 0x05, 0x60, 0x2e, 0x2d, 0xb8, 0x01, 0x0b, 0x36, 0x06, 0x2c, 0x2a, 0x15, 0x05, 0x04, 0x60, 0x2e, 0x2a, 0x15, 0x05, 0x05, 0x60, 0x2e, 0xb6, 0x01, 0x0d, 0x36, 0x07, 0xa7, 0x06, 0x2d, 0x2b, 0x2a, 0x15, 0x05, 0x04, 0x60]
def lwT_17 : List UInt8 := lwC_17 ++ lwT_18
def lwC_16 : List UInt8 := [0x01, 0x02, 0x36, 0x06, 0x2c, 0x2a, 0x15, 0x05, 0x04, 0x60, 0x2e, 0x2a, 0x15, 0x05, 0x05, 0x60, 0x2e, 0xb6, 0x01, 0x04, 0x36, 0x07, 0xa7, 0x06, 0x8e, 0x2b, 0x2a, 0x15, 0x05, 0x04, 0x60, 0x2e, 0x2d, 0xb8, 0x01, 0x05, 0x36, 0x06, 0x2c, 0x2a, 0x15, 0x05, 0x04, 0x60, 0x2e, 0xb6, 0x01, 0x07, 0x36, 0x07, 0xa7, 0x06, 0x72, 0x2b, 0x2a, 0x15, 0x05, 0x04, 0x60, 0x2e, 0x19, 0x04, 0xb8, 0x01]
def lwT_16 : List UInt8 := lwC_16 ++ lwT_17
def lwC_15 : List UInt8 := [0x05, 0x04, 0x60, 0x2e, 0x2a, 0x15, 0x05, 0x05, 0x60, 0x2e, 0x2a, 0x15, 0x05, 0x06, 0x60, 0x2e, 0x2d, 0xb8, 0x00, 0xff, 0x36, 0x06, 0x2c, 0x2a, 0x15, 0x05, 0x04, 0x60, 0x2e, 0x2a, 0x15, 0x05, 0x05, 0x60, 0x2e, 0x2a, 0x15, 0x05, 0x06, 0x60, 0x2e, 0xb6, 0x01, 0x01, 0x36, 0x07, 0xa7, 0x06, 0xb6, 0x2b, 0x2a, 0x15, 0x05, 0x04, 0x60, 0x2e, 0x2a, 0x15, 0x05, 0x05, 0x60, 0x2e, 0x2d, 0xb8]
def lwT_15 : List UInt8 := lwC_15 ++ lwT_16
def lwC_14 : List UInt8 := [0x07, 0xa7, 0x07, 0x23, 0x2b, 0x2a, 0x15, 0x05, 0x04, 0x60, 0x2e, 0x19, 0x04, 0xb8, 0x00, 0xf8, 0x36, 0x06, 0x2c, 0x2a, 0x15, 0x05, 0x04, 0x60, 0x2e, 0xb6, 0x00, 0xfb, 0x39, 0x07, 0xa7, 0x07, 0x06, 0x2b, 0x2a, 0x15, 0x05, 0x04, 0x60, 0x2e, 0x2d, 0xb8, 0x00, 0xfc, 0x36, 0x06, 0x2c, 0x2a, 0x15, 0x05, 0x04, 0x60, 0x2e, 0xb6, 0x00, 0xfe, 0x36, 0x07, 0xa7, 0x06, 0xea, 0x2b, 0x2a, 0x15]
def lwT_14 : List UInt8 := lwC_14 ++ lwT_15
def lwC_13 : List UInt8 := [0x05, 0x05, 0x60, 0x2e, 0x85, 0x10, 0x20, 0x79, 0x2a, 0x15, 0x05, 0x06, 0x60, 0x2e, 0x85, 0x14, 0x00, 0xba, 0x7f, 0x81, 0xb6, 0x00, 0xf4, 0x36, 0x07, 0xa7, 0x07, 0x4b, 0x2b, 0x2a, 0x15, 0x05, 0x04, 0x60, 0x2e, 0x2a, 0x15, 0x05, 0x05, 0x60, 0x2e, 0x2d, 0xb8, 0x00, 0xf5, 0x36, 0x06, 0x2c, 0x2a, 0x15, 0x05, 0x04, 0x60, 0x2e, 0x2a, 0x15, 0x05, 0x05, 0x60, 0x2e, 0xb6, 0x00, 0xf7, 0x36]
def lwT_13 : List UInt8 := lwC_13 ++ lwT_14
def lwC_12 : List UInt8 := [0x2a, 0x15, 0x05, 0x04, 0x60, 0x2e, 0x2a, 0x15, 0x05, 0x05, 0x60, 0x2e, 0xb6, 0x00, 0xf0, 0x36, 0x07, 0xa7, 0x07, 0x93, 0x2b, 0x2a, 0x15, 0x05, 0x04, 0x60, 0x2e, 0x2a, 0x15, 0x05, 0x05, 0x60, 0x2e, 0x85, 0x10, 0x20, 0x79, 0x2a, 0x15, 0x05, 0x06, 0x60, 0x2e, 0x85, 0x14, 0x00, 0xba, 0x7f, 0x81, 0x2d, 0xb8, 0x00, 0xf1, 0x36, 0x06, 0x2c, 0x2a, 0x15, 0x05, 0x04, 0x60, 0x2e, 0x2a, 0x15]
def lwT_12 : List UInt8 := lwC_12 ++ lwT_13
def lwC_11 : List UInt8 := [0x60, 0x2e, 0x2a, 0x15, 0x05, 0x05, 0x60, 0x2e, 0xb6, 0x00, 0xea, 0x36, 0x07, 0xa7, 0x07, 0xd7, 0x2b, 0x2a, 0x15, 0x05, 0x04, 0x60, 0x2e, 0x2d, 0xb8, 0x00, 0xeb, 0x36, 0x06, 0x2c, 0x2a, 0x15, 0x05, 0x04, 0x60, 0x2e, 0xb6, 0x00, 0xed, 0x36, 0x07, 0xa7, 0x07, 0xbb, 0x2b, 0x2a, 0x15, 0x05, 0x04, 0x60, 0x2e, 0x2a, 0x15, 0x05, 0x05, 0x60, 0x2e, 0x2d, 0xb8, 0x00, 0xee, 0x36, 0x06, 0x2c]
def lwT_11 : List UInt8 := lwC_11 ++ lwT_12
def lwC_10 : List UInt8 := [0x2b, 0x2a, 0x15, 0x05, 0x04, 0x60, 0x2e, 0x2a, 0x15, 0x05, 0x05, 0x60, 0x2e, 0x2d, 0xb8, 0x00, 0xe5, 0x36, 0x06, 0x2c, 0x2a, 0x15, 0x05, 0x04, 0x60, 0x2e, 0x2a, 0x15, 0x05, 0x05, 0x60, 0x2e, 0xb6, 0x00, 0xe7, 0x36, 0x07, 0xa7, 0x07, 0xff, 0x2b, 0x2a, 0x15, 0x05, 0x04, 0x60, 0x2e, 0x2a, 0x15, 0x05, 0x05, 0x60, 0x2e, 0x2d, 0xb8, 0x00, 0xe8, 0x36, 0x06, 0x2c, 0x2a, 0x15, 0x05, 0x04]
def lwT_10 : List UInt8 := lwC_10 ++ lwT_11
def lwC_9 : List UInt8 := [0x06, 0x60, 0x2e, 0x2d, 0xb8, 0x00, 0xdf, 0x36, 0x06, 0x2c, 0x2a, 0x15, 0x05, 0x04, 0x60, 0x2e, 0x2a, 0x15, 0x05, 0x05, 0x60, 0x2e, 0x2a, 0x15, 0x05, 0x06, 0x60, 0x2e, 0xb6, 0x00, 0xe1, 0x36, 0x07, 0xa7, 0x08, 0x43, 0x2b, 0x2a, 0x15, 0x05, 0x04, 0x60, 0x2e, 0x2d, 0xb8, 0x00, 0xe2, 0x36, 0x06, 0x2c, 0x2a, 0x15, 0x05, 0x04, 0x60, 0x2e, 0xb6, 0x00, 0xe4, 0x36, 0x07, 0xa7, 0x08, 0x27]
def lwT_9 : List UInt8 := lwC_9 ++ lwT_10
def lwC_8 : List UInt8 := [0x04, 0x60, 0x2e, 0x2a, 0x15, 0x05, 0x05, 0x60, 0x2e, 0x2a, 0x15, 0x05, 0x06, 0x60, 0x2e, 0x2d, 0xb8, 0x00, 0xdc, 0x36, 0x06, 0x2c, 0x2a, 0x15, 0x05, 0x04, 0x60, 0x2e, 0x2a, 0x15, 0x05, 0x05, 0x60, 0x2e, 0x2a, 0x15, 0x05, 0x06, 0x60, 0x2e, 0xb6, 0x00, 0xde, 0x36, 0x07, 0xa7, 0x08, 0x77, 0x2b, 0x2a, 0x15, 0x05, 0x04, 0x60, 0x2e, 0x2a, 0x15, 0x05, 0x05, 0x60, 0x2e, 0x2a, 0x15, 0x05]
def lwT_8 : List UInt8 := lwC_8 ++ lwT_9
def lwC_7 : List UInt8 := [0x2a, 0x15, 0x05, 0x05, 0x60, 0x2e, 0x2a, 0x15, 0x05, 0x06, 0x60, 0x2e, 0xb6, 0x00, 0xd7, 0x36, 0x07, 0xa7, 0x08, 0xd3, 0x2b, 0x2a, 0x15, 0x05, 0x04, 0x60, 0x2e, 0x2a, 0x15, 0x05, 0x05, 0x60, 0x2e, 0x2d, 0xb8, 0x00, 0xd8, 0x36, 0x06, 0x2c, 0x2a, 0x15, 0x05, 0x04, 0x60, 0x2e, 0x2a, 0x15, 0x05, 0x05, 0x60, 0x2e, 0xb6, 0x00, 0xdb, 0x37, 0x07, 0xa7, 0x08, 0xab, 0x2b, 0x2a, 0x15, 0x05]
def lwT_7 : List UInt8 := lwC_7 ++ lwT_8
def lwC_6 : List UInt8 := [0x57, 0xa7, 0x09, 0x23, 0x2b, 0x2a, 0x15, 0x05, 0x04, 0x60, 0x2e, 0x2d, 0xb8, 0x00, 0xce, 0x36, 0x06, 0x2c, 0x2a, 0x15, 0x05, 0x04, 0x60, 0x2e, 0xb6, 0x00, 0xd3, 0x36, 0x07, 0xa7, 0x09, 0x07, 0x2b, 0x2a, 0x15, 0x05, 0x04, 0x60, 0x2e, 0x2a, 0x15, 0x05, 0x05, 0x60, 0x2e, 0x2a, 0x15, 0x05, 0x06, 0x60, 0x2e, 0x2d, 0xb8, 0x00, 0xd4, 0x36, 0x06, 0x2c, 0x2a, 0x15, 0x05, 0x04, 0x60, 0x2e]
def lwT_6 : List UInt8 := lwC_6 ++ lwT_7
def lwC_5 : List UInt8 := [0x2a, 0x15, 0x05, 0x04, 0x60, 0x2e, 0x85, 0x10, 0x20, 0x79, 0x2a, 0x15, 0x05, 0x05, 0x60, 0x2e, 0x85, 0x14, 0x00, 0xba, 0x7f, 0x81, 0xb6, 0x00, 0xc0, 0x57, 0xa7, 0x09, 0x4a, 0x2b, 0xb6, 0x00, 0xc1, 0x2c, 0xb6, 0x00, 0xc5, 0x9f, 0x09, 0x3f, 0x03, 0xac, 0x2b, 0xb6, 0x00, 0xc6, 0x57, 0x2c, 0xb6, 0x00, 0xc9, 0x57, 0xa7, 0x09, 0x30, 0x2b, 0xb6, 0x00, 0xca, 0x57, 0x2c, 0xb6, 0x00, 0xcd]
def lwT_5 : List UInt8 := lwC_5 ++ lwT_6
def lwC_4 : List UInt8 := [0x00, 0x00, 0x09, 0x5a, 0x00, 0x00, 0x09, 0x92, 0x00, 0x00, 0x09, 0xae, 0x00, 0x00, 0x09, 0xd6, 0x00, 0x00, 0x09, 0xf2, 0x00, 0x00, 0x0a, 0x1a, 0x00, 0x00, 0x0a, 0x33, 0x00, 0x00, 0x0a, 0x40, 0x00, 0x00, 0x0a, 0x5c, 0x2b, 0x2a, 0x15, 0x05, 0x04, 0x60, 0x2e, 0x85, 0x10, 0x20, 0x79, 0x2a, 0x15, 0x05, 0x05, 0x60, 0x2e, 0x85, 0x14, 0x00, 0xba, 0x7f, 0x81, 0xb6, 0x00, 0xbc, 0x57, 0x2c]
def lwT_4 : List UInt8 := lwC_4 ++ lwT_5
def lwC_3 : List UInt8 := [0x00, 0x00, 0x05, 0xea, 0x00, 0x00, 0x06, 0x06, 0x00, 0x00, 0x06, 0x22, 0x00, 0x00, 0x06, 0x6a, 0x00, 0x00, 0x06, 0xb2, 0x00, 0x00, 0x06, 0xda, 0x00, 0x00, 0x07, 0x2a, 0x00, 0x00, 0x07, 0x7e, 0x00, 0x00, 0x07, 0xa6, 0x00, 0x00, 0x07, 0xce, 0x00, 0x00, 0x08, 0x0e, 0x00, 0x00, 0x08, 0x5e, 0x00, 0x00, 0x08, 0xae, 0x00, 0x00, 0x08, 0xd6, 0x00, 0x00, 0x08, 0xfe, 0x00, 0x00, 0x09, 0x26]
def lwT_3 : List UInt8 := lwC_3 ++ lwT_4
def lwC_2 : List UInt8 := [0x00, 0x00, 0x03, 0x75, 0x00, 0x00, 0x03, 0x91, 0x00, 0x00, 0x03, 0xc5, 0x00, 0x00, 0x03, 0xed, 0x00, 0x00, 0x04, 0x09, 0x00, 0x00, 0x04, 0x26, 0x00, 0x00, 0x04, 0x4e, 0x00, 0x00, 0x04, 0x6a, 0x00, 0x00, 0x04, 0x9e, 0x00, 0x00, 0x04, 0xde, 0x00, 0x00, 0x05, 0x06, 0x00, 0x00, 0x05, 0x22, 0x00, 0x00, 0x05, 0x4a, 0x00, 0x00, 0x05, 0x7e, 0x00, 0x00, 0x05, 0xb2, 0x00, 0x00, 0x05, 0xce]
def lwT_2 : List UInt8 := lwC_2 ++ lwT_3
def lwC_1 : List UInt8 := [0x00, 0x00, 0x01, 0x31, 0x00, 0x00, 0x01, 0x3e, 0x00, 0x00, 0x01, 0x4b, 0x00, 0x00, 0x01, 0x58, 0x00, 0x00, 0x01, 0x74, 0x00, 0x00, 0x01, 0xa8, 0x00, 0x00, 0x01, 0xd0, 0x00, 0x00, 0x02, 0x04, 0x00, 0x00, 0x02, 0x38, 0x00, 0x00, 0x02, 0x54, 0x00, 0x00, 0x02, 0x7c, 0x00, 0x00, 0x02, 0xa4, 0x00, 0x00, 0x02, 0xc0, 0x00, 0x00, 0x02, 0xe8, 0x00, 0x00, 0x03, 0x30, 0x00, 0x00, 0x03, 0x58]
def lwT_1 : List UInt8 := lwC_1 ++ lwT_2
def lwC_0 : List UInt8 := [0xbb, 0x00, 0x08, 0x59, 0xb7, 0x00, 0xb6, 0x4c, 0xbb, 0x00, 0xb7, 0x59, 0xb7, 0x00, 0xb9, 0x4d, 0x04, 0xbc, 0x0b, 0x4e, 0x04, 0xbc, 0x07, 0x3a, 0x04, 0x03, 0x36, 0x05, 0x15, 0x05, 0x2a, 0xbe, 0x08, 0x64, 0xa3, 0x0a, 0x88, 0x2a, 0x15, 0x05, 0x2e, 0x10, 0x3f, 0x7e, 0xaa, 0x00, 0x00, 0x00, 0x00, 0x00, 0x0a, 0x78, 0x00, 0x00, 0x00, 0x00, 0x00, 0x00, 0x00, 0x39, 0x00, 0x00, 0x00, 0xf8]
def lwT_0 : List UInt8 := lwC_0 ++ lwT_1
set_option maxRecDepth 100000 in
theorem lwD_0 : cL_law.data.toList.drop 0 = lwT_0 := by decide +kernel
theorem lwD_1 : cL_law.data.toList.drop 64 = lwT_1 := drp9 64 lwD_0 rfl
theorem lwD_2 : cL_law.data.toList.drop 128 = lwT_2 := drp9 64 lwD_1 rfl
theorem lwD_3 : cL_law.data.toList.drop 192 = lwT_3 := drp9 64 lwD_2 rfl
theorem lwD_4 : cL_law.data.toList.drop 256 = lwT_4 := drp9 64 lwD_3 rfl
theorem lwD_5 : cL_law.data.toList.drop 320 = lwT_5 := drp9 64 lwD_4 rfl
theorem lwD_6 : cL_law.data.toList.drop 384 = lwT_6 := drp9 64 lwD_5 rfl
theorem lwD_7 : cL_law.data.toList.drop 448 = lwT_7 := drp9 64 lwD_6 rfl
theorem lwD_8 : cL_law.data.toList.drop 512 = lwT_8 := drp9 64 lwD_7 rfl
theorem lwD_9 : cL_law.data.toList.drop 576 = lwT_9 := drp9 64 lwD_8 rfl
theorem lwD_10 : cL_law.data.toList.drop 640 = lwT_10 := drp9 64 lwD_9 rfl
theorem lwD_11 : cL_law.data.toList.drop 704 = lwT_11 := drp9 64 lwD_10 rfl
theorem lwD_12 : cL_law.data.toList.drop 768 = lwT_12 := drp9 64 lwD_11 rfl
theorem lwD_13 : cL_law.data.toList.drop 832 = lwT_13 := drp9 64 lwD_12 rfl
theorem lwD_14 : cL_law.data.toList.drop 896 = lwT_14 := drp9 64 lwD_13 rfl
theorem lwD_15 : cL_law.data.toList.drop 960 = lwT_15 := drp9 64 lwD_14 rfl
theorem lwD_16 : cL_law.data.toList.drop 1024 = lwT_16 := drp9 64 lwD_15 rfl
theorem lwD_17 : cL_law.data.toList.drop 1088 = lwT_17 := drp9 64 lwD_16 rfl
theorem lwD_18 : cL_law.data.toList.drop 1152 = lwT_18 := drp9 64 lwD_17 rfl
theorem lwD_19 : cL_law.data.toList.drop 1216 = lwT_19 := drp9 64 lwD_18 rfl
theorem lwD_20 : cL_law.data.toList.drop 1280 = lwT_20 := drp9 64 lwD_19 rfl
theorem lwD_21 : cL_law.data.toList.drop 1344 = lwT_21 := drp9 64 lwD_20 rfl
theorem lwD_22 : cL_law.data.toList.drop 1408 = lwT_22 := drp9 64 lwD_21 rfl
theorem lwD_23 : cL_law.data.toList.drop 1472 = lwT_23 := drp9 64 lwD_22 rfl
theorem lwD_24 : cL_law.data.toList.drop 1536 = lwT_24 := drp9 64 lwD_23 rfl
theorem lwD_25 : cL_law.data.toList.drop 1600 = lwT_25 := drp9 64 lwD_24 rfl
theorem lwD_26 : cL_law.data.toList.drop 1664 = lwT_26 := drp9 64 lwD_25 rfl
theorem lwD_27 : cL_law.data.toList.drop 1728 = lwT_27 := drp9 64 lwD_26 rfl
theorem lwD_28 : cL_law.data.toList.drop 1792 = lwT_28 := drp9 64 lwD_27 rfl
theorem lwD_29 : cL_law.data.toList.drop 1856 = lwT_29 := drp9 64 lwD_28 rfl
theorem lwD_30 : cL_law.data.toList.drop 1920 = lwT_30 := drp9 64 lwD_29 rfl
theorem lwD_31 : cL_law.data.toList.drop 1984 = lwT_31 := drp9 64 lwD_30 rfl
theorem lwD_32 : cL_law.data.toList.drop 2048 = lwT_32 := drp9 64 lwD_31 rfl
theorem lwD_33 : cL_law.data.toList.drop 2112 = lwT_33 := drp9 64 lwD_32 rfl
theorem lwD_34 : cL_law.data.toList.drop 2176 = lwT_34 := drp9 64 lwD_33 rfl
theorem lwD_35 : cL_law.data.toList.drop 2240 = lwT_35 := drp9 64 lwD_34 rfl
theorem lwD_36 : cL_law.data.toList.drop 2304 = lwT_36 := drp9 64 lwD_35 rfl
theorem lwD_37 : cL_law.data.toList.drop 2368 = lwT_37 := drp9 64 lwD_36 rfl
theorem lwD_38 : cL_law.data.toList.drop 2432 = lwT_38 := drp9 64 lwD_37 rfl
theorem lwD_39 : cL_law.data.toList.drop 2496 = lwT_39 := drp9 64 lwD_38 rfl
theorem lwD_40 : cL_law.data.toList.drop 2560 = lwT_40 := drp9 64 lwD_39 rfl
theorem lwD_41 : cL_law.data.toList.drop 2624 = lwT_41 := drp9 64 lwD_40 rfl
theorem lwD_42 : cL_law.data.toList.drop 2688 = lwT_42 := drp9 64 lwD_41 rfl
