/-! the law's names; its code in pieces; its rows -/
def RL : String := "BitDeskLaw"
abbrev cL_count : ByteArray := method_3_code
def yL_count : MethodName := ⟨RL, "count", "(LBitDesk;I[J)I"⟩
abbrev cL_bit : ByteArray := method_4_code
def yL_bit : MethodName := ⟨RL, "bit", "(LBitDesk;III[J)I"⟩
abbrev cL_row : ByteArray := method_5_code
def yL_row : MethodName := ⟨RL, "row", "(LBitDesk;II[J)I"⟩
abbrev cL_rank : ByteArray := method_6_code
def yL_rank : MethodName := ⟨RL, "rank", "(LBitDesk;III[J)I"⟩
abbrev cL_select : ByteArray := method_7_code
def yL_select : MethodName := ⟨RL, "select", "(LBitDesk;III[J)I"⟩
abbrev cL_ones : ByteArray := method_8_code
def yL_ones : MethodName := ⟨RL, "ones", "(LBitDesk;I[J)I"⟩
abbrev cL_columnOnes : ByteArray := method_9_code
def yL_columnOnes : MethodName := ⟨RL, "columnOnes", "(LBitDesk;II[J)I"⟩
abbrev cL_sameAs : ByteArray := method_10_code
def yL_sameAs : MethodName := ⟨RL, "sameAs", "(LBitDesk;II[J)I"⟩
abbrev cL_classes : ByteArray := method_11_code
def yL_classes : MethodName := ⟨RL, "classes", "(LBitDesk;I[J)I"⟩
abbrev cL_classOf : ByteArray := method_12_code
def yL_classOf : MethodName := ⟨RL, "classOf", "(LBitDesk;II[J)I"⟩
abbrev cL_find : ByteArray := method_13_code
def yL_find : MethodName := ⟨RL, "find", "(LBitDesk;IJ[J)I"⟩
abbrev cL_nearest : ByteArray := method_14_code
def yL_nearest : MethodName := ⟨RL, "nearest", "(LBitDesk;II[J)I"⟩
abbrev cL_density : ByteArray := method_15_code
def yL_density : MethodName := ⟨RL, "density", "(LBitDesk;I[D)I"⟩
abbrev cL_isSymmetric : ByteArray := method_16_code
def yL_isSymmetric : MethodName := ⟨RL, "isSymmetric", "(LBitDesk;I[J)I"⟩
abbrev cL_reaches : ByteArray := method_17_code
def yL_reaches : MethodName := ⟨RL, "reaches", "(LBitDesk;III[J)I"⟩
abbrev cL_reached : ByteArray := method_18_code
def yL_reached : MethodName := ⟨RL, "reached", "(LBitDesk;II[J)I"⟩
abbrev cL_pairs : ByteArray := method_19_code
def yL_pairs : MethodName := ⟨RL, "pairs", "(LBitDesk;I[J)I"⟩
abbrev cL_meanReach : ByteArray := method_20_code
def yL_meanReach : MethodName := ⟨RL, "meanReach", "(LBitDesk;I[D)I"⟩
abbrev cL_component : ByteArray := method_21_code
def yL_component : MethodName := ⟨RL, "component", "(LBitDesk;II[J)I"⟩
abbrev cL_components : ByteArray := method_22_code
def yL_components : MethodName := ⟨RL, "components", "(LBitDesk;I[J)I"⟩
abbrev cL_distance : ByteArray := method_23_code
def yL_distance : MethodName := ⟨RL, "distance", "(LBitDesk;III[J)I"⟩
abbrev cL_stepAt : ByteArray := method_24_code
def yL_stepAt : MethodName := ⟨RL, "stepAt", "(LBitDesk;IIII[J)I"⟩
abbrev cL_around : ByteArray := method_25_code
def yL_around : MethodName := ⟨RL, "around", "(LBitDesk;II[J)I"⟩
abbrev cL_girth : ByteArray := method_26_code
def yL_girth : MethodName := ⟨RL, "girth", "(LBitDesk;I[J)I"⟩
abbrev cL_order : ByteArray := method_27_code
def yL_order : MethodName := ⟨RL, "order", "(LBitDesk;II[J)I"⟩
abbrev cL_gained : ByteArray := method_28_code
def yL_gained : MethodName := ⟨RL, "gained", "(LBitDesk;III[J)I"⟩
abbrev cL_lost : ByteArray := method_29_code
def yL_lost : MethodName := ⟨RL, "lost", "(LBitDesk;III[J)I"⟩
abbrev cL_bestEdge : ByteArray := method_30_code
def yL_bestEdge : MethodName := ⟨RL, "bestEdge", "(LBitDesk;I[J)I"⟩
abbrev cL_weakest : ByteArray := method_31_code
def yL_weakest : MethodName := ⟨RL, "weakest", "(LBitDesk;I[J)I"⟩
abbrev cL_triangles : ByteArray := method_32_code
def yL_triangles : MethodName := ⟨RL, "triangles", "(LBitDesk;I[J)I"⟩
abbrev cL_fieldRank : ByteArray := method_33_code
def yL_fieldRank : MethodName := ⟨RL, "fieldRank", "(LBitDesk;I[J)I"⟩
abbrev cL_solve : ByteArray := method_34_code
def yL_solve : MethodName := ⟨RL, "solve", "(LBitDesk;IJ[J)I"⟩
abbrev cL_freedom : ByteArray := method_35_code
def yL_freedom : MethodName := ⟨RL, "freedom", "(LBitDesk;IJ[J)I"⟩
abbrev cL_pivot : ByteArray := method_36_code
def yL_pivot : MethodName := ⟨RL, "pivot", "(LBitDesk;II[J)I"⟩
abbrev cL_put : ByteArray := method_37_code
def yL_put : MethodName := ⟨RL, "put", "(LBitDesk;IIIZ[J)I"⟩
abbrev cL_setRow : ByteArray := method_38_code
def yL_setRow : MethodName := ⟨RL, "setRow", "(LBitDesk;IIJ[J)I"⟩
abbrev cL_copy : ByteArray := method_39_code
def yL_copy : MethodName := ⟨RL, "copy", "(LBitDesk;II[J)I"⟩
abbrev cL_transpose : ByteArray := method_40_code
def yL_transpose : MethodName := ⟨RL, "transpose", "(LBitDesk;II[J)I"⟩
abbrev cL_combine : ByteArray := method_41_code
def yL_combine : MethodName := ⟨RL, "combine", "(LBitDesk;IIII[J)I"⟩
abbrev cL_product : ByteArray := method_42_code
def yL_product : MethodName := ⟨RL, "product", "(LBitDesk;IIIZ[J)I"⟩
abbrev cL_power : ByteArray := method_43_code
def yL_power : MethodName := ⟨RL, "power", "(LBitDesk;IIIZ[J)I"⟩
abbrev cL_invert : ByteArray := method_44_code
def yL_invert : MethodName := ⟨RL, "invert", "(LBitDesk;II[J)I"⟩
abbrev cL_close : ByteArray := method_45_code
def yL_close : MethodName := ⟨RL, "close", "(LBitDesk;II[J)I"⟩
abbrev cL_reduce : ByteArray := method_46_code
def yL_reduce : MethodName := ⟨RL, "reduce", "(LBitDesk;II[J)I"⟩
abbrev cL_exchange : ByteArray := method_47_code
def yL_exchange : MethodName := ⟨RL, "exchange", "(LBitDesk;III[J)I"⟩
abbrev cL_keep : ByteArray := method_48_code
def yL_keep : MethodName := ⟨RL, "keep", "(LBitDesk;IZ[J)I"⟩
abbrev cL_setBlock : ByteArray := method_49_code
def yL_setBlock : MethodName := ⟨RL, "setBlock", "(LBitDesk;I[J)I"⟩
abbrev cL_kept : ByteArray := method_50_code
def yL_kept : MethodName := ⟨RL, "kept", "(LBitDesk;II[J)I"⟩
abbrev cL_work : ByteArray := method_51_code
def yL_work : MethodName := ⟨RL, "work", "(LBitDesk;I[J)I"⟩
abbrev cL_writeRow : ByteArray := method_52_code
def yL_writeRow : MethodName := ⟨RL, "writeRow", "(LBitDesk;II[J)I"⟩
abbrev cL_saveSnapshot : ByteArray := method_53_code
def yL_saveSnapshot : MethodName := ⟨RL, "saveSnapshot", "(LBitDesk;I[J)I"⟩
abbrev cL_restoreSnapshot : ByteArray := method_54_code
def yL_restoreSnapshot : MethodName := ⟨RL, "restoreSnapshot", "(LBitDesk;I[J)I"⟩
abbrev cL_law : ByteArray := code
def yL_law : MethodName := ⟨RL, "law", "([I)Z"⟩
theorem dL_count_0 : decode cL_count 0 = .ok (.aload_n 2, 1) := by decide +kernel
theorem dL_count_1 : decode cL_count 1 = .ok (.iconst 0, 1) := by decide +kernel
theorem dL_count_2 : decode cL_count 2 = .ok (.aload_n 0, 1) := by decide +kernel
theorem dL_count_3 : decode cL_count 3 = .ok (.iload_n 1, 1) := by decide +kernel
theorem dL_count_4 : decode cL_count 4 = .ok (.invokevirtual 7, 3) := by decide +kernel
theorem dL_count_7 : decode cL_count 7 = .ok (.i2l, 1) := by decide +kernel
theorem dL_count_8 : decode cL_count 8 = .ok (.lastore, 1) := by decide +kernel
theorem dL_count_9 : decode cL_count 9 = .ok (.goto 6, 3) := by decide +kernel
theorem dL_count_12 : decode cL_count 12 = .ok (.astore_n 3, 1) := by decide +kernel
theorem dL_count_13 : decode cL_count 13 = .ok (.iconst 1, 1) := by decide +kernel
theorem dL_count_14 : decode cL_count 14 = .ok (.ireturn, 1) := by decide +kernel
theorem dL_count_15 : decode cL_count 15 = .ok (.iconst 0, 1) := by decide +kernel
theorem dL_count_16 : decode cL_count 16 = .ok (.ireturn, 1) := by decide +kernel
theorem dL_bit_0 : decode cL_bit 0 = .ok (.aload 4, 2) := by decide +kernel
theorem dL_bit_2 : decode cL_bit 2 = .ok (.iconst 0, 1) := by decide +kernel
theorem dL_bit_3 : decode cL_bit 3 = .ok (.aload_n 0, 1) := by decide +kernel
theorem dL_bit_4 : decode cL_bit 4 = .ok (.iload_n 1, 1) := by decide +kernel
theorem dL_bit_5 : decode cL_bit 5 = .ok (.iload_n 2, 1) := by decide +kernel
theorem dL_bit_6 : decode cL_bit 6 = .ok (.iload_n 3, 1) := by decide +kernel
theorem dL_bit_7 : decode cL_bit 7 = .ok (.invokevirtual 15, 3) := by decide +kernel
theorem dL_bit_10 : decode cL_bit 10 = .ok (.i2l, 1) := by decide +kernel
theorem dL_bit_11 : decode cL_bit 11 = .ok (.lastore, 1) := by decide +kernel
theorem dL_bit_12 : decode cL_bit 12 = .ok (.goto 7, 3) := by decide +kernel
theorem dL_bit_15 : decode cL_bit 15 = .ok (.astore 5, 2) := by decide +kernel
theorem dL_bit_17 : decode cL_bit 17 = .ok (.iconst 1, 1) := by decide +kernel
theorem dL_bit_18 : decode cL_bit 18 = .ok (.ireturn, 1) := by decide +kernel
theorem dL_bit_19 : decode cL_bit 19 = .ok (.iconst 0, 1) := by decide +kernel
theorem dL_bit_20 : decode cL_bit 20 = .ok (.ireturn, 1) := by decide +kernel
theorem dL_row_0 : decode cL_row 0 = .ok (.aload_n 3, 1) := by decide +kernel
theorem dL_row_1 : decode cL_row 1 = .ok (.iconst 0, 1) := by decide +kernel
theorem dL_row_2 : decode cL_row 2 = .ok (.aload_n 0, 1) := by decide +kernel
theorem dL_row_3 : decode cL_row 3 = .ok (.iload_n 1, 1) := by decide +kernel
theorem dL_row_4 : decode cL_row 4 = .ok (.iload_n 2, 1) := by decide +kernel
theorem dL_row_5 : decode cL_row 5 = .ok (.invokevirtual 21, 3) := by decide +kernel
theorem dL_row_8 : decode cL_row 8 = .ok (.lastore, 1) := by decide +kernel
theorem dL_row_9 : decode cL_row 9 = .ok (.goto 7, 3) := by decide +kernel
theorem dL_row_12 : decode cL_row 12 = .ok (.astore 4, 2) := by decide +kernel
theorem dL_row_14 : decode cL_row 14 = .ok (.iconst 1, 1) := by decide +kernel
theorem dL_row_15 : decode cL_row 15 = .ok (.ireturn, 1) := by decide +kernel
theorem dL_row_16 : decode cL_row 16 = .ok (.iconst 0, 1) := by decide +kernel
theorem dL_row_17 : decode cL_row 17 = .ok (.ireturn, 1) := by decide +kernel
theorem dL_rank_0 : decode cL_rank 0 = .ok (.aload 4, 2) := by decide +kernel
theorem dL_rank_2 : decode cL_rank 2 = .ok (.iconst 0, 1) := by decide +kernel
theorem dL_rank_3 : decode cL_rank 3 = .ok (.aload_n 0, 1) := by decide +kernel
theorem dL_rank_4 : decode cL_rank 4 = .ok (.iload_n 1, 1) := by decide +kernel
theorem dL_rank_5 : decode cL_rank 5 = .ok (.iload_n 2, 1) := by decide +kernel
theorem dL_rank_6 : decode cL_rank 6 = .ok (.iload_n 3, 1) := by decide +kernel
theorem dL_rank_7 : decode cL_rank 7 = .ok (.invokevirtual 25, 3) := by decide +kernel
theorem dL_rank_10 : decode cL_rank 10 = .ok (.i2l, 1) := by decide +kernel
theorem dL_rank_11 : decode cL_rank 11 = .ok (.lastore, 1) := by decide +kernel
theorem dL_rank_12 : decode cL_rank 12 = .ok (.goto 11, 3) := by decide +kernel
theorem dL_rank_15 : decode cL_rank 15 = .ok (.astore 5, 2) := by decide +kernel
theorem dL_rank_17 : decode cL_rank 17 = .ok (.iconst 1, 1) := by decide +kernel
theorem dL_rank_18 : decode cL_rank 18 = .ok (.ireturn, 1) := by decide +kernel
theorem dL_rank_19 : decode cL_rank 19 = .ok (.astore 5, 2) := by decide +kernel
theorem dL_rank_21 : decode cL_rank 21 = .ok (.iconst 2, 1) := by decide +kernel
theorem dL_rank_22 : decode cL_rank 22 = .ok (.ireturn, 1) := by decide +kernel
theorem dL_rank_23 : decode cL_rank 23 = .ok (.iconst 0, 1) := by decide +kernel
theorem dL_rank_24 : decode cL_rank 24 = .ok (.ireturn, 1) := by decide +kernel
theorem dL_select_0 : decode cL_select 0 = .ok (.aload 4, 2) := by decide +kernel
theorem dL_select_2 : decode cL_select 2 = .ok (.iconst 0, 1) := by decide +kernel
theorem dL_select_3 : decode cL_select 3 = .ok (.aload_n 0, 1) := by decide +kernel
theorem dL_select_4 : decode cL_select 4 = .ok (.iload_n 1, 1) := by decide +kernel
theorem dL_select_5 : decode cL_select 5 = .ok (.iload_n 2, 1) := by decide +kernel
theorem dL_select_6 : decode cL_select 6 = .ok (.iload_n 3, 1) := by decide +kernel
theorem dL_select_7 : decode cL_select 7 = .ok (.invokevirtual 28, 3) := by decide +kernel
theorem dL_select_10 : decode cL_select 10 = .ok (.i2l, 1) := by decide +kernel
theorem dL_select_11 : decode cL_select 11 = .ok (.lastore, 1) := by decide +kernel
theorem dL_select_12 : decode cL_select 12 = .ok (.goto 7, 3) := by decide +kernel
theorem dL_select_15 : decode cL_select 15 = .ok (.astore 5, 2) := by decide +kernel
theorem dL_select_17 : decode cL_select 17 = .ok (.iconst 1, 1) := by decide +kernel
theorem dL_select_18 : decode cL_select 18 = .ok (.ireturn, 1) := by decide +kernel
theorem dL_select_19 : decode cL_select 19 = .ok (.iconst 0, 1) := by decide +kernel
theorem dL_select_20 : decode cL_select 20 = .ok (.ireturn, 1) := by decide +kernel
theorem dL_ones_0 : decode cL_ones 0 = .ok (.aload_n 2, 1) := by decide +kernel
theorem dL_ones_1 : decode cL_ones 1 = .ok (.iconst 0, 1) := by decide +kernel
theorem dL_ones_2 : decode cL_ones 2 = .ok (.aload_n 0, 1) := by decide +kernel
theorem dL_ones_3 : decode cL_ones 3 = .ok (.iload_n 1, 1) := by decide +kernel
theorem dL_ones_4 : decode cL_ones 4 = .ok (.invokevirtual 31, 3) := by decide +kernel
theorem dL_ones_7 : decode cL_ones 7 = .ok (.i2l, 1) := by decide +kernel
theorem dL_ones_8 : decode cL_ones 8 = .ok (.lastore, 1) := by decide +kernel
theorem dL_ones_9 : decode cL_ones 9 = .ok (.goto 6, 3) := by decide +kernel
theorem dL_ones_12 : decode cL_ones 12 = .ok (.astore_n 3, 1) := by decide +kernel
theorem dL_ones_13 : decode cL_ones 13 = .ok (.iconst 1, 1) := by decide +kernel
theorem dL_ones_14 : decode cL_ones 14 = .ok (.ireturn, 1) := by decide +kernel
theorem dL_ones_15 : decode cL_ones 15 = .ok (.iconst 0, 1) := by decide +kernel
theorem dL_ones_16 : decode cL_ones 16 = .ok (.ireturn, 1) := by decide +kernel
theorem dL_columnOnes_0 : decode cL_columnOnes 0 = .ok (.aload_n 3, 1) := by decide +kernel
theorem dL_columnOnes_1 : decode cL_columnOnes 1 = .ok (.iconst 0, 1) := by decide +kernel
theorem dL_columnOnes_2 : decode cL_columnOnes 2 = .ok (.aload_n 0, 1) := by decide +kernel
theorem dL_columnOnes_3 : decode cL_columnOnes 3 = .ok (.iload_n 1, 1) := by decide +kernel
theorem dL_columnOnes_4 : decode cL_columnOnes 4 = .ok (.iload_n 2, 1) := by decide +kernel
theorem dL_columnOnes_5 : decode cL_columnOnes 5 = .ok (.invokevirtual 34, 3) := by decide +kernel
theorem dL_columnOnes_8 : decode cL_columnOnes 8 = .ok (.i2l, 1) := by decide +kernel
theorem dL_columnOnes_9 : decode cL_columnOnes 9 = .ok (.lastore, 1) := by decide +kernel
theorem dL_columnOnes_10 : decode cL_columnOnes 10 = .ok (.goto 7, 3) := by decide +kernel
theorem dL_columnOnes_13 : decode cL_columnOnes 13 = .ok (.astore 4, 2) := by decide +kernel
theorem dL_columnOnes_15 : decode cL_columnOnes 15 = .ok (.iconst 1, 1) := by decide +kernel
theorem dL_columnOnes_16 : decode cL_columnOnes 16 = .ok (.ireturn, 1) := by decide +kernel
theorem dL_columnOnes_17 : decode cL_columnOnes 17 = .ok (.iconst 0, 1) := by decide +kernel
theorem dL_columnOnes_18 : decode cL_columnOnes 18 = .ok (.ireturn, 1) := by decide +kernel
theorem dL_sameAs_0 : decode cL_sameAs 0 = .ok (.aload_n 3, 1) := by decide +kernel
theorem dL_sameAs_1 : decode cL_sameAs 1 = .ok (.iconst 0, 1) := by decide +kernel
theorem dL_sameAs_2 : decode cL_sameAs 2 = .ok (.aload_n 0, 1) := by decide +kernel
theorem dL_sameAs_3 : decode cL_sameAs 3 = .ok (.iload_n 1, 1) := by decide +kernel
theorem dL_sameAs_4 : decode cL_sameAs 4 = .ok (.iload_n 2, 1) := by decide +kernel
theorem dL_sameAs_5 : decode cL_sameAs 5 = .ok (.invokevirtual 38, 3) := by decide +kernel
theorem dL_sameAs_8 : decode cL_sameAs 8 = .ok (.i2l, 1) := by decide +kernel
theorem dL_sameAs_9 : decode cL_sameAs 9 = .ok (.lastore, 1) := by decide +kernel
theorem dL_sameAs_10 : decode cL_sameAs 10 = .ok (.goto 7, 3) := by decide +kernel
theorem dL_sameAs_13 : decode cL_sameAs 13 = .ok (.astore 4, 2) := by decide +kernel
theorem dL_sameAs_15 : decode cL_sameAs 15 = .ok (.iconst 1, 1) := by decide +kernel
theorem dL_sameAs_16 : decode cL_sameAs 16 = .ok (.ireturn, 1) := by decide +kernel
theorem dL_sameAs_17 : decode cL_sameAs 17 = .ok (.iconst 0, 1) := by decide +kernel
theorem dL_sameAs_18 : decode cL_sameAs 18 = .ok (.ireturn, 1) := by decide +kernel
theorem dL_classes_0 : decode cL_classes 0 = .ok (.aload_n 2, 1) := by decide +kernel
theorem dL_classes_1 : decode cL_classes 1 = .ok (.iconst 0, 1) := by decide +kernel
theorem dL_classes_2 : decode cL_classes 2 = .ok (.aload_n 0, 1) := by decide +kernel
theorem dL_classes_3 : decode cL_classes 3 = .ok (.iload_n 1, 1) := by decide +kernel
theorem dL_classes_4 : decode cL_classes 4 = .ok (.invokevirtual 41, 3) := by decide +kernel
theorem dL_classes_7 : decode cL_classes 7 = .ok (.i2l, 1) := by decide +kernel
theorem dL_classes_8 : decode cL_classes 8 = .ok (.lastore, 1) := by decide +kernel
theorem dL_classes_9 : decode cL_classes 9 = .ok (.goto 6, 3) := by decide +kernel
theorem dL_classes_12 : decode cL_classes 12 = .ok (.astore_n 3, 1) := by decide +kernel
theorem dL_classes_13 : decode cL_classes 13 = .ok (.iconst 1, 1) := by decide +kernel
theorem dL_classes_14 : decode cL_classes 14 = .ok (.ireturn, 1) := by decide +kernel
theorem dL_classes_15 : decode cL_classes 15 = .ok (.iconst 0, 1) := by decide +kernel
theorem dL_classes_16 : decode cL_classes 16 = .ok (.ireturn, 1) := by decide +kernel
theorem dL_classOf_0 : decode cL_classOf 0 = .ok (.aload_n 3, 1) := by decide +kernel
theorem dL_classOf_1 : decode cL_classOf 1 = .ok (.iconst 0, 1) := by decide +kernel
theorem dL_classOf_2 : decode cL_classOf 2 = .ok (.aload_n 0, 1) := by decide +kernel
theorem dL_classOf_3 : decode cL_classOf 3 = .ok (.iload_n 1, 1) := by decide +kernel
theorem dL_classOf_4 : decode cL_classOf 4 = .ok (.iload_n 2, 1) := by decide +kernel
theorem dL_classOf_5 : decode cL_classOf 5 = .ok (.invokevirtual 44, 3) := by decide +kernel
theorem dL_classOf_8 : decode cL_classOf 8 = .ok (.i2l, 1) := by decide +kernel
theorem dL_classOf_9 : decode cL_classOf 9 = .ok (.lastore, 1) := by decide +kernel
theorem dL_classOf_10 : decode cL_classOf 10 = .ok (.goto 7, 3) := by decide +kernel
theorem dL_classOf_13 : decode cL_classOf 13 = .ok (.astore 4, 2) := by decide +kernel
theorem dL_classOf_15 : decode cL_classOf 15 = .ok (.iconst 1, 1) := by decide +kernel
theorem dL_classOf_16 : decode cL_classOf 16 = .ok (.ireturn, 1) := by decide +kernel
theorem dL_classOf_17 : decode cL_classOf 17 = .ok (.iconst 0, 1) := by decide +kernel
theorem dL_classOf_18 : decode cL_classOf 18 = .ok (.ireturn, 1) := by decide +kernel
theorem dL_find_0 : decode cL_find 0 = .ok (.aload 4, 2) := by decide +kernel
theorem dL_find_2 : decode cL_find 2 = .ok (.iconst 0, 1) := by decide +kernel
theorem dL_find_3 : decode cL_find 3 = .ok (.aload_n 0, 1) := by decide +kernel
theorem dL_find_4 : decode cL_find 4 = .ok (.iload_n 1, 1) := by decide +kernel
theorem dL_find_5 : decode cL_find 5 = .ok (.lload_n 2, 1) := by decide +kernel
theorem dL_find_6 : decode cL_find 6 = .ok (.invokevirtual 47, 3) := by decide +kernel
theorem dL_find_9 : decode cL_find 9 = .ok (.i2l, 1) := by decide +kernel
theorem dL_find_10 : decode cL_find 10 = .ok (.lastore, 1) := by decide +kernel
theorem dL_find_11 : decode cL_find 11 = .ok (.goto 7, 3) := by decide +kernel
theorem dL_find_14 : decode cL_find 14 = .ok (.astore 5, 2) := by decide +kernel
theorem dL_find_16 : decode cL_find 16 = .ok (.iconst 1, 1) := by decide +kernel
theorem dL_find_17 : decode cL_find 17 = .ok (.ireturn, 1) := by decide +kernel
theorem dL_find_18 : decode cL_find 18 = .ok (.iconst 0, 1) := by decide +kernel
theorem dL_find_19 : decode cL_find 19 = .ok (.ireturn, 1) := by decide +kernel
theorem dL_nearest_0 : decode cL_nearest 0 = .ok (.aload_n 3, 1) := by decide +kernel
theorem dL_nearest_1 : decode cL_nearest 1 = .ok (.iconst 0, 1) := by decide +kernel
theorem dL_nearest_2 : decode cL_nearest 2 = .ok (.aload_n 0, 1) := by decide +kernel
theorem dL_nearest_3 : decode cL_nearest 3 = .ok (.iload_n 1, 1) := by decide +kernel
theorem dL_nearest_4 : decode cL_nearest 4 = .ok (.iload_n 2, 1) := by decide +kernel
theorem dL_nearest_5 : decode cL_nearest 5 = .ok (.invokevirtual 51, 3) := by decide +kernel
theorem dL_nearest_8 : decode cL_nearest 8 = .ok (.i2l, 1) := by decide +kernel
theorem dL_nearest_9 : decode cL_nearest 9 = .ok (.lastore, 1) := by decide +kernel
theorem dL_nearest_10 : decode cL_nearest 10 = .ok (.goto 7, 3) := by decide +kernel
theorem dL_nearest_13 : decode cL_nearest 13 = .ok (.astore 4, 2) := by decide +kernel
theorem dL_nearest_15 : decode cL_nearest 15 = .ok (.iconst 1, 1) := by decide +kernel
theorem dL_nearest_16 : decode cL_nearest 16 = .ok (.ireturn, 1) := by decide +kernel
theorem dL_nearest_17 : decode cL_nearest 17 = .ok (.iconst 0, 1) := by decide +kernel
theorem dL_nearest_18 : decode cL_nearest 18 = .ok (.ireturn, 1) := by decide +kernel
theorem dL_density_0 : decode cL_density 0 = .ok (.aload_n 2, 1) := by decide +kernel
theorem dL_density_1 : decode cL_density 1 = .ok (.iconst 0, 1) := by decide +kernel
theorem dL_density_2 : decode cL_density 2 = .ok (.aload_n 0, 1) := by decide +kernel
theorem dL_density_3 : decode cL_density 3 = .ok (.iload_n 1, 1) := by decide +kernel
theorem dL_density_4 : decode cL_density 4 = .ok (.invokevirtual 54, 3) := by decide +kernel
theorem dL_density_7 : decode cL_density 7 = .ok (.dastore, 1) := by decide +kernel
theorem dL_density_8 : decode cL_density 8 = .ok (.goto 6, 3) := by decide +kernel
theorem dL_density_11 : decode cL_density 11 = .ok (.astore_n 3, 1) := by decide +kernel
theorem dL_density_12 : decode cL_density 12 = .ok (.iconst 1, 1) := by decide +kernel
theorem dL_density_13 : decode cL_density 13 = .ok (.ireturn, 1) := by decide +kernel
theorem dL_density_14 : decode cL_density 14 = .ok (.iconst 0, 1) := by decide +kernel
theorem dL_density_15 : decode cL_density 15 = .ok (.ireturn, 1) := by decide +kernel
theorem dL_isSymmetric_0 : decode cL_isSymmetric 0 = .ok (.aload_n 2, 1) := by decide +kernel
theorem dL_isSymmetric_1 : decode cL_isSymmetric 1 = .ok (.iconst 0, 1) := by decide +kernel
theorem dL_isSymmetric_2 : decode cL_isSymmetric 2 = .ok (.aload_n 0, 1) := by decide +kernel
theorem dL_isSymmetric_3 : decode cL_isSymmetric 3 = .ok (.iload_n 1, 1) := by decide +kernel
theorem dL_isSymmetric_4 : decode cL_isSymmetric 4 = .ok (.invokevirtual 58, 3) := by decide +kernel
theorem dL_isSymmetric_7 : decode cL_isSymmetric 7 = .ok (.ifCond .eq 7, 3) := by decide +kernel
theorem dL_isSymmetric_10 : decode cL_isSymmetric 10 = .ok (.lconst 1, 1) := by decide +kernel
theorem dL_isSymmetric_11 : decode cL_isSymmetric 11 = .ok (.goto 4, 3) := by decide +kernel
theorem dL_isSymmetric_14 : decode cL_isSymmetric 14 = .ok (.lconst 0, 1) := by decide +kernel
theorem dL_isSymmetric_15 : decode cL_isSymmetric 15 = .ok (.lastore, 1) := by decide +kernel
theorem dL_isSymmetric_16 : decode cL_isSymmetric 16 = .ok (.goto 6, 3) := by decide +kernel
theorem dL_isSymmetric_19 : decode cL_isSymmetric 19 = .ok (.astore_n 3, 1) := by decide +kernel
theorem dL_isSymmetric_20 : decode cL_isSymmetric 20 = .ok (.iconst 1, 1) := by decide +kernel
theorem dL_isSymmetric_21 : decode cL_isSymmetric 21 = .ok (.ireturn, 1) := by decide +kernel
theorem dL_isSymmetric_22 : decode cL_isSymmetric 22 = .ok (.iconst 0, 1) := by decide +kernel
theorem dL_isSymmetric_23 : decode cL_isSymmetric 23 = .ok (.ireturn, 1) := by decide +kernel
theorem dL_reaches_0 : decode cL_reaches 0 = .ok (.aload 4, 2) := by decide +kernel
theorem dL_reaches_2 : decode cL_reaches 2 = .ok (.iconst 0, 1) := by decide +kernel
theorem dL_reaches_3 : decode cL_reaches 3 = .ok (.aload_n 0, 1) := by decide +kernel
theorem dL_reaches_4 : decode cL_reaches 4 = .ok (.iload_n 1, 1) := by decide +kernel
theorem dL_reaches_5 : decode cL_reaches 5 = .ok (.iload_n 2, 1) := by decide +kernel
theorem dL_reaches_6 : decode cL_reaches 6 = .ok (.iload_n 3, 1) := by decide +kernel
theorem dL_reaches_7 : decode cL_reaches 7 = .ok (.invokevirtual 62, 3) := by decide +kernel
theorem dL_reaches_10 : decode cL_reaches 10 = .ok (.i2l, 1) := by decide +kernel
theorem dL_reaches_11 : decode cL_reaches 11 = .ok (.lastore, 1) := by decide +kernel
theorem dL_reaches_12 : decode cL_reaches 12 = .ok (.goto 7, 3) := by decide +kernel
theorem dL_reaches_15 : decode cL_reaches 15 = .ok (.astore 5, 2) := by decide +kernel
theorem dL_reaches_17 : decode cL_reaches 17 = .ok (.iconst 1, 1) := by decide +kernel
theorem dL_reaches_18 : decode cL_reaches 18 = .ok (.ireturn, 1) := by decide +kernel
theorem dL_reaches_19 : decode cL_reaches 19 = .ok (.iconst 0, 1) := by decide +kernel
theorem dL_reaches_20 : decode cL_reaches 20 = .ok (.ireturn, 1) := by decide +kernel
theorem dL_reached_0 : decode cL_reached 0 = .ok (.aload_n 3, 1) := by decide +kernel
theorem dL_reached_1 : decode cL_reached 1 = .ok (.iconst 0, 1) := by decide +kernel
theorem dL_reached_2 : decode cL_reached 2 = .ok (.aload_n 0, 1) := by decide +kernel
theorem dL_reached_3 : decode cL_reached 3 = .ok (.iload_n 1, 1) := by decide +kernel
theorem dL_reached_4 : decode cL_reached 4 = .ok (.iload_n 2, 1) := by decide +kernel
theorem dL_reached_5 : decode cL_reached 5 = .ok (.invokevirtual 65, 3) := by decide +kernel
theorem dL_reached_8 : decode cL_reached 8 = .ok (.i2l, 1) := by decide +kernel
theorem dL_reached_9 : decode cL_reached 9 = .ok (.lastore, 1) := by decide +kernel
theorem dL_reached_10 : decode cL_reached 10 = .ok (.goto 7, 3) := by decide +kernel
theorem dL_reached_13 : decode cL_reached 13 = .ok (.astore 4, 2) := by decide +kernel
theorem dL_reached_15 : decode cL_reached 15 = .ok (.iconst 1, 1) := by decide +kernel
theorem dL_reached_16 : decode cL_reached 16 = .ok (.ireturn, 1) := by decide +kernel
theorem dL_reached_17 : decode cL_reached 17 = .ok (.iconst 0, 1) := by decide +kernel
theorem dL_reached_18 : decode cL_reached 18 = .ok (.ireturn, 1) := by decide +kernel
theorem dL_pairs_0 : decode cL_pairs 0 = .ok (.aload_n 2, 1) := by decide +kernel
theorem dL_pairs_1 : decode cL_pairs 1 = .ok (.iconst 0, 1) := by decide +kernel
theorem dL_pairs_2 : decode cL_pairs 2 = .ok (.aload_n 0, 1) := by decide +kernel
theorem dL_pairs_3 : decode cL_pairs 3 = .ok (.iload_n 1, 1) := by decide +kernel
theorem dL_pairs_4 : decode cL_pairs 4 = .ok (.invokevirtual 68, 3) := by decide +kernel
theorem dL_pairs_7 : decode cL_pairs 7 = .ok (.i2l, 1) := by decide +kernel
theorem dL_pairs_8 : decode cL_pairs 8 = .ok (.lastore, 1) := by decide +kernel
theorem dL_pairs_9 : decode cL_pairs 9 = .ok (.goto 6, 3) := by decide +kernel
theorem dL_pairs_12 : decode cL_pairs 12 = .ok (.astore_n 3, 1) := by decide +kernel
theorem dL_pairs_13 : decode cL_pairs 13 = .ok (.iconst 1, 1) := by decide +kernel
theorem dL_pairs_14 : decode cL_pairs 14 = .ok (.ireturn, 1) := by decide +kernel
theorem dL_pairs_15 : decode cL_pairs 15 = .ok (.iconst 0, 1) := by decide +kernel
theorem dL_pairs_16 : decode cL_pairs 16 = .ok (.ireturn, 1) := by decide +kernel
theorem dL_meanReach_0 : decode cL_meanReach 0 = .ok (.aload_n 2, 1) := by decide +kernel
theorem dL_meanReach_1 : decode cL_meanReach 1 = .ok (.iconst 0, 1) := by decide +kernel
theorem dL_meanReach_2 : decode cL_meanReach 2 = .ok (.aload_n 0, 1) := by decide +kernel
theorem dL_meanReach_3 : decode cL_meanReach 3 = .ok (.iload_n 1, 1) := by decide +kernel
theorem dL_meanReach_4 : decode cL_meanReach 4 = .ok (.invokevirtual 71, 3) := by decide +kernel
theorem dL_meanReach_7 : decode cL_meanReach 7 = .ok (.f2d, 1) := by decide +kernel
theorem dL_meanReach_8 : decode cL_meanReach 8 = .ok (.dastore, 1) := by decide +kernel
theorem dL_meanReach_9 : decode cL_meanReach 9 = .ok (.goto 6, 3) := by decide +kernel
theorem dL_meanReach_12 : decode cL_meanReach 12 = .ok (.astore_n 3, 1) := by decide +kernel
theorem dL_meanReach_13 : decode cL_meanReach 13 = .ok (.iconst 1, 1) := by decide +kernel
theorem dL_meanReach_14 : decode cL_meanReach 14 = .ok (.ireturn, 1) := by decide +kernel
theorem dL_meanReach_15 : decode cL_meanReach 15 = .ok (.iconst 0, 1) := by decide +kernel
theorem dL_meanReach_16 : decode cL_meanReach 16 = .ok (.ireturn, 1) := by decide +kernel
theorem dL_component_0 : decode cL_component 0 = .ok (.aload_n 3, 1) := by decide +kernel
theorem dL_component_1 : decode cL_component 1 = .ok (.iconst 0, 1) := by decide +kernel
theorem dL_component_2 : decode cL_component 2 = .ok (.aload_n 0, 1) := by decide +kernel
theorem dL_component_3 : decode cL_component 3 = .ok (.iload_n 1, 1) := by decide +kernel
theorem dL_component_4 : decode cL_component 4 = .ok (.iload_n 2, 1) := by decide +kernel
theorem dL_component_5 : decode cL_component 5 = .ok (.invokevirtual 75, 3) := by decide +kernel
theorem dL_component_8 : decode cL_component 8 = .ok (.i2l, 1) := by decide +kernel
theorem dL_component_9 : decode cL_component 9 = .ok (.lastore, 1) := by decide +kernel
theorem dL_component_10 : decode cL_component 10 = .ok (.goto 7, 3) := by decide +kernel
theorem dL_component_13 : decode cL_component 13 = .ok (.astore 4, 2) := by decide +kernel
theorem dL_component_15 : decode cL_component 15 = .ok (.iconst 1, 1) := by decide +kernel
theorem dL_component_16 : decode cL_component 16 = .ok (.ireturn, 1) := by decide +kernel
theorem dL_component_17 : decode cL_component 17 = .ok (.iconst 0, 1) := by decide +kernel
theorem dL_component_18 : decode cL_component 18 = .ok (.ireturn, 1) := by decide +kernel
theorem dL_components_0 : decode cL_components 0 = .ok (.aload_n 2, 1) := by decide +kernel
theorem dL_components_1 : decode cL_components 1 = .ok (.iconst 0, 1) := by decide +kernel
theorem dL_components_2 : decode cL_components 2 = .ok (.aload_n 0, 1) := by decide +kernel
theorem dL_components_3 : decode cL_components 3 = .ok (.iload_n 1, 1) := by decide +kernel
theorem dL_components_4 : decode cL_components 4 = .ok (.invokevirtual 78, 3) := by decide +kernel
theorem dL_components_7 : decode cL_components 7 = .ok (.i2l, 1) := by decide +kernel
theorem dL_components_8 : decode cL_components 8 = .ok (.lastore, 1) := by decide +kernel
theorem dL_components_9 : decode cL_components 9 = .ok (.goto 6, 3) := by decide +kernel
theorem dL_components_12 : decode cL_components 12 = .ok (.astore_n 3, 1) := by decide +kernel
theorem dL_components_13 : decode cL_components 13 = .ok (.iconst 1, 1) := by decide +kernel
theorem dL_components_14 : decode cL_components 14 = .ok (.ireturn, 1) := by decide +kernel
theorem dL_components_15 : decode cL_components 15 = .ok (.iconst 0, 1) := by decide +kernel
theorem dL_components_16 : decode cL_components 16 = .ok (.ireturn, 1) := by decide +kernel
theorem dL_distance_0 : decode cL_distance 0 = .ok (.aload 4, 2) := by decide +kernel
theorem dL_distance_2 : decode cL_distance 2 = .ok (.iconst 0, 1) := by decide +kernel
theorem dL_distance_3 : decode cL_distance 3 = .ok (.aload_n 0, 1) := by decide +kernel
theorem dL_distance_4 : decode cL_distance 4 = .ok (.iload_n 1, 1) := by decide +kernel
theorem dL_distance_5 : decode cL_distance 5 = .ok (.iload_n 2, 1) := by decide +kernel
theorem dL_distance_6 : decode cL_distance 6 = .ok (.iload_n 3, 1) := by decide +kernel
theorem dL_distance_7 : decode cL_distance 7 = .ok (.invokevirtual 81, 3) := by decide +kernel
theorem dL_distance_10 : decode cL_distance 10 = .ok (.i2l, 1) := by decide +kernel
theorem dL_distance_11 : decode cL_distance 11 = .ok (.lastore, 1) := by decide +kernel
theorem dL_distance_12 : decode cL_distance 12 = .ok (.goto 7, 3) := by decide +kernel
theorem dL_distance_15 : decode cL_distance 15 = .ok (.astore 5, 2) := by decide +kernel
theorem dL_distance_17 : decode cL_distance 17 = .ok (.iconst 1, 1) := by decide +kernel
theorem dL_distance_18 : decode cL_distance 18 = .ok (.ireturn, 1) := by decide +kernel
theorem dL_distance_19 : decode cL_distance 19 = .ok (.iconst 0, 1) := by decide +kernel
theorem dL_distance_20 : decode cL_distance 20 = .ok (.ireturn, 1) := by decide +kernel
theorem dL_stepAt_0 : decode cL_stepAt 0 = .ok (.aload 5, 2) := by decide +kernel
theorem dL_stepAt_2 : decode cL_stepAt 2 = .ok (.iconst 0, 1) := by decide +kernel
theorem dL_stepAt_3 : decode cL_stepAt 3 = .ok (.aload_n 0, 1) := by decide +kernel
theorem dL_stepAt_4 : decode cL_stepAt 4 = .ok (.iload_n 1, 1) := by decide +kernel
theorem dL_stepAt_5 : decode cL_stepAt 5 = .ok (.iload_n 2, 1) := by decide +kernel
theorem dL_stepAt_6 : decode cL_stepAt 6 = .ok (.iload_n 3, 1) := by decide +kernel
theorem dL_stepAt_7 : decode cL_stepAt 7 = .ok (.iload 4, 2) := by decide +kernel
theorem dL_stepAt_9 : decode cL_stepAt 9 = .ok (.invokevirtual 84, 3) := by decide +kernel
theorem dL_stepAt_12 : decode cL_stepAt 12 = .ok (.i2l, 1) := by decide +kernel
theorem dL_stepAt_13 : decode cL_stepAt 13 = .ok (.lastore, 1) := by decide +kernel
theorem dL_stepAt_14 : decode cL_stepAt 14 = .ok (.goto 7, 3) := by decide +kernel
theorem dL_stepAt_17 : decode cL_stepAt 17 = .ok (.astore 6, 2) := by decide +kernel
theorem dL_stepAt_19 : decode cL_stepAt 19 = .ok (.iconst 1, 1) := by decide +kernel
theorem dL_stepAt_20 : decode cL_stepAt 20 = .ok (.ireturn, 1) := by decide +kernel
theorem dL_stepAt_21 : decode cL_stepAt 21 = .ok (.iconst 0, 1) := by decide +kernel
theorem dL_stepAt_22 : decode cL_stepAt 22 = .ok (.ireturn, 1) := by decide +kernel
theorem dL_around_0 : decode cL_around 0 = .ok (.aload_n 3, 1) := by decide +kernel
theorem dL_around_1 : decode cL_around 1 = .ok (.iconst 0, 1) := by decide +kernel
theorem dL_around_2 : decode cL_around 2 = .ok (.aload_n 0, 1) := by decide +kernel
theorem dL_around_3 : decode cL_around 3 = .ok (.iload_n 1, 1) := by decide +kernel
theorem dL_around_4 : decode cL_around 4 = .ok (.iload_n 2, 1) := by decide +kernel
theorem dL_around_5 : decode cL_around 5 = .ok (.invokevirtual 88, 3) := by decide +kernel
theorem dL_around_8 : decode cL_around 8 = .ok (.i2l, 1) := by decide +kernel
theorem dL_around_9 : decode cL_around 9 = .ok (.lastore, 1) := by decide +kernel
theorem dL_around_10 : decode cL_around 10 = .ok (.goto 7, 3) := by decide +kernel
theorem dL_around_13 : decode cL_around 13 = .ok (.astore 4, 2) := by decide +kernel
theorem dL_around_15 : decode cL_around 15 = .ok (.iconst 1, 1) := by decide +kernel
theorem dL_around_16 : decode cL_around 16 = .ok (.ireturn, 1) := by decide +kernel
theorem dL_around_17 : decode cL_around 17 = .ok (.iconst 0, 1) := by decide +kernel
theorem dL_around_18 : decode cL_around 18 = .ok (.ireturn, 1) := by decide +kernel
theorem dL_girth_0 : decode cL_girth 0 = .ok (.aload_n 2, 1) := by decide +kernel
theorem dL_girth_1 : decode cL_girth 1 = .ok (.iconst 0, 1) := by decide +kernel
theorem dL_girth_2 : decode cL_girth 2 = .ok (.aload_n 0, 1) := by decide +kernel
theorem dL_girth_3 : decode cL_girth 3 = .ok (.iload_n 1, 1) := by decide +kernel
theorem dL_girth_4 : decode cL_girth 4 = .ok (.invokevirtual 91, 3) := by decide +kernel
theorem dL_girth_7 : decode cL_girth 7 = .ok (.i2l, 1) := by decide +kernel
theorem dL_girth_8 : decode cL_girth 8 = .ok (.lastore, 1) := by decide +kernel
theorem dL_girth_9 : decode cL_girth 9 = .ok (.goto 6, 3) := by decide +kernel
theorem dL_girth_12 : decode cL_girth 12 = .ok (.astore_n 3, 1) := by decide +kernel
theorem dL_girth_13 : decode cL_girth 13 = .ok (.iconst 1, 1) := by decide +kernel
theorem dL_girth_14 : decode cL_girth 14 = .ok (.ireturn, 1) := by decide +kernel
theorem dL_girth_15 : decode cL_girth 15 = .ok (.iconst 0, 1) := by decide +kernel
theorem dL_girth_16 : decode cL_girth 16 = .ok (.ireturn, 1) := by decide +kernel
theorem dL_order_0 : decode cL_order 0 = .ok (.aload_n 3, 1) := by decide +kernel
theorem dL_order_1 : decode cL_order 1 = .ok (.iconst 0, 1) := by decide +kernel
theorem dL_order_2 : decode cL_order 2 = .ok (.aload_n 0, 1) := by decide +kernel
theorem dL_order_3 : decode cL_order 3 = .ok (.iload_n 1, 1) := by decide +kernel
theorem dL_order_4 : decode cL_order 4 = .ok (.iload_n 2, 1) := by decide +kernel
theorem dL_order_5 : decode cL_order 5 = .ok (.invokevirtual 94, 3) := by decide +kernel
theorem dL_order_8 : decode cL_order 8 = .ok (.i2l, 1) := by decide +kernel
theorem dL_order_9 : decode cL_order 9 = .ok (.lastore, 1) := by decide +kernel
theorem dL_order_10 : decode cL_order 10 = .ok (.goto 7, 3) := by decide +kernel
theorem dL_order_13 : decode cL_order 13 = .ok (.astore 4, 2) := by decide +kernel
theorem dL_order_15 : decode cL_order 15 = .ok (.iconst 1, 1) := by decide +kernel
theorem dL_order_16 : decode cL_order 16 = .ok (.ireturn, 1) := by decide +kernel
theorem dL_order_17 : decode cL_order 17 = .ok (.iconst 0, 1) := by decide +kernel
theorem dL_order_18 : decode cL_order 18 = .ok (.ireturn, 1) := by decide +kernel
theorem dL_gained_0 : decode cL_gained 0 = .ok (.aload 4, 2) := by decide +kernel
theorem dL_gained_2 : decode cL_gained 2 = .ok (.iconst 0, 1) := by decide +kernel
theorem dL_gained_3 : decode cL_gained 3 = .ok (.aload_n 0, 1) := by decide +kernel
theorem dL_gained_4 : decode cL_gained 4 = .ok (.iload_n 1, 1) := by decide +kernel
theorem dL_gained_5 : decode cL_gained 5 = .ok (.iload_n 2, 1) := by decide +kernel
theorem dL_gained_6 : decode cL_gained 6 = .ok (.iload_n 3, 1) := by decide +kernel
theorem dL_gained_7 : decode cL_gained 7 = .ok (.invokevirtual 97, 3) := by decide +kernel
theorem dL_gained_10 : decode cL_gained 10 = .ok (.i2l, 1) := by decide +kernel
theorem dL_gained_11 : decode cL_gained 11 = .ok (.lastore, 1) := by decide +kernel
theorem dL_gained_12 : decode cL_gained 12 = .ok (.goto 7, 3) := by decide +kernel
theorem dL_gained_15 : decode cL_gained 15 = .ok (.astore 5, 2) := by decide +kernel
theorem dL_gained_17 : decode cL_gained 17 = .ok (.iconst 1, 1) := by decide +kernel
theorem dL_gained_18 : decode cL_gained 18 = .ok (.ireturn, 1) := by decide +kernel
theorem dL_gained_19 : decode cL_gained 19 = .ok (.iconst 0, 1) := by decide +kernel
theorem dL_gained_20 : decode cL_gained 20 = .ok (.ireturn, 1) := by decide +kernel
theorem dL_lost_0 : decode cL_lost 0 = .ok (.aload 4, 2) := by decide +kernel
theorem dL_lost_2 : decode cL_lost 2 = .ok (.iconst 0, 1) := by decide +kernel
theorem dL_lost_3 : decode cL_lost 3 = .ok (.aload_n 0, 1) := by decide +kernel
theorem dL_lost_4 : decode cL_lost 4 = .ok (.iload_n 1, 1) := by decide +kernel
theorem dL_lost_5 : decode cL_lost 5 = .ok (.iload_n 2, 1) := by decide +kernel
theorem dL_lost_6 : decode cL_lost 6 = .ok (.iload_n 3, 1) := by decide +kernel
theorem dL_lost_7 : decode cL_lost 7 = .ok (.invokevirtual 100, 3) := by decide +kernel
theorem dL_lost_10 : decode cL_lost 10 = .ok (.i2l, 1) := by decide +kernel
theorem dL_lost_11 : decode cL_lost 11 = .ok (.lastore, 1) := by decide +kernel
theorem dL_lost_12 : decode cL_lost 12 = .ok (.goto 7, 3) := by decide +kernel
theorem dL_lost_15 : decode cL_lost 15 = .ok (.astore 5, 2) := by decide +kernel
theorem dL_lost_17 : decode cL_lost 17 = .ok (.iconst 1, 1) := by decide +kernel
theorem dL_lost_18 : decode cL_lost 18 = .ok (.ireturn, 1) := by decide +kernel
theorem dL_lost_19 : decode cL_lost 19 = .ok (.iconst 0, 1) := by decide +kernel
theorem dL_lost_20 : decode cL_lost 20 = .ok (.ireturn, 1) := by decide +kernel
theorem dL_bestEdge_0 : decode cL_bestEdge 0 = .ok (.aload_n 2, 1) := by decide +kernel
theorem dL_bestEdge_1 : decode cL_bestEdge 1 = .ok (.iconst 0, 1) := by decide +kernel
theorem dL_bestEdge_2 : decode cL_bestEdge 2 = .ok (.aload_n 0, 1) := by decide +kernel
theorem dL_bestEdge_3 : decode cL_bestEdge 3 = .ok (.iload_n 1, 1) := by decide +kernel
theorem dL_bestEdge_4 : decode cL_bestEdge 4 = .ok (.invokevirtual 103, 3) := by decide +kernel
theorem dL_bestEdge_7 : decode cL_bestEdge 7 = .ok (.i2l, 1) := by decide +kernel
theorem dL_bestEdge_8 : decode cL_bestEdge 8 = .ok (.lastore, 1) := by decide +kernel
theorem dL_bestEdge_9 : decode cL_bestEdge 9 = .ok (.goto 6, 3) := by decide +kernel
theorem dL_bestEdge_12 : decode cL_bestEdge 12 = .ok (.astore_n 3, 1) := by decide +kernel
theorem dL_bestEdge_13 : decode cL_bestEdge 13 = .ok (.iconst 1, 1) := by decide +kernel
theorem dL_bestEdge_14 : decode cL_bestEdge 14 = .ok (.ireturn, 1) := by decide +kernel
theorem dL_bestEdge_15 : decode cL_bestEdge 15 = .ok (.iconst 0, 1) := by decide +kernel
theorem dL_bestEdge_16 : decode cL_bestEdge 16 = .ok (.ireturn, 1) := by decide +kernel
theorem dL_weakest_0 : decode cL_weakest 0 = .ok (.aload_n 2, 1) := by decide +kernel
theorem dL_weakest_1 : decode cL_weakest 1 = .ok (.iconst 0, 1) := by decide +kernel
theorem dL_weakest_2 : decode cL_weakest 2 = .ok (.aload_n 0, 1) := by decide +kernel
theorem dL_weakest_3 : decode cL_weakest 3 = .ok (.iload_n 1, 1) := by decide +kernel
theorem dL_weakest_4 : decode cL_weakest 4 = .ok (.invokevirtual 106, 3) := by decide +kernel
theorem dL_weakest_7 : decode cL_weakest 7 = .ok (.i2l, 1) := by decide +kernel
theorem dL_weakest_8 : decode cL_weakest 8 = .ok (.lastore, 1) := by decide +kernel
theorem dL_weakest_9 : decode cL_weakest 9 = .ok (.goto 6, 3) := by decide +kernel
theorem dL_weakest_12 : decode cL_weakest 12 = .ok (.astore_n 3, 1) := by decide +kernel
theorem dL_weakest_13 : decode cL_weakest 13 = .ok (.iconst 1, 1) := by decide +kernel
theorem dL_weakest_14 : decode cL_weakest 14 = .ok (.ireturn, 1) := by decide +kernel
theorem dL_weakest_15 : decode cL_weakest 15 = .ok (.iconst 0, 1) := by decide +kernel
theorem dL_weakest_16 : decode cL_weakest 16 = .ok (.ireturn, 1) := by decide +kernel
theorem dL_triangles_0 : decode cL_triangles 0 = .ok (.aload_n 2, 1) := by decide +kernel
theorem dL_triangles_1 : decode cL_triangles 1 = .ok (.iconst 0, 1) := by decide +kernel
theorem dL_triangles_2 : decode cL_triangles 2 = .ok (.aload_n 0, 1) := by decide +kernel
theorem dL_triangles_3 : decode cL_triangles 3 = .ok (.iload_n 1, 1) := by decide +kernel
theorem dL_triangles_4 : decode cL_triangles 4 = .ok (.invokevirtual 109, 3) := by decide +kernel
theorem dL_triangles_7 : decode cL_triangles 7 = .ok (.i2l, 1) := by decide +kernel
theorem dL_triangles_8 : decode cL_triangles 8 = .ok (.lastore, 1) := by decide +kernel
theorem dL_triangles_9 : decode cL_triangles 9 = .ok (.goto 6, 3) := by decide +kernel
theorem dL_triangles_12 : decode cL_triangles 12 = .ok (.astore_n 3, 1) := by decide +kernel
theorem dL_triangles_13 : decode cL_triangles 13 = .ok (.iconst 1, 1) := by decide +kernel
theorem dL_triangles_14 : decode cL_triangles 14 = .ok (.ireturn, 1) := by decide +kernel
theorem dL_triangles_15 : decode cL_triangles 15 = .ok (.iconst 0, 1) := by decide +kernel
theorem dL_triangles_16 : decode cL_triangles 16 = .ok (.ireturn, 1) := by decide +kernel
theorem dL_fieldRank_0 : decode cL_fieldRank 0 = .ok (.aload_n 2, 1) := by decide +kernel
theorem dL_fieldRank_1 : decode cL_fieldRank 1 = .ok (.iconst 0, 1) := by decide +kernel
theorem dL_fieldRank_2 : decode cL_fieldRank 2 = .ok (.aload_n 0, 1) := by decide +kernel
theorem dL_fieldRank_3 : decode cL_fieldRank 3 = .ok (.iload_n 1, 1) := by decide +kernel
theorem dL_fieldRank_4 : decode cL_fieldRank 4 = .ok (.invokevirtual 112, 3) := by decide +kernel
theorem dL_fieldRank_7 : decode cL_fieldRank 7 = .ok (.i2l, 1) := by decide +kernel
theorem dL_fieldRank_8 : decode cL_fieldRank 8 = .ok (.lastore, 1) := by decide +kernel
theorem dL_fieldRank_9 : decode cL_fieldRank 9 = .ok (.goto 6, 3) := by decide +kernel
theorem dL_fieldRank_12 : decode cL_fieldRank 12 = .ok (.astore_n 3, 1) := by decide +kernel
theorem dL_fieldRank_13 : decode cL_fieldRank 13 = .ok (.iconst 1, 1) := by decide +kernel
theorem dL_fieldRank_14 : decode cL_fieldRank 14 = .ok (.ireturn, 1) := by decide +kernel
theorem dL_fieldRank_15 : decode cL_fieldRank 15 = .ok (.iconst 0, 1) := by decide +kernel
theorem dL_fieldRank_16 : decode cL_fieldRank 16 = .ok (.ireturn, 1) := by decide +kernel
theorem dL_solve_0 : decode cL_solve 0 = .ok (.aload 4, 2) := by decide +kernel
theorem dL_solve_2 : decode cL_solve 2 = .ok (.iconst 0, 1) := by decide +kernel
theorem dL_solve_3 : decode cL_solve 3 = .ok (.aload_n 0, 1) := by decide +kernel
theorem dL_solve_4 : decode cL_solve 4 = .ok (.iload_n 1, 1) := by decide +kernel
theorem dL_solve_5 : decode cL_solve 5 = .ok (.lload_n 2, 1) := by decide +kernel
theorem dL_solve_6 : decode cL_solve 6 = .ok (.invokevirtual 115, 3) := by decide +kernel
theorem dL_solve_9 : decode cL_solve 9 = .ok (.lastore, 1) := by decide +kernel
theorem dL_solve_10 : decode cL_solve 10 = .ok (.goto 7, 3) := by decide +kernel
theorem dL_solve_13 : decode cL_solve 13 = .ok (.astore 5, 2) := by decide +kernel
theorem dL_solve_15 : decode cL_solve 15 = .ok (.iconst 1, 1) := by decide +kernel
theorem dL_solve_16 : decode cL_solve 16 = .ok (.ireturn, 1) := by decide +kernel
theorem dL_solve_17 : decode cL_solve 17 = .ok (.iconst 0, 1) := by decide +kernel
theorem dL_solve_18 : decode cL_solve 18 = .ok (.ireturn, 1) := by decide +kernel
theorem dL_freedom_0 : decode cL_freedom 0 = .ok (.aload 4, 2) := by decide +kernel
theorem dL_freedom_2 : decode cL_freedom 2 = .ok (.iconst 0, 1) := by decide +kernel
theorem dL_freedom_3 : decode cL_freedom 3 = .ok (.aload_n 0, 1) := by decide +kernel
theorem dL_freedom_4 : decode cL_freedom 4 = .ok (.iload_n 1, 1) := by decide +kernel
theorem dL_freedom_5 : decode cL_freedom 5 = .ok (.lload_n 2, 1) := by decide +kernel
theorem dL_freedom_6 : decode cL_freedom 6 = .ok (.invokevirtual 119, 3) := by decide +kernel
theorem dL_freedom_9 : decode cL_freedom 9 = .ok (.i2l, 1) := by decide +kernel
theorem dL_freedom_10 : decode cL_freedom 10 = .ok (.lastore, 1) := by decide +kernel
theorem dL_freedom_11 : decode cL_freedom 11 = .ok (.goto 7, 3) := by decide +kernel
theorem dL_freedom_14 : decode cL_freedom 14 = .ok (.astore 5, 2) := by decide +kernel
theorem dL_freedom_16 : decode cL_freedom 16 = .ok (.iconst 1, 1) := by decide +kernel
theorem dL_freedom_17 : decode cL_freedom 17 = .ok (.ireturn, 1) := by decide +kernel
theorem dL_freedom_18 : decode cL_freedom 18 = .ok (.iconst 0, 1) := by decide +kernel
theorem dL_freedom_19 : decode cL_freedom 19 = .ok (.ireturn, 1) := by decide +kernel
theorem dL_pivot_0 : decode cL_pivot 0 = .ok (.aload_n 3, 1) := by decide +kernel
theorem dL_pivot_1 : decode cL_pivot 1 = .ok (.iconst 0, 1) := by decide +kernel
theorem dL_pivot_2 : decode cL_pivot 2 = .ok (.aload_n 0, 1) := by decide +kernel
theorem dL_pivot_3 : decode cL_pivot 3 = .ok (.iload_n 1, 1) := by decide +kernel
theorem dL_pivot_4 : decode cL_pivot 4 = .ok (.iload_n 2, 1) := by decide +kernel
theorem dL_pivot_5 : decode cL_pivot 5 = .ok (.invokevirtual 122, 3) := by decide +kernel
theorem dL_pivot_8 : decode cL_pivot 8 = .ok (.i2l, 1) := by decide +kernel
theorem dL_pivot_9 : decode cL_pivot 9 = .ok (.lastore, 1) := by decide +kernel
theorem dL_pivot_10 : decode cL_pivot 10 = .ok (.goto 7, 3) := by decide +kernel
theorem dL_pivot_13 : decode cL_pivot 13 = .ok (.astore 4, 2) := by decide +kernel
theorem dL_pivot_15 : decode cL_pivot 15 = .ok (.iconst 1, 1) := by decide +kernel
theorem dL_pivot_16 : decode cL_pivot 16 = .ok (.ireturn, 1) := by decide +kernel
theorem dL_pivot_17 : decode cL_pivot 17 = .ok (.iconst 0, 1) := by decide +kernel
theorem dL_pivot_18 : decode cL_pivot 18 = .ok (.ireturn, 1) := by decide +kernel
theorem dL_put_0 : decode cL_put 0 = .ok (.aload 5, 2) := by decide +kernel
theorem dL_put_2 : decode cL_put 2 = .ok (.iconst 0, 1) := by decide +kernel
theorem dL_put_3 : decode cL_put 3 = .ok (.aload_n 0, 1) := by decide +kernel
theorem dL_put_4 : decode cL_put 4 = .ok (.iload_n 1, 1) := by decide +kernel
theorem dL_put_5 : decode cL_put 5 = .ok (.iload_n 2, 1) := by decide +kernel
theorem dL_put_6 : decode cL_put 6 = .ok (.iload_n 3, 1) := by decide +kernel
theorem dL_put_7 : decode cL_put 7 = .ok (.iload 4, 2) := by decide +kernel
theorem dL_put_9 : decode cL_put 9 = .ok (.invokevirtual 125, 3) := by decide +kernel
theorem dL_put_12 : decode cL_put 12 = .ok (.i2l, 1) := by decide +kernel
theorem dL_put_13 : decode cL_put 13 = .ok (.lastore, 1) := by decide +kernel
theorem dL_put_14 : decode cL_put 14 = .ok (.goto 7, 3) := by decide +kernel
theorem dL_put_17 : decode cL_put 17 = .ok (.astore 6, 2) := by decide +kernel
theorem dL_put_19 : decode cL_put 19 = .ok (.iconst 1, 1) := by decide +kernel
theorem dL_put_20 : decode cL_put 20 = .ok (.ireturn, 1) := by decide +kernel
theorem dL_put_21 : decode cL_put 21 = .ok (.iconst 0, 1) := by decide +kernel
theorem dL_put_22 : decode cL_put 22 = .ok (.ireturn, 1) := by decide +kernel
theorem dL_setRow_0 : decode cL_setRow 0 = .ok (.aload 5, 2) := by decide +kernel
theorem dL_setRow_2 : decode cL_setRow 2 = .ok (.iconst 0, 1) := by decide +kernel
theorem dL_setRow_3 : decode cL_setRow 3 = .ok (.aload_n 0, 1) := by decide +kernel
theorem dL_setRow_4 : decode cL_setRow 4 = .ok (.iload_n 1, 1) := by decide +kernel
theorem dL_setRow_5 : decode cL_setRow 5 = .ok (.iload_n 2, 1) := by decide +kernel
theorem dL_setRow_6 : decode cL_setRow 6 = .ok (.lload_n 3, 1) := by decide +kernel
theorem dL_setRow_7 : decode cL_setRow 7 = .ok (.invokevirtual 129, 3) := by decide +kernel
theorem dL_setRow_10 : decode cL_setRow 10 = .ok (.i2l, 1) := by decide +kernel
theorem dL_setRow_11 : decode cL_setRow 11 = .ok (.lastore, 1) := by decide +kernel
theorem dL_setRow_12 : decode cL_setRow 12 = .ok (.goto 7, 3) := by decide +kernel
theorem dL_setRow_15 : decode cL_setRow 15 = .ok (.astore 6, 2) := by decide +kernel
theorem dL_setRow_17 : decode cL_setRow 17 = .ok (.iconst 1, 1) := by decide +kernel
theorem dL_setRow_18 : decode cL_setRow 18 = .ok (.ireturn, 1) := by decide +kernel
theorem dL_setRow_19 : decode cL_setRow 19 = .ok (.iconst 0, 1) := by decide +kernel
theorem dL_setRow_20 : decode cL_setRow 20 = .ok (.ireturn, 1) := by decide +kernel
theorem dL_copy_0 : decode cL_copy 0 = .ok (.aload_n 3, 1) := by decide +kernel
theorem dL_copy_1 : decode cL_copy 1 = .ok (.iconst 0, 1) := by decide +kernel
theorem dL_copy_2 : decode cL_copy 2 = .ok (.aload_n 0, 1) := by decide +kernel
theorem dL_copy_3 : decode cL_copy 3 = .ok (.iload_n 1, 1) := by decide +kernel
theorem dL_copy_4 : decode cL_copy 4 = .ok (.iload_n 2, 1) := by decide +kernel
theorem dL_copy_5 : decode cL_copy 5 = .ok (.invokevirtual 133, 3) := by decide +kernel
theorem dL_copy_8 : decode cL_copy 8 = .ok (.i2l, 1) := by decide +kernel
theorem dL_copy_9 : decode cL_copy 9 = .ok (.lastore, 1) := by decide +kernel
theorem dL_copy_10 : decode cL_copy 10 = .ok (.goto 7, 3) := by decide +kernel
theorem dL_copy_13 : decode cL_copy 13 = .ok (.astore 4, 2) := by decide +kernel
theorem dL_copy_15 : decode cL_copy 15 = .ok (.iconst 1, 1) := by decide +kernel
theorem dL_copy_16 : decode cL_copy 16 = .ok (.ireturn, 1) := by decide +kernel
theorem dL_copy_17 : decode cL_copy 17 = .ok (.iconst 0, 1) := by decide +kernel
theorem dL_copy_18 : decode cL_copy 18 = .ok (.ireturn, 1) := by decide +kernel
theorem dL_transpose_0 : decode cL_transpose 0 = .ok (.aload_n 3, 1) := by decide +kernel
theorem dL_transpose_1 : decode cL_transpose 1 = .ok (.iconst 0, 1) := by decide +kernel
theorem dL_transpose_2 : decode cL_transpose 2 = .ok (.aload_n 0, 1) := by decide +kernel
theorem dL_transpose_3 : decode cL_transpose 3 = .ok (.iload_n 1, 1) := by decide +kernel
theorem dL_transpose_4 : decode cL_transpose 4 = .ok (.iload_n 2, 1) := by decide +kernel
theorem dL_transpose_5 : decode cL_transpose 5 = .ok (.invokevirtual 136, 3) := by decide +kernel
theorem dL_transpose_8 : decode cL_transpose 8 = .ok (.i2l, 1) := by decide +kernel
theorem dL_transpose_9 : decode cL_transpose 9 = .ok (.lastore, 1) := by decide +kernel
theorem dL_transpose_10 : decode cL_transpose 10 = .ok (.goto 7, 3) := by decide +kernel
theorem dL_transpose_13 : decode cL_transpose 13 = .ok (.astore 4, 2) := by decide +kernel
theorem dL_transpose_15 : decode cL_transpose 15 = .ok (.iconst 1, 1) := by decide +kernel
theorem dL_transpose_16 : decode cL_transpose 16 = .ok (.ireturn, 1) := by decide +kernel
theorem dL_transpose_17 : decode cL_transpose 17 = .ok (.iconst 0, 1) := by decide +kernel
theorem dL_transpose_18 : decode cL_transpose 18 = .ok (.ireturn, 1) := by decide +kernel
theorem dL_combine_0 : decode cL_combine 0 = .ok (.aload 5, 2) := by decide +kernel
theorem dL_combine_2 : decode cL_combine 2 = .ok (.iconst 0, 1) := by decide +kernel
theorem dL_combine_3 : decode cL_combine 3 = .ok (.aload_n 0, 1) := by decide +kernel
theorem dL_combine_4 : decode cL_combine 4 = .ok (.iload_n 1, 1) := by decide +kernel
theorem dL_combine_5 : decode cL_combine 5 = .ok (.iload_n 2, 1) := by decide +kernel
theorem dL_combine_6 : decode cL_combine 6 = .ok (.iload_n 3, 1) := by decide +kernel
theorem dL_combine_7 : decode cL_combine 7 = .ok (.iload 4, 2) := by decide +kernel
theorem dL_combine_9 : decode cL_combine 9 = .ok (.invokevirtual 139, 3) := by decide +kernel
theorem dL_combine_12 : decode cL_combine 12 = .ok (.i2l, 1) := by decide +kernel
theorem dL_combine_13 : decode cL_combine 13 = .ok (.lastore, 1) := by decide +kernel
theorem dL_combine_14 : decode cL_combine 14 = .ok (.goto 11, 3) := by decide +kernel
theorem dL_combine_17 : decode cL_combine 17 = .ok (.astore 6, 2) := by decide +kernel
theorem dL_combine_19 : decode cL_combine 19 = .ok (.iconst 1, 1) := by decide +kernel
theorem dL_combine_20 : decode cL_combine 20 = .ok (.ireturn, 1) := by decide +kernel
theorem dL_combine_21 : decode cL_combine 21 = .ok (.astore 6, 2) := by decide +kernel
theorem dL_combine_23 : decode cL_combine 23 = .ok (.iconst 2, 1) := by decide +kernel
theorem dL_combine_24 : decode cL_combine 24 = .ok (.ireturn, 1) := by decide +kernel
theorem dL_combine_25 : decode cL_combine 25 = .ok (.iconst 0, 1) := by decide +kernel
theorem dL_combine_26 : decode cL_combine 26 = .ok (.ireturn, 1) := by decide +kernel
theorem dL_product_0 : decode cL_product 0 = .ok (.aload 5, 2) := by decide +kernel
theorem dL_product_2 : decode cL_product 2 = .ok (.iconst 0, 1) := by decide +kernel
theorem dL_product_3 : decode cL_product 3 = .ok (.aload_n 0, 1) := by decide +kernel
theorem dL_product_4 : decode cL_product 4 = .ok (.iload_n 1, 1) := by decide +kernel
theorem dL_product_5 : decode cL_product 5 = .ok (.iload_n 2, 1) := by decide +kernel
theorem dL_product_6 : decode cL_product 6 = .ok (.iload_n 3, 1) := by decide +kernel
theorem dL_product_7 : decode cL_product 7 = .ok (.iload 4, 2) := by decide +kernel
theorem dL_product_9 : decode cL_product 9 = .ok (.invokevirtual 142, 3) := by decide +kernel
theorem dL_product_12 : decode cL_product 12 = .ok (.i2l, 1) := by decide +kernel
theorem dL_product_13 : decode cL_product 13 = .ok (.lastore, 1) := by decide +kernel
theorem dL_product_14 : decode cL_product 14 = .ok (.goto 7, 3) := by decide +kernel
theorem dL_product_17 : decode cL_product 17 = .ok (.astore 6, 2) := by decide +kernel
theorem dL_product_19 : decode cL_product 19 = .ok (.iconst 1, 1) := by decide +kernel
theorem dL_product_20 : decode cL_product 20 = .ok (.ireturn, 1) := by decide +kernel
theorem dL_product_21 : decode cL_product 21 = .ok (.iconst 0, 1) := by decide +kernel
theorem dL_product_22 : decode cL_product 22 = .ok (.ireturn, 1) := by decide +kernel
theorem dL_power_0 : decode cL_power 0 = .ok (.aload 5, 2) := by decide +kernel
theorem dL_power_2 : decode cL_power 2 = .ok (.iconst 0, 1) := by decide +kernel
theorem dL_power_3 : decode cL_power 3 = .ok (.aload_n 0, 1) := by decide +kernel
theorem dL_power_4 : decode cL_power 4 = .ok (.iload_n 1, 1) := by decide +kernel
theorem dL_power_5 : decode cL_power 5 = .ok (.iload_n 2, 1) := by decide +kernel
theorem dL_power_6 : decode cL_power 6 = .ok (.iload_n 3, 1) := by decide +kernel
theorem dL_power_7 : decode cL_power 7 = .ok (.iload 4, 2) := by decide +kernel
theorem dL_power_9 : decode cL_power 9 = .ok (.invokevirtual 145, 3) := by decide +kernel
theorem dL_power_12 : decode cL_power 12 = .ok (.i2l, 1) := by decide +kernel
theorem dL_power_13 : decode cL_power 13 = .ok (.lastore, 1) := by decide +kernel
theorem dL_power_14 : decode cL_power 14 = .ok (.goto 11, 3) := by decide +kernel
theorem dL_power_17 : decode cL_power 17 = .ok (.astore 6, 2) := by decide +kernel
theorem dL_power_19 : decode cL_power 19 = .ok (.iconst 1, 1) := by decide +kernel
theorem dL_power_20 : decode cL_power 20 = .ok (.ireturn, 1) := by decide +kernel
theorem dL_power_21 : decode cL_power 21 = .ok (.astore 6, 2) := by decide +kernel
theorem dL_power_23 : decode cL_power 23 = .ok (.iconst 2, 1) := by decide +kernel
theorem dL_power_24 : decode cL_power 24 = .ok (.ireturn, 1) := by decide +kernel
theorem dL_power_25 : decode cL_power 25 = .ok (.iconst 0, 1) := by decide +kernel
theorem dL_power_26 : decode cL_power 26 = .ok (.ireturn, 1) := by decide +kernel
theorem dL_invert_0 : decode cL_invert 0 = .ok (.aload_n 3, 1) := by decide +kernel
theorem dL_invert_1 : decode cL_invert 1 = .ok (.iconst 0, 1) := by decide +kernel
theorem dL_invert_2 : decode cL_invert 2 = .ok (.aload_n 0, 1) := by decide +kernel
theorem dL_invert_3 : decode cL_invert 3 = .ok (.iload_n 1, 1) := by decide +kernel
theorem dL_invert_4 : decode cL_invert 4 = .ok (.iload_n 2, 1) := by decide +kernel
theorem dL_invert_5 : decode cL_invert 5 = .ok (.invokevirtual 148, 3) := by decide +kernel
theorem dL_invert_8 : decode cL_invert 8 = .ok (.i2l, 1) := by decide +kernel
theorem dL_invert_9 : decode cL_invert 9 = .ok (.lastore, 1) := by decide +kernel
theorem dL_invert_10 : decode cL_invert 10 = .ok (.goto 7, 3) := by decide +kernel
theorem dL_invert_13 : decode cL_invert 13 = .ok (.astore 4, 2) := by decide +kernel
theorem dL_invert_15 : decode cL_invert 15 = .ok (.iconst 1, 1) := by decide +kernel
theorem dL_invert_16 : decode cL_invert 16 = .ok (.ireturn, 1) := by decide +kernel
theorem dL_invert_17 : decode cL_invert 17 = .ok (.iconst 0, 1) := by decide +kernel
theorem dL_invert_18 : decode cL_invert 18 = .ok (.ireturn, 1) := by decide +kernel
theorem dL_close_0 : decode cL_close 0 = .ok (.aload_n 3, 1) := by decide +kernel
theorem dL_close_1 : decode cL_close 1 = .ok (.iconst 0, 1) := by decide +kernel
theorem dL_close_2 : decode cL_close 2 = .ok (.aload_n 0, 1) := by decide +kernel
theorem dL_close_3 : decode cL_close 3 = .ok (.iload_n 1, 1) := by decide +kernel
theorem dL_close_4 : decode cL_close 4 = .ok (.iload_n 2, 1) := by decide +kernel
theorem dL_close_5 : decode cL_close 5 = .ok (.invokevirtual 151, 3) := by decide +kernel
theorem dL_close_8 : decode cL_close 8 = .ok (.i2l, 1) := by decide +kernel
theorem dL_close_9 : decode cL_close 9 = .ok (.lastore, 1) := by decide +kernel
theorem dL_close_10 : decode cL_close 10 = .ok (.goto 7, 3) := by decide +kernel
theorem dL_close_13 : decode cL_close 13 = .ok (.astore 4, 2) := by decide +kernel
theorem dL_close_15 : decode cL_close 15 = .ok (.iconst 1, 1) := by decide +kernel
theorem dL_close_16 : decode cL_close 16 = .ok (.ireturn, 1) := by decide +kernel
theorem dL_close_17 : decode cL_close 17 = .ok (.iconst 0, 1) := by decide +kernel
theorem dL_close_18 : decode cL_close 18 = .ok (.ireturn, 1) := by decide +kernel
theorem dL_reduce_0 : decode cL_reduce 0 = .ok (.aload_n 3, 1) := by decide +kernel
theorem dL_reduce_1 : decode cL_reduce 1 = .ok (.iconst 0, 1) := by decide +kernel
theorem dL_reduce_2 : decode cL_reduce 2 = .ok (.aload_n 0, 1) := by decide +kernel
theorem dL_reduce_3 : decode cL_reduce 3 = .ok (.iload_n 1, 1) := by decide +kernel
theorem dL_reduce_4 : decode cL_reduce 4 = .ok (.iload_n 2, 1) := by decide +kernel
theorem dL_reduce_5 : decode cL_reduce 5 = .ok (.invokevirtual 154, 3) := by decide +kernel
theorem dL_reduce_8 : decode cL_reduce 8 = .ok (.i2l, 1) := by decide +kernel
theorem dL_reduce_9 : decode cL_reduce 9 = .ok (.lastore, 1) := by decide +kernel
theorem dL_reduce_10 : decode cL_reduce 10 = .ok (.goto 7, 3) := by decide +kernel
theorem dL_reduce_13 : decode cL_reduce 13 = .ok (.astore 4, 2) := by decide +kernel
theorem dL_reduce_15 : decode cL_reduce 15 = .ok (.iconst 1, 1) := by decide +kernel
theorem dL_reduce_16 : decode cL_reduce 16 = .ok (.ireturn, 1) := by decide +kernel
theorem dL_reduce_17 : decode cL_reduce 17 = .ok (.iconst 0, 1) := by decide +kernel
theorem dL_reduce_18 : decode cL_reduce 18 = .ok (.ireturn, 1) := by decide +kernel
theorem dL_exchange_0 : decode cL_exchange 0 = .ok (.aload 4, 2) := by decide +kernel
theorem dL_exchange_2 : decode cL_exchange 2 = .ok (.iconst 0, 1) := by decide +kernel
theorem dL_exchange_3 : decode cL_exchange 3 = .ok (.aload_n 0, 1) := by decide +kernel
theorem dL_exchange_4 : decode cL_exchange 4 = .ok (.iload_n 1, 1) := by decide +kernel
theorem dL_exchange_5 : decode cL_exchange 5 = .ok (.iload_n 2, 1) := by decide +kernel
theorem dL_exchange_6 : decode cL_exchange 6 = .ok (.iload_n 3, 1) := by decide +kernel
theorem dL_exchange_7 : decode cL_exchange 7 = .ok (.invokevirtual 157, 3) := by decide +kernel
theorem dL_exchange_10 : decode cL_exchange 10 = .ok (.i2l, 1) := by decide +kernel
theorem dL_exchange_11 : decode cL_exchange 11 = .ok (.lastore, 1) := by decide +kernel
theorem dL_exchange_12 : decode cL_exchange 12 = .ok (.goto 7, 3) := by decide +kernel
theorem dL_exchange_15 : decode cL_exchange 15 = .ok (.astore 5, 2) := by decide +kernel
theorem dL_exchange_17 : decode cL_exchange 17 = .ok (.iconst 1, 1) := by decide +kernel
theorem dL_exchange_18 : decode cL_exchange 18 = .ok (.ireturn, 1) := by decide +kernel
theorem dL_exchange_19 : decode cL_exchange 19 = .ok (.iconst 0, 1) := by decide +kernel
theorem dL_exchange_20 : decode cL_exchange 20 = .ok (.ireturn, 1) := by decide +kernel
theorem dL_keep_0 : decode cL_keep 0 = .ok (.aload_n 3, 1) := by decide +kernel
theorem dL_keep_1 : decode cL_keep 1 = .ok (.iconst 0, 1) := by decide +kernel
theorem dL_keep_2 : decode cL_keep 2 = .ok (.aload_n 0, 1) := by decide +kernel
theorem dL_keep_3 : decode cL_keep 3 = .ok (.iload_n 1, 1) := by decide +kernel
theorem dL_keep_4 : decode cL_keep 4 = .ok (.iload_n 2, 1) := by decide +kernel
theorem dL_keep_5 : decode cL_keep 5 = .ok (.invokevirtual 160, 3) := by decide +kernel
theorem dL_keep_8 : decode cL_keep 8 = .ok (.i2l, 1) := by decide +kernel
theorem dL_keep_9 : decode cL_keep 9 = .ok (.lastore, 1) := by decide +kernel
theorem dL_keep_10 : decode cL_keep 10 = .ok (.goto 7, 3) := by decide +kernel
theorem dL_keep_13 : decode cL_keep 13 = .ok (.astore 4, 2) := by decide +kernel
theorem dL_keep_15 : decode cL_keep 15 = .ok (.iconst 1, 1) := by decide +kernel
theorem dL_keep_16 : decode cL_keep 16 = .ok (.ireturn, 1) := by decide +kernel
theorem dL_keep_17 : decode cL_keep 17 = .ok (.iconst 0, 1) := by decide +kernel
theorem dL_keep_18 : decode cL_keep 18 = .ok (.ireturn, 1) := by decide +kernel
theorem dL_setBlock_0 : decode cL_setBlock 0 = .ok (.aload_n 2, 1) := by decide +kernel
theorem dL_setBlock_1 : decode cL_setBlock 1 = .ok (.iconst 0, 1) := by decide +kernel
theorem dL_setBlock_2 : decode cL_setBlock 2 = .ok (.aload_n 0, 1) := by decide +kernel
theorem dL_setBlock_3 : decode cL_setBlock 3 = .ok (.iload_n 1, 1) := by decide +kernel
theorem dL_setBlock_4 : decode cL_setBlock 4 = .ok (.invokevirtual 164, 3) := by decide +kernel
theorem dL_setBlock_7 : decode cL_setBlock 7 = .ok (.i2l, 1) := by decide +kernel
theorem dL_setBlock_8 : decode cL_setBlock 8 = .ok (.lastore, 1) := by decide +kernel
theorem dL_setBlock_9 : decode cL_setBlock 9 = .ok (.goto 6, 3) := by decide +kernel
theorem dL_setBlock_12 : decode cL_setBlock 12 = .ok (.astore_n 3, 1) := by decide +kernel
theorem dL_setBlock_13 : decode cL_setBlock 13 = .ok (.iconst 1, 1) := by decide +kernel
theorem dL_setBlock_14 : decode cL_setBlock 14 = .ok (.ireturn, 1) := by decide +kernel
theorem dL_setBlock_15 : decode cL_setBlock 15 = .ok (.iconst 0, 1) := by decide +kernel
theorem dL_setBlock_16 : decode cL_setBlock 16 = .ok (.ireturn, 1) := by decide +kernel
theorem dL_kept_0 : decode cL_kept 0 = .ok (.aload_n 3, 1) := by decide +kernel
theorem dL_kept_1 : decode cL_kept 1 = .ok (.iconst 0, 1) := by decide +kernel
theorem dL_kept_2 : decode cL_kept 2 = .ok (.aload_n 0, 1) := by decide +kernel
theorem dL_kept_3 : decode cL_kept 3 = .ok (.iload_n 1, 1) := by decide +kernel
theorem dL_kept_4 : decode cL_kept 4 = .ok (.iload_n 2, 1) := by decide +kernel
theorem dL_kept_5 : decode cL_kept 5 = .ok (.invokevirtual 167, 3) := by decide +kernel
theorem dL_kept_8 : decode cL_kept 8 = .ok (.i2l, 1) := by decide +kernel
theorem dL_kept_9 : decode cL_kept 9 = .ok (.lastore, 1) := by decide +kernel
theorem dL_kept_10 : decode cL_kept 10 = .ok (.goto 11, 3) := by decide +kernel
theorem dL_kept_13 : decode cL_kept 13 = .ok (.astore 4, 2) := by decide +kernel
theorem dL_kept_15 : decode cL_kept 15 = .ok (.iconst 1, 1) := by decide +kernel
theorem dL_kept_16 : decode cL_kept 16 = .ok (.ireturn, 1) := by decide +kernel
theorem dL_kept_17 : decode cL_kept 17 = .ok (.astore 4, 2) := by decide +kernel
theorem dL_kept_19 : decode cL_kept 19 = .ok (.iconst 2, 1) := by decide +kernel
theorem dL_kept_20 : decode cL_kept 20 = .ok (.ireturn, 1) := by decide +kernel
theorem dL_kept_21 : decode cL_kept 21 = .ok (.iconst 0, 1) := by decide +kernel
theorem dL_kept_22 : decode cL_kept 22 = .ok (.ireturn, 1) := by decide +kernel
theorem dL_work_0 : decode cL_work 0 = .ok (.aload_n 2, 1) := by decide +kernel
theorem dL_work_1 : decode cL_work 1 = .ok (.iconst 0, 1) := by decide +kernel
theorem dL_work_2 : decode cL_work 2 = .ok (.aload_n 0, 1) := by decide +kernel
theorem dL_work_3 : decode cL_work 3 = .ok (.iload_n 1, 1) := by decide +kernel
theorem dL_work_4 : decode cL_work 4 = .ok (.invokevirtual 170, 3) := by decide +kernel
theorem dL_work_7 : decode cL_work 7 = .ok (.i2l, 1) := by decide +kernel
theorem dL_work_8 : decode cL_work 8 = .ok (.lastore, 1) := by decide +kernel
theorem dL_work_9 : decode cL_work 9 = .ok (.goto 6, 3) := by decide +kernel
theorem dL_work_12 : decode cL_work 12 = .ok (.astore_n 3, 1) := by decide +kernel
theorem dL_work_13 : decode cL_work 13 = .ok (.iconst 1, 1) := by decide +kernel
theorem dL_work_14 : decode cL_work 14 = .ok (.ireturn, 1) := by decide +kernel
theorem dL_work_15 : decode cL_work 15 = .ok (.iconst 0, 1) := by decide +kernel
theorem dL_work_16 : decode cL_work 16 = .ok (.ireturn, 1) := by decide +kernel
theorem dL_writeRow_0 : decode cL_writeRow 0 = .ok (.aload_n 3, 1) := by decide +kernel
theorem dL_writeRow_1 : decode cL_writeRow 1 = .ok (.iconst 0, 1) := by decide +kernel
theorem dL_writeRow_2 : decode cL_writeRow 2 = .ok (.aload_n 0, 1) := by decide +kernel
theorem dL_writeRow_3 : decode cL_writeRow 3 = .ok (.iload_n 1, 1) := by decide +kernel
theorem dL_writeRow_4 : decode cL_writeRow 4 = .ok (.iload_n 2, 1) := by decide +kernel
theorem dL_writeRow_5 : decode cL_writeRow 5 = .ok (.invokevirtual 173, 3) := by decide +kernel
theorem dL_writeRow_8 : decode cL_writeRow 8 = .ok (.i2l, 1) := by decide +kernel
theorem dL_writeRow_9 : decode cL_writeRow 9 = .ok (.lastore, 1) := by decide +kernel
theorem dL_writeRow_10 : decode cL_writeRow 10 = .ok (.goto 7, 3) := by decide +kernel
theorem dL_writeRow_13 : decode cL_writeRow 13 = .ok (.astore 4, 2) := by decide +kernel
theorem dL_writeRow_15 : decode cL_writeRow 15 = .ok (.iconst 1, 1) := by decide +kernel
theorem dL_writeRow_16 : decode cL_writeRow 16 = .ok (.ireturn, 1) := by decide +kernel
theorem dL_writeRow_17 : decode cL_writeRow 17 = .ok (.iconst 0, 1) := by decide +kernel
theorem dL_writeRow_18 : decode cL_writeRow 18 = .ok (.ireturn, 1) := by decide +kernel
theorem dL_saveSnapshot_0 : decode cL_saveSnapshot 0 = .ok (.aload_n 2, 1) := by decide +kernel
theorem dL_saveSnapshot_1 : decode cL_saveSnapshot 1 = .ok (.iconst 0, 1) := by decide +kernel
theorem dL_saveSnapshot_2 : decode cL_saveSnapshot 2 = .ok (.aload_n 0, 1) := by decide +kernel
theorem dL_saveSnapshot_3 : decode cL_saveSnapshot 3 = .ok (.iload_n 1, 1) := by decide +kernel
theorem dL_saveSnapshot_4 : decode cL_saveSnapshot 4 = .ok (.invokevirtual 176, 3) := by decide +kernel
theorem dL_saveSnapshot_7 : decode cL_saveSnapshot 7 = .ok (.i2l, 1) := by decide +kernel
theorem dL_saveSnapshot_8 : decode cL_saveSnapshot 8 = .ok (.lastore, 1) := by decide +kernel
theorem dL_saveSnapshot_9 : decode cL_saveSnapshot 9 = .ok (.goto 6, 3) := by decide +kernel
theorem dL_saveSnapshot_12 : decode cL_saveSnapshot 12 = .ok (.astore_n 3, 1) := by decide +kernel
theorem dL_saveSnapshot_13 : decode cL_saveSnapshot 13 = .ok (.iconst 1, 1) := by decide +kernel
theorem dL_saveSnapshot_14 : decode cL_saveSnapshot 14 = .ok (.ireturn, 1) := by decide +kernel
theorem dL_saveSnapshot_15 : decode cL_saveSnapshot 15 = .ok (.iconst 0, 1) := by decide +kernel
theorem dL_saveSnapshot_16 : decode cL_saveSnapshot 16 = .ok (.ireturn, 1) := by decide +kernel
theorem dL_restoreSnapshot_0 : decode cL_restoreSnapshot 0 = .ok (.aload_n 2, 1) := by decide +kernel
theorem dL_restoreSnapshot_1 : decode cL_restoreSnapshot 1 = .ok (.iconst 0, 1) := by decide +kernel
theorem dL_restoreSnapshot_2 : decode cL_restoreSnapshot 2 = .ok (.aload_n 0, 1) := by decide +kernel
theorem dL_restoreSnapshot_3 : decode cL_restoreSnapshot 3 = .ok (.iload_n 1, 1) := by decide +kernel
theorem dL_restoreSnapshot_4 : decode cL_restoreSnapshot 4 = .ok (.invokevirtual 179, 3) := by decide +kernel
theorem dL_restoreSnapshot_7 : decode cL_restoreSnapshot 7 = .ok (.i2l, 1) := by decide +kernel
theorem dL_restoreSnapshot_8 : decode cL_restoreSnapshot 8 = .ok (.lastore, 1) := by decide +kernel
theorem dL_restoreSnapshot_9 : decode cL_restoreSnapshot 9 = .ok (.goto 6, 3) := by decide +kernel
theorem dL_restoreSnapshot_12 : decode cL_restoreSnapshot 12 = .ok (.astore_n 3, 1) := by decide +kernel
theorem dL_restoreSnapshot_13 : decode cL_restoreSnapshot 13 = .ok (.iconst 1, 1) := by decide +kernel
theorem dL_restoreSnapshot_14 : decode cL_restoreSnapshot 14 = .ok (.ireturn, 1) := by decide +kernel
theorem dL_restoreSnapshot_15 : decode cL_restoreSnapshot 15 = .ok (.iconst 0, 1) := by decide +kernel
theorem dL_restoreSnapshot_16 : decode cL_restoreSnapshot 16 = .ok (.ireturn, 1) := by decide +kernel
def lTL_86 : List UInt8 := [132, 5, 5, 167, 245, 89, 4, 172]
def lTL_85 : List UInt8 := [172, 167, 0, 31, 43, 42, 21, 5, 4, 96, 46, 45, 184, 1, 125, 54, 6, 44, 42, 21, 5, 4, 96, 46, 182, 1, 127, 54, 7, 167, 0, 3] ++ lTL_86
def lTL_84 : List UInt8 := [182, 1, 121, 54, 7, 44, 182, 1, 122, 21, 6, 159, 0, 5, 3, 172, 21, 6, 154, 0, 15, 45, 3, 47, 21, 7, 133, 148, 153, 0, 5, 3] ++ lTL_85
def lTL_83 : List UInt8 := [182, 1, 115, 87, 44, 182, 1, 118, 87, 167, 0, 87, 43, 42, 21, 5, 4, 96, 46, 45, 184, 1, 119, 54, 6, 44, 42, 21, 5, 4, 96, 46] ++ lTL_84
def lTL_82 : List UInt8 := [110, 54, 7, 167, 0, 125, 43, 42, 21, 5, 4, 96, 46, 182, 1, 111, 87, 44, 42, 21, 5, 4, 96, 46, 182, 1, 114, 87, 167, 0, 100, 43] ++ lTL_83
def lTL_81 : List UInt8 := [21, 5, 4, 96, 46, 42, 21, 5, 5, 96, 46, 45, 184, 1, 108, 54, 6, 44, 42, 21, 5, 4, 96, 46, 42, 21, 5, 5, 96, 46, 182, 1] ++ lTL_82
def lTL_80 : List UInt8 := [0, 193, 43, 42, 21, 5, 4, 96, 46, 45, 184, 1, 105, 54, 6, 44, 42, 21, 5, 4, 96, 46, 182, 1, 107, 54, 7, 167, 0, 165, 43, 42] ++ lTL_81
def lTL_79 : List UInt8 := [46, 42, 21, 5, 5, 96, 46, 45, 184, 1, 102, 54, 6, 44, 42, 21, 5, 4, 96, 46, 42, 21, 5, 5, 96, 46, 182, 1, 104, 54, 7, 167] ++ lTL_80
def lTL_78 : List UInt8 := [21, 5, 4, 96, 46, 45, 184, 1, 99, 54, 6, 44, 42, 21, 5, 4, 96, 46, 182, 1, 101, 54, 7, 167, 0, 233, 43, 42, 21, 5, 4, 96] ++ lTL_79
def lTL_77 : List UInt8 := [6, 44, 42, 21, 5, 4, 96, 46, 42, 21, 5, 5, 96, 46, 153, 0, 7, 4, 167, 0, 4, 3, 182, 1, 98, 54, 7, 167, 1, 5, 43, 42] ++ lTL_78
def lTL_76 : List UInt8 := [94, 54, 7, 167, 1, 61, 43, 42, 21, 5, 4, 96, 46, 42, 21, 5, 5, 96, 46, 153, 0, 7, 4, 167, 0, 4, 3, 45, 184, 1, 95, 54] ++ lTL_77
def lTL_75 : List UInt8 := [21, 5, 6, 96, 46, 45, 184, 1, 92, 54, 6, 44, 42, 21, 5, 4, 96, 46, 42, 21, 5, 5, 96, 46, 42, 21, 5, 6, 96, 46, 182, 1] ++ lTL_76
def lTL_74 : List UInt8 := [5, 4, 96, 46, 42, 21, 5, 5, 96, 46, 182, 1, 91, 54, 7, 167, 1, 113, 43, 42, 21, 5, 4, 96, 46, 42, 21, 5, 5, 96, 46, 42] ++ lTL_75
def lTL_73 : List UInt8 := [96, 46, 182, 1, 88, 54, 7, 167, 1, 153, 43, 42, 21, 5, 4, 96, 46, 42, 21, 5, 5, 96, 46, 45, 184, 1, 89, 54, 6, 44, 42, 21] ++ lTL_74
def lTL_72 : List UInt8 := [1, 193, 43, 42, 21, 5, 4, 96, 46, 42, 21, 5, 5, 96, 46, 45, 184, 1, 86, 54, 6, 44, 42, 21, 5, 4, 96, 46, 42, 21, 5, 5] ++ lTL_73
def lTL_71 : List UInt8 := [46, 42, 21, 5, 5, 96, 46, 45, 184, 1, 83, 54, 6, 44, 42, 21, 5, 4, 96, 46, 42, 21, 5, 5, 96, 46, 182, 1, 85, 54, 7, 167] ++ lTL_72
def lTL_70 : List UInt8 := [5, 6, 96, 46, 42, 21, 5, 7, 96, 46, 153, 0, 7, 4, 167, 0, 4, 3, 182, 1, 82, 54, 7, 167, 1, 233, 43, 42, 21, 5, 4, 96] ++ lTL_71
def lTL_69 : List UInt8 := [7, 96, 46, 153, 0, 7, 4, 167, 0, 4, 3, 45, 184, 1, 80, 54, 6, 44, 42, 21, 5, 4, 96, 46, 42, 21, 5, 5, 96, 46, 42, 21] ++ lTL_70
def lTL_68 : List UInt8 := [4, 3, 182, 1, 79, 54, 7, 167, 2, 57, 43, 42, 21, 5, 4, 96, 46, 42, 21, 5, 5, 96, 46, 42, 21, 5, 6, 96, 46, 42, 21, 5] ++ lTL_69
def lTL_67 : List UInt8 := [6, 44, 42, 21, 5, 4, 96, 46, 42, 21, 5, 5, 96, 46, 42, 21, 5, 6, 96, 46, 42, 21, 5, 7, 96, 46, 153, 0, 7, 4, 167, 0] ++ lTL_68
def lTL_66 : List UInt8 := [46, 42, 21, 5, 5, 96, 46, 42, 21, 5, 6, 96, 46, 42, 21, 5, 7, 96, 46, 153, 0, 7, 4, 167, 0, 4, 3, 45, 184, 1, 77, 54] ++ lTL_67
def lTL_65 : List UInt8 := [42, 21, 5, 5, 96, 46, 42, 21, 5, 6, 96, 46, 42, 21, 5, 7, 96, 46, 182, 1, 76, 54, 7, 167, 2, 137, 43, 42, 21, 5, 4, 96] ++ lTL_66
def lTL_64 : List UInt8 := [46, 42, 21, 5, 5, 96, 46, 42, 21, 5, 6, 96, 46, 42, 21, 5, 7, 96, 46, 45, 184, 1, 74, 54, 6, 44, 42, 21, 5, 4, 96, 46] ++ lTL_65
def lTL_63 : List UInt8 := [184, 1, 71, 54, 6, 44, 42, 21, 5, 4, 96, 46, 42, 21, 5, 5, 96, 46, 182, 1, 73, 54, 7, 167, 2, 201, 43, 42, 21, 5, 4, 96] ++ lTL_64
def lTL_62 : List UInt8 := [5, 4, 96, 46, 42, 21, 5, 5, 96, 46, 182, 1, 70, 54, 7, 167, 2, 241, 43, 42, 21, 5, 4, 96, 46, 42, 21, 5, 5, 96, 46, 45] ++ lTL_63
def lTL_61 : List UInt8 := [127, 129, 182, 1, 67, 54, 7, 167, 3, 25, 43, 42, 21, 5, 4, 96, 46, 42, 21, 5, 5, 96, 46, 45, 184, 1, 68, 54, 6, 44, 42, 21] ++ lTL_62
def lTL_60 : List UInt8 := [42, 21, 5, 4, 96, 46, 42, 21, 5, 5, 96, 46, 42, 21, 5, 6, 96, 46, 133, 16, 32, 121, 42, 21, 5, 7, 96, 46, 133, 20, 0, 186] ++ lTL_61
def lTL_59 : List UInt8 := [5, 96, 46, 42, 21, 5, 6, 96, 46, 133, 16, 32, 121, 42, 21, 5, 7, 96, 46, 133, 20, 0, 186, 127, 129, 45, 184, 1, 64, 54, 6, 44] ++ lTL_60
def lTL_58 : List UInt8 := [42, 21, 5, 7, 96, 46, 153, 0, 7, 4, 167, 0, 4, 3, 182, 1, 63, 54, 7, 167, 3, 109, 43, 42, 21, 5, 4, 96, 46, 42, 21, 5] ++ lTL_59
def lTL_57 : List UInt8 := [0, 7, 4, 167, 0, 4, 3, 45, 184, 1, 60, 54, 6, 44, 42, 21, 5, 4, 96, 46, 42, 21, 5, 5, 96, 46, 42, 21, 5, 6, 96, 46] ++ lTL_58
def lTL_56 : List UInt8 := [59, 54, 7, 167, 3, 189, 43, 42, 21, 5, 4, 96, 46, 42, 21, 5, 5, 96, 46, 42, 21, 5, 6, 96, 46, 42, 21, 5, 7, 96, 46, 153] ++ lTL_57
def lTL_55 : List UInt8 := [21, 5, 4, 96, 46, 42, 21, 5, 5, 96, 46, 45, 184, 1, 57, 54, 6, 44, 42, 21, 5, 4, 96, 46, 42, 21, 5, 5, 96, 46, 182, 1] ++ lTL_56
def lTL_54 : List UInt8 := [42, 21, 5, 5, 96, 46, 133, 16, 32, 121, 42, 21, 5, 6, 96, 46, 133, 20, 0, 186, 127, 129, 182, 1, 56, 54, 7, 167, 3, 229, 43, 42] ++ lTL_55
def lTL_53 : List UInt8 := [5, 96, 46, 133, 16, 32, 121, 42, 21, 5, 6, 96, 46, 133, 20, 0, 186, 127, 129, 45, 184, 1, 54, 54, 6, 44, 42, 21, 5, 4, 96, 46] ++ lTL_54
def lTL_52 : List UInt8 := [32, 121, 42, 21, 5, 6, 96, 46, 133, 20, 0, 186, 127, 129, 182, 1, 53, 55, 7, 167, 4, 45, 43, 42, 21, 5, 4, 96, 46, 42, 21, 5] ++ lTL_53
def lTL_51 : List UInt8 := [21, 5, 6, 96, 46, 133, 20, 0, 186, 127, 129, 45, 184, 1, 51, 54, 6, 44, 42, 21, 5, 4, 96, 46, 42, 21, 5, 5, 96, 46, 133, 16] ++ lTL_52
def lTL_50 : List UInt8 := [42, 21, 5, 4, 96, 46, 182, 1, 50, 54, 7, 167, 4, 117, 43, 42, 21, 5, 4, 96, 46, 42, 21, 5, 5, 96, 46, 133, 16, 32, 121, 42] ++ lTL_51
def lTL_49 : List UInt8 := [45, 54, 6, 44, 42, 21, 5, 4, 96, 46, 182, 1, 47, 54, 7, 167, 4, 145, 43, 42, 21, 5, 4, 96, 46, 45, 184, 1, 48, 54, 6, 44] ++ lTL_50
def lTL_48 : List UInt8 := [46, 45, 184, 1, 42, 54, 6, 44, 42, 21, 5, 4, 96, 46, 182, 1, 44, 54, 7, 167, 4, 173, 43, 42, 21, 5, 4, 96, 46, 45, 184, 1] ++ lTL_49
def lTL_47 : List UInt8 := [21, 5, 4, 96, 46, 45, 184, 1, 39, 54, 6, 44, 42, 21, 5, 4, 96, 46, 182, 1, 41, 54, 7, 167, 4, 201, 43, 42, 21, 5, 4, 96] ++ lTL_48
def lTL_46 : List UInt8 := [36, 54, 6, 44, 42, 21, 5, 4, 96, 46, 42, 21, 5, 5, 96, 46, 42, 21, 5, 6, 96, 46, 182, 1, 38, 54, 7, 167, 4, 229, 43, 42] ++ lTL_47
def lTL_45 : List UInt8 := [96, 46, 182, 1, 35, 54, 7, 167, 5, 25, 43, 42, 21, 5, 4, 96, 46, 42, 21, 5, 5, 96, 46, 42, 21, 5, 6, 96, 46, 45, 184, 1] ++ lTL_46
def lTL_44 : List UInt8 := [5, 96, 46, 42, 21, 5, 6, 96, 46, 45, 184, 1, 33, 54, 6, 44, 42, 21, 5, 4, 96, 46, 42, 21, 5, 5, 96, 46, 42, 21, 5, 6] ++ lTL_45
def lTL_43 : List UInt8 := [6, 44, 42, 21, 5, 4, 96, 46, 42, 21, 5, 5, 96, 46, 182, 1, 32, 54, 7, 167, 5, 77, 43, 42, 21, 5, 4, 96, 46, 42, 21, 5] ++ lTL_44
def lTL_42 : List UInt8 := [42, 21, 5, 4, 96, 46, 182, 1, 29, 54, 7, 167, 5, 117, 43, 42, 21, 5, 4, 96, 46, 42, 21, 5, 5, 96, 46, 45, 184, 1, 30, 54] ++ lTL_43
def lTL_41 : List UInt8 := [5, 4, 96, 46, 42, 21, 5, 5, 96, 46, 182, 1, 26, 54, 7, 167, 5, 145, 43, 42, 21, 5, 4, 96, 46, 45, 184, 1, 27, 54, 6, 44] ++ lTL_42
def lTL_40 : List UInt8 := [96, 46, 182, 1, 23, 54, 7, 167, 5, 185, 43, 42, 21, 5, 4, 96, 46, 42, 21, 5, 5, 96, 46, 45, 184, 1, 24, 54, 6, 44, 42, 21] ++ lTL_41
def lTL_39 : List UInt8 := [7, 96, 46, 45, 184, 1, 20, 54, 6, 44, 42, 21, 5, 4, 96, 46, 42, 21, 5, 5, 96, 46, 42, 21, 5, 6, 96, 46, 42, 21, 5, 7] ++ lTL_40
def lTL_38 : List UInt8 := [96, 46, 182, 1, 19, 54, 7, 167, 5, 249, 43, 42, 21, 5, 4, 96, 46, 42, 21, 5, 5, 96, 46, 42, 21, 5, 6, 96, 46, 42, 21, 5] ++ lTL_39
def lTL_37 : List UInt8 := [5, 96, 46, 42, 21, 5, 6, 96, 46, 45, 184, 1, 17, 54, 6, 44, 42, 21, 5, 4, 96, 46, 42, 21, 5, 5, 96, 46, 42, 21, 5, 6] ++ lTL_38
def lTL_36 : List UInt8 := [46, 45, 184, 1, 14, 54, 6, 44, 42, 21, 5, 4, 96, 46, 182, 1, 16, 54, 7, 167, 6, 45, 43, 42, 21, 5, 4, 96, 46, 42, 21, 5] ++ lTL_37
def lTL_35 : List UInt8 := [184, 1, 11, 54, 6, 44, 42, 21, 5, 4, 96, 46, 42, 21, 5, 5, 96, 46, 182, 1, 13, 54, 7, 167, 6, 73, 43, 42, 21, 5, 4, 96] ++ lTL_36
def lTL_34 : List UInt8 := [8, 54, 6, 44, 42, 21, 5, 4, 96, 46, 182, 1, 10, 56, 7, 167, 6, 113, 43, 42, 21, 5, 4, 96, 46, 42, 21, 5, 5, 96, 46, 45] ++ lTL_35
def lTL_33 : List UInt8 := [45, 184, 1, 5, 54, 6, 44, 42, 21, 5, 4, 96, 46, 182, 1, 7, 54, 7, 167, 6, 142, 43, 42, 21, 5, 4, 96, 46, 25, 4, 184, 1] ++ lTL_34
def lTL_32 : List UInt8 := [1, 2, 54, 6, 44, 42, 21, 5, 4, 96, 46, 42, 21, 5, 5, 96, 46, 182, 1, 4, 54, 7, 167, 6, 170, 43, 42, 21, 5, 4, 96, 46] ++ lTL_33
def lTL_31 : List UInt8 := [5, 96, 46, 42, 21, 5, 6, 96, 46, 182, 1, 1, 54, 7, 167, 6, 210, 43, 42, 21, 5, 4, 96, 46, 42, 21, 5, 5, 96, 46, 45, 184] ++ lTL_32
def lTL_30 : List UInt8 := [5, 4, 96, 46, 42, 21, 5, 5, 96, 46, 42, 21, 5, 6, 96, 46, 45, 184, 0, 255, 54, 6, 44, 42, 21, 5, 4, 96, 46, 42, 21, 5] ++ lTL_31
def lTL_29 : List UInt8 := [34, 43, 42, 21, 5, 4, 96, 46, 45, 184, 0, 252, 54, 6, 44, 42, 21, 5, 4, 96, 46, 182, 0, 254, 54, 7, 167, 7, 6, 43, 42, 21] ++ lTL_30
def lTL_28 : List UInt8 := [7, 167, 7, 63, 43, 42, 21, 5, 4, 96, 46, 25, 4, 184, 0, 248, 54, 6, 44, 42, 21, 5, 4, 96, 46, 182, 0, 251, 57, 7, 167, 7] ++ lTL_29
def lTL_27 : List UInt8 := [4, 96, 46, 42, 21, 5, 5, 96, 46, 45, 184, 0, 245, 54, 6, 44, 42, 21, 5, 4, 96, 46, 42, 21, 5, 5, 96, 46, 182, 0, 247, 54] ++ lTL_28
def lTL_26 : List UInt8 := [5, 5, 96, 46, 133, 16, 32, 121, 42, 21, 5, 6, 96, 46, 133, 20, 0, 186, 127, 129, 182, 0, 244, 54, 7, 167, 7, 103, 43, 42, 21, 5] ++ lTL_27
def lTL_25 : List UInt8 := [46, 133, 16, 32, 121, 42, 21, 5, 6, 96, 46, 133, 20, 0, 186, 127, 129, 45, 184, 0, 241, 54, 6, 44, 42, 21, 5, 4, 96, 46, 42, 21] ++ lTL_26
def lTL_24 : List UInt8 := [42, 21, 5, 4, 96, 46, 42, 21, 5, 5, 96, 46, 182, 0, 240, 54, 7, 167, 7, 175, 43, 42, 21, 5, 4, 96, 46, 42, 21, 5, 5, 96] ++ lTL_25
def lTL_23 : List UInt8 := [5, 4, 96, 46, 182, 0, 237, 54, 7, 167, 7, 215, 43, 42, 21, 5, 4, 96, 46, 42, 21, 5, 5, 96, 46, 45, 184, 0, 238, 54, 6, 44] ++ lTL_24
def lTL_22 : List UInt8 := [96, 46, 42, 21, 5, 5, 96, 46, 182, 0, 234, 54, 7, 167, 7, 243, 43, 42, 21, 5, 4, 96, 46, 45, 184, 0, 235, 54, 6, 44, 42, 21] ++ lTL_23
def lTL_21 : List UInt8 := [182, 0, 231, 54, 7, 167, 8, 27, 43, 42, 21, 5, 4, 96, 46, 42, 21, 5, 5, 96, 46, 45, 184, 0, 232, 54, 6, 44, 42, 21, 5, 4] ++ lTL_22
def lTL_20 : List UInt8 := [43, 42, 21, 5, 4, 96, 46, 42, 21, 5, 5, 96, 46, 45, 184, 0, 229, 54, 6, 44, 42, 21, 5, 4, 96, 46, 42, 21, 5, 5, 96, 46] ++ lTL_21
def lTL_19 : List UInt8 := [7, 167, 8, 95, 43, 42, 21, 5, 4, 96, 46, 45, 184, 0, 226, 54, 6, 44, 42, 21, 5, 4, 96, 46, 182, 0, 228, 54, 7, 167, 8, 67] ++ lTL_20
def lTL_18 : List UInt8 := [6, 96, 46, 45, 184, 0, 223, 54, 6, 44, 42, 21, 5, 4, 96, 46, 42, 21, 5, 5, 96, 46, 42, 21, 5, 6, 96, 46, 182, 0, 225, 54] ++ lTL_19
def lTL_17 : List UInt8 := [96, 46, 42, 21, 5, 6, 96, 46, 182, 0, 222, 54, 7, 167, 8, 147, 43, 42, 21, 5, 4, 96, 46, 42, 21, 5, 5, 96, 46, 42, 21, 5] ++ lTL_18
def lTL_16 : List UInt8 := [4, 96, 46, 42, 21, 5, 5, 96, 46, 42, 21, 5, 6, 96, 46, 45, 184, 0, 220, 54, 6, 44, 42, 21, 5, 4, 96, 46, 42, 21, 5, 5] ++ lTL_17
def lTL_15 : List UInt8 := [46, 45, 184, 0, 216, 54, 6, 44, 42, 21, 5, 4, 96, 46, 42, 21, 5, 5, 96, 46, 182, 0, 219, 55, 7, 167, 8, 199, 43, 42, 21, 5] ++ lTL_16
def lTL_14 : List UInt8 := [42, 21, 5, 5, 96, 46, 42, 21, 5, 6, 96, 46, 182, 0, 215, 54, 7, 167, 8, 239, 43, 42, 21, 5, 4, 96, 46, 42, 21, 5, 5, 96] ++ lTL_15
def lTL_13 : List UInt8 := [43, 42, 21, 5, 4, 96, 46, 42, 21, 5, 5, 96, 46, 42, 21, 5, 6, 96, 46, 45, 184, 0, 212, 54, 6, 44, 42, 21, 5, 4, 96, 46] ++ lTL_14
def lTL_12 : List UInt8 := [87, 167, 9, 63, 43, 42, 21, 5, 4, 96, 46, 45, 184, 0, 206, 54, 6, 44, 42, 21, 5, 4, 96, 46, 182, 0, 211, 54, 7, 167, 9, 35] ++ lTL_13
def lTL_11 : List UInt8 := [193, 87, 44, 182, 0, 197, 87, 167, 9, 89, 43, 182, 0, 198, 87, 44, 182, 0, 201, 87, 167, 9, 76, 43, 182, 0, 202, 87, 44, 182, 0, 205] ++ lTL_12
def lTL_10 : List UInt8 := [42, 21, 5, 4, 96, 46, 133, 16, 32, 121, 42, 21, 5, 5, 96, 46, 133, 20, 0, 186, 127, 129, 182, 0, 192, 87, 167, 9, 102, 43, 182, 0] ++ lTL_11
def lTL_9 : List UInt8 := [0, 0, 10, 120, 43, 42, 21, 5, 4, 96, 46, 133, 16, 32, 121, 42, 21, 5, 5, 96, 46, 133, 20, 0, 186, 127, 129, 182, 0, 188, 87, 44] ++ lTL_10
def lTL_8 : List UInt8 := [0, 0, 9, 90, 0, 0, 9, 146, 0, 0, 9, 174, 0, 0, 9, 214, 0, 0, 9, 242, 0, 0, 10, 26, 0, 0, 10, 51, 0, 0, 10, 64] ++ lTL_9
def lTL_7 : List UInt8 := [0, 0, 7, 166, 0, 0, 7, 206, 0, 0, 8, 14, 0, 0, 8, 94, 0, 0, 8, 174, 0, 0, 8, 214, 0, 0, 8, 254, 0, 0, 9, 38] ++ lTL_8
def lTL_6 : List UInt8 := [0, 0, 5, 234, 0, 0, 6, 6, 0, 0, 6, 34, 0, 0, 6, 106, 0, 0, 6, 178, 0, 0, 6, 218, 0, 0, 7, 42, 0, 0, 7, 126] ++ lTL_7
def lTL_5 : List UInt8 := [0, 0, 4, 158, 0, 0, 4, 222, 0, 0, 5, 6, 0, 0, 5, 34, 0, 0, 5, 74, 0, 0, 5, 126, 0, 0, 5, 178, 0, 0, 5, 206] ++ lTL_6
def lTL_4 : List UInt8 := [0, 0, 3, 117, 0, 0, 3, 145, 0, 0, 3, 197, 0, 0, 3, 237, 0, 0, 4, 9, 0, 0, 4, 38, 0, 0, 4, 78, 0, 0, 4, 106] ++ lTL_5
def lTL_3 : List UInt8 := [0, 0, 2, 56, 0, 0, 2, 84, 0, 0, 2, 124, 0, 0, 2, 164, 0, 0, 2, 192, 0, 0, 2, 232, 0, 0, 3, 48, 0, 0, 3, 88] ++ lTL_4
def lTL_2 : List UInt8 := [0, 0, 1, 49, 0, 0, 1, 62, 0, 0, 1, 75, 0, 0, 1, 88, 0, 0, 1, 116, 0, 0, 1, 168, 0, 0, 1, 208, 0, 0, 2, 4] ++ lTL_3
def lTL_1 : List UInt8 := [8, 100, 163, 10, 164, 42, 21, 5, 46, 16, 63, 126, 170, 0, 0, 0, 0, 0, 10, 148, 0, 0, 0, 0, 0, 0, 0, 57, 0, 0, 0, 248] ++ lTL_2
def lTL_0 : List UInt8 := [187, 0, 8, 89, 183, 0, 182, 76, 187, 0, 183, 89, 183, 0, 185, 77, 4, 188, 11, 78, 4, 188, 7, 58, 4, 3, 54, 5, 21, 5, 42, 190] ++ lTL_1
set_option maxRecDepth 100000 in
theorem lDL_0 : cL_law.data.toList.drop 0 = lTL_0 := by decide +kernel
theorem lDL_1 : cL_law.data.toList.drop 32 = lTL_1 := drp9 (c := [187, 0, 8, 89, 183, 0, 182, 76, 187, 0, 183, 89, 183, 0, 185, 77, 4, 188, 11, 78, 4, 188, 7, 58, 4, 3, 54, 5, 21, 5, 42, 190]) 32 lDL_0 rfl
theorem lDL_2 : cL_law.data.toList.drop 64 = lTL_2 := drp9 (c := [8, 100, 163, 10, 164, 42, 21, 5, 46, 16, 63, 126, 170, 0, 0, 0, 0, 0, 10, 148, 0, 0, 0, 0, 0, 0, 0, 57, 0, 0, 0, 248]) 32 lDL_1 rfl
theorem lDL_3 : cL_law.data.toList.drop 96 = lTL_3 := drp9 (c := [0, 0, 1, 49, 0, 0, 1, 62, 0, 0, 1, 75, 0, 0, 1, 88, 0, 0, 1, 116, 0, 0, 1, 168, 0, 0, 1, 208, 0, 0, 2, 4]) 32 lDL_2 rfl
theorem lDL_4 : cL_law.data.toList.drop 128 = lTL_4 := drp9 (c := [0, 0, 2, 56, 0, 0, 2, 84, 0, 0, 2, 124, 0, 0, 2, 164, 0, 0, 2, 192, 0, 0, 2, 232, 0, 0, 3, 48, 0, 0, 3, 88]) 32 lDL_3 rfl
theorem lDL_5 : cL_law.data.toList.drop 160 = lTL_5 := drp9 (c := [0, 0, 3, 117, 0, 0, 3, 145, 0, 0, 3, 197, 0, 0, 3, 237, 0, 0, 4, 9, 0, 0, 4, 38, 0, 0, 4, 78, 0, 0, 4, 106]) 32 lDL_4 rfl
theorem lDL_6 : cL_law.data.toList.drop 192 = lTL_6 := drp9 (c := [0, 0, 4, 158, 0, 0, 4, 222, 0, 0, 5, 6, 0, 0, 5, 34, 0, 0, 5, 74, 0, 0, 5, 126, 0, 0, 5, 178, 0, 0, 5, 206]) 32 lDL_5 rfl
theorem lDL_7 : cL_law.data.toList.drop 224 = lTL_7 := drp9 (c := [0, 0, 5, 234, 0, 0, 6, 6, 0, 0, 6, 34, 0, 0, 6, 106, 0, 0, 6, 178, 0, 0, 6, 218, 0, 0, 7, 42, 0, 0, 7, 126]) 32 lDL_6 rfl
theorem lDL_8 : cL_law.data.toList.drop 256 = lTL_8 := drp9 (c := [0, 0, 7, 166, 0, 0, 7, 206, 0, 0, 8, 14, 0, 0, 8, 94, 0, 0, 8, 174, 0, 0, 8, 214, 0, 0, 8, 254, 0, 0, 9, 38]) 32 lDL_7 rfl
theorem lDL_9 : cL_law.data.toList.drop 288 = lTL_9 := drp9 (c := [0, 0, 9, 90, 0, 0, 9, 146, 0, 0, 9, 174, 0, 0, 9, 214, 0, 0, 9, 242, 0, 0, 10, 26, 0, 0, 10, 51, 0, 0, 10, 64]) 32 lDL_8 rfl
theorem lDL_10 : cL_law.data.toList.drop 320 = lTL_10 := drp9 (c := [0, 0, 10, 120, 43, 42, 21, 5, 4, 96, 46, 133, 16, 32, 121, 42, 21, 5, 5, 96, 46, 133, 20, 0, 186, 127, 129, 182, 0, 188, 87, 44]) 32 lDL_9 rfl
theorem lDL_11 : cL_law.data.toList.drop 352 = lTL_11 := drp9 (c := [42, 21, 5, 4, 96, 46, 133, 16, 32, 121, 42, 21, 5, 5, 96, 46, 133, 20, 0, 186, 127, 129, 182, 0, 192, 87, 167, 9, 102, 43, 182, 0]) 32 lDL_10 rfl
theorem lDL_12 : cL_law.data.toList.drop 384 = lTL_12 := drp9 (c := [193, 87, 44, 182, 0, 197, 87, 167, 9, 89, 43, 182, 0, 198, 87, 44, 182, 0, 201, 87, 167, 9, 76, 43, 182, 0, 202, 87, 44, 182, 0, 205]) 32 lDL_11 rfl
theorem lDL_13 : cL_law.data.toList.drop 416 = lTL_13 := drp9 (c := [87, 167, 9, 63, 43, 42, 21, 5, 4, 96, 46, 45, 184, 0, 206, 54, 6, 44, 42, 21, 5, 4, 96, 46, 182, 0, 211, 54, 7, 167, 9, 35]) 32 lDL_12 rfl
theorem lDL_14 : cL_law.data.toList.drop 448 = lTL_14 := drp9 (c := [43, 42, 21, 5, 4, 96, 46, 42, 21, 5, 5, 96, 46, 42, 21, 5, 6, 96, 46, 45, 184, 0, 212, 54, 6, 44, 42, 21, 5, 4, 96, 46]) 32 lDL_13 rfl
theorem lDL_15 : cL_law.data.toList.drop 480 = lTL_15 := drp9 (c := [42, 21, 5, 5, 96, 46, 42, 21, 5, 6, 96, 46, 182, 0, 215, 54, 7, 167, 8, 239, 43, 42, 21, 5, 4, 96, 46, 42, 21, 5, 5, 96]) 32 lDL_14 rfl
theorem lDL_16 : cL_law.data.toList.drop 512 = lTL_16 := drp9 (c := [46, 45, 184, 0, 216, 54, 6, 44, 42, 21, 5, 4, 96, 46, 42, 21, 5, 5, 96, 46, 182, 0, 219, 55, 7, 167, 8, 199, 43, 42, 21, 5]) 32 lDL_15 rfl
theorem lDL_17 : cL_law.data.toList.drop 544 = lTL_17 := drp9 (c := [4, 96, 46, 42, 21, 5, 5, 96, 46, 42, 21, 5, 6, 96, 46, 45, 184, 0, 220, 54, 6, 44, 42, 21, 5, 4, 96, 46, 42, 21, 5, 5]) 32 lDL_16 rfl
theorem lDL_18 : cL_law.data.toList.drop 576 = lTL_18 := drp9 (c := [96, 46, 42, 21, 5, 6, 96, 46, 182, 0, 222, 54, 7, 167, 8, 147, 43, 42, 21, 5, 4, 96, 46, 42, 21, 5, 5, 96, 46, 42, 21, 5]) 32 lDL_17 rfl
theorem lDL_19 : cL_law.data.toList.drop 608 = lTL_19 := drp9 (c := [6, 96, 46, 45, 184, 0, 223, 54, 6, 44, 42, 21, 5, 4, 96, 46, 42, 21, 5, 5, 96, 46, 42, 21, 5, 6, 96, 46, 182, 0, 225, 54]) 32 lDL_18 rfl
theorem lDL_20 : cL_law.data.toList.drop 640 = lTL_20 := drp9 (c := [7, 167, 8, 95, 43, 42, 21, 5, 4, 96, 46, 45, 184, 0, 226, 54, 6, 44, 42, 21, 5, 4, 96, 46, 182, 0, 228, 54, 7, 167, 8, 67]) 32 lDL_19 rfl
theorem lDL_21 : cL_law.data.toList.drop 672 = lTL_21 := drp9 (c := [43, 42, 21, 5, 4, 96, 46, 42, 21, 5, 5, 96, 46, 45, 184, 0, 229, 54, 6, 44, 42, 21, 5, 4, 96, 46, 42, 21, 5, 5, 96, 46]) 32 lDL_20 rfl
theorem lDL_22 : cL_law.data.toList.drop 704 = lTL_22 := drp9 (c := [182, 0, 231, 54, 7, 167, 8, 27, 43, 42, 21, 5, 4, 96, 46, 42, 21, 5, 5, 96, 46, 45, 184, 0, 232, 54, 6, 44, 42, 21, 5, 4]) 32 lDL_21 rfl
theorem lDL_23 : cL_law.data.toList.drop 736 = lTL_23 := drp9 (c := [96, 46, 42, 21, 5, 5, 96, 46, 182, 0, 234, 54, 7, 167, 7, 243, 43, 42, 21, 5, 4, 96, 46, 45, 184, 0, 235, 54, 6, 44, 42, 21]) 32 lDL_22 rfl
theorem lDL_24 : cL_law.data.toList.drop 768 = lTL_24 := drp9 (c := [5, 4, 96, 46, 182, 0, 237, 54, 7, 167, 7, 215, 43, 42, 21, 5, 4, 96, 46, 42, 21, 5, 5, 96, 46, 45, 184, 0, 238, 54, 6, 44]) 32 lDL_23 rfl
theorem lDL_25 : cL_law.data.toList.drop 800 = lTL_25 := drp9 (c := [42, 21, 5, 4, 96, 46, 42, 21, 5, 5, 96, 46, 182, 0, 240, 54, 7, 167, 7, 175, 43, 42, 21, 5, 4, 96, 46, 42, 21, 5, 5, 96]) 32 lDL_24 rfl
theorem lDL_26 : cL_law.data.toList.drop 832 = lTL_26 := drp9 (c := [46, 133, 16, 32, 121, 42, 21, 5, 6, 96, 46, 133, 20, 0, 186, 127, 129, 45, 184, 0, 241, 54, 6, 44, 42, 21, 5, 4, 96, 46, 42, 21]) 32 lDL_25 rfl
theorem lDL_27 : cL_law.data.toList.drop 864 = lTL_27 := drp9 (c := [5, 5, 96, 46, 133, 16, 32, 121, 42, 21, 5, 6, 96, 46, 133, 20, 0, 186, 127, 129, 182, 0, 244, 54, 7, 167, 7, 103, 43, 42, 21, 5]) 32 lDL_26 rfl
theorem lDL_28 : cL_law.data.toList.drop 896 = lTL_28 := drp9 (c := [4, 96, 46, 42, 21, 5, 5, 96, 46, 45, 184, 0, 245, 54, 6, 44, 42, 21, 5, 4, 96, 46, 42, 21, 5, 5, 96, 46, 182, 0, 247, 54]) 32 lDL_27 rfl
theorem lDL_29 : cL_law.data.toList.drop 928 = lTL_29 := drp9 (c := [7, 167, 7, 63, 43, 42, 21, 5, 4, 96, 46, 25, 4, 184, 0, 248, 54, 6, 44, 42, 21, 5, 4, 96, 46, 182, 0, 251, 57, 7, 167, 7]) 32 lDL_28 rfl
theorem lDL_30 : cL_law.data.toList.drop 960 = lTL_30 := drp9 (c := [34, 43, 42, 21, 5, 4, 96, 46, 45, 184, 0, 252, 54, 6, 44, 42, 21, 5, 4, 96, 46, 182, 0, 254, 54, 7, 167, 7, 6, 43, 42, 21]) 32 lDL_29 rfl
theorem lDL_31 : cL_law.data.toList.drop 992 = lTL_31 := drp9 (c := [5, 4, 96, 46, 42, 21, 5, 5, 96, 46, 42, 21, 5, 6, 96, 46, 45, 184, 0, 255, 54, 6, 44, 42, 21, 5, 4, 96, 46, 42, 21, 5]) 32 lDL_30 rfl
theorem lDL_32 : cL_law.data.toList.drop 1024 = lTL_32 := drp9 (c := [5, 96, 46, 42, 21, 5, 6, 96, 46, 182, 1, 1, 54, 7, 167, 6, 210, 43, 42, 21, 5, 4, 96, 46, 42, 21, 5, 5, 96, 46, 45, 184]) 32 lDL_31 rfl
theorem lDL_33 : cL_law.data.toList.drop 1056 = lTL_33 := drp9 (c := [1, 2, 54, 6, 44, 42, 21, 5, 4, 96, 46, 42, 21, 5, 5, 96, 46, 182, 1, 4, 54, 7, 167, 6, 170, 43, 42, 21, 5, 4, 96, 46]) 32 lDL_32 rfl
theorem lDL_34 : cL_law.data.toList.drop 1088 = lTL_34 := drp9 (c := [45, 184, 1, 5, 54, 6, 44, 42, 21, 5, 4, 96, 46, 182, 1, 7, 54, 7, 167, 6, 142, 43, 42, 21, 5, 4, 96, 46, 25, 4, 184, 1]) 32 lDL_33 rfl
theorem lDL_35 : cL_law.data.toList.drop 1120 = lTL_35 := drp9 (c := [8, 54, 6, 44, 42, 21, 5, 4, 96, 46, 182, 1, 10, 56, 7, 167, 6, 113, 43, 42, 21, 5, 4, 96, 46, 42, 21, 5, 5, 96, 46, 45]) 32 lDL_34 rfl
theorem lDL_36 : cL_law.data.toList.drop 1152 = lTL_36 := drp9 (c := [184, 1, 11, 54, 6, 44, 42, 21, 5, 4, 96, 46, 42, 21, 5, 5, 96, 46, 182, 1, 13, 54, 7, 167, 6, 73, 43, 42, 21, 5, 4, 96]) 32 lDL_35 rfl
theorem lDL_37 : cL_law.data.toList.drop 1184 = lTL_37 := drp9 (c := [46, 45, 184, 1, 14, 54, 6, 44, 42, 21, 5, 4, 96, 46, 182, 1, 16, 54, 7, 167, 6, 45, 43, 42, 21, 5, 4, 96, 46, 42, 21, 5]) 32 lDL_36 rfl
theorem lDL_38 : cL_law.data.toList.drop 1216 = lTL_38 := drp9 (c := [5, 96, 46, 42, 21, 5, 6, 96, 46, 45, 184, 1, 17, 54, 6, 44, 42, 21, 5, 4, 96, 46, 42, 21, 5, 5, 96, 46, 42, 21, 5, 6]) 32 lDL_37 rfl
theorem lDL_39 : cL_law.data.toList.drop 1248 = lTL_39 := drp9 (c := [96, 46, 182, 1, 19, 54, 7, 167, 5, 249, 43, 42, 21, 5, 4, 96, 46, 42, 21, 5, 5, 96, 46, 42, 21, 5, 6, 96, 46, 42, 21, 5]) 32 lDL_38 rfl
theorem lDL_40 : cL_law.data.toList.drop 1280 = lTL_40 := drp9 (c := [7, 96, 46, 45, 184, 1, 20, 54, 6, 44, 42, 21, 5, 4, 96, 46, 42, 21, 5, 5, 96, 46, 42, 21, 5, 6, 96, 46, 42, 21, 5, 7]) 32 lDL_39 rfl
theorem lDL_41 : cL_law.data.toList.drop 1312 = lTL_41 := drp9 (c := [96, 46, 182, 1, 23, 54, 7, 167, 5, 185, 43, 42, 21, 5, 4, 96, 46, 42, 21, 5, 5, 96, 46, 45, 184, 1, 24, 54, 6, 44, 42, 21]) 32 lDL_40 rfl
theorem lDL_42 : cL_law.data.toList.drop 1344 = lTL_42 := drp9 (c := [5, 4, 96, 46, 42, 21, 5, 5, 96, 46, 182, 1, 26, 54, 7, 167, 5, 145, 43, 42, 21, 5, 4, 96, 46, 45, 184, 1, 27, 54, 6, 44]) 32 lDL_41 rfl
theorem lDL_43 : cL_law.data.toList.drop 1376 = lTL_43 := drp9 (c := [42, 21, 5, 4, 96, 46, 182, 1, 29, 54, 7, 167, 5, 117, 43, 42, 21, 5, 4, 96, 46, 42, 21, 5, 5, 96, 46, 45, 184, 1, 30, 54]) 32 lDL_42 rfl
theorem lDL_44 : cL_law.data.toList.drop 1408 = lTL_44 := drp9 (c := [6, 44, 42, 21, 5, 4, 96, 46, 42, 21, 5, 5, 96, 46, 182, 1, 32, 54, 7, 167, 5, 77, 43, 42, 21, 5, 4, 96, 46, 42, 21, 5]) 32 lDL_43 rfl
theorem lDL_45 : cL_law.data.toList.drop 1440 = lTL_45 := drp9 (c := [5, 96, 46, 42, 21, 5, 6, 96, 46, 45, 184, 1, 33, 54, 6, 44, 42, 21, 5, 4, 96, 46, 42, 21, 5, 5, 96, 46, 42, 21, 5, 6]) 32 lDL_44 rfl
theorem lDL_46 : cL_law.data.toList.drop 1472 = lTL_46 := drp9 (c := [96, 46, 182, 1, 35, 54, 7, 167, 5, 25, 43, 42, 21, 5, 4, 96, 46, 42, 21, 5, 5, 96, 46, 42, 21, 5, 6, 96, 46, 45, 184, 1]) 32 lDL_45 rfl
theorem lDL_47 : cL_law.data.toList.drop 1504 = lTL_47 := drp9 (c := [36, 54, 6, 44, 42, 21, 5, 4, 96, 46, 42, 21, 5, 5, 96, 46, 42, 21, 5, 6, 96, 46, 182, 1, 38, 54, 7, 167, 4, 229, 43, 42]) 32 lDL_46 rfl
theorem lDL_48 : cL_law.data.toList.drop 1536 = lTL_48 := drp9 (c := [21, 5, 4, 96, 46, 45, 184, 1, 39, 54, 6, 44, 42, 21, 5, 4, 96, 46, 182, 1, 41, 54, 7, 167, 4, 201, 43, 42, 21, 5, 4, 96]) 32 lDL_47 rfl
theorem lDL_49 : cL_law.data.toList.drop 1568 = lTL_49 := drp9 (c := [46, 45, 184, 1, 42, 54, 6, 44, 42, 21, 5, 4, 96, 46, 182, 1, 44, 54, 7, 167, 4, 173, 43, 42, 21, 5, 4, 96, 46, 45, 184, 1]) 32 lDL_48 rfl
theorem lDL_50 : cL_law.data.toList.drop 1600 = lTL_50 := drp9 (c := [45, 54, 6, 44, 42, 21, 5, 4, 96, 46, 182, 1, 47, 54, 7, 167, 4, 145, 43, 42, 21, 5, 4, 96, 46, 45, 184, 1, 48, 54, 6, 44]) 32 lDL_49 rfl
theorem lDL_51 : cL_law.data.toList.drop 1632 = lTL_51 := drp9 (c := [42, 21, 5, 4, 96, 46, 182, 1, 50, 54, 7, 167, 4, 117, 43, 42, 21, 5, 4, 96, 46, 42, 21, 5, 5, 96, 46, 133, 16, 32, 121, 42]) 32 lDL_50 rfl
theorem lDL_52 : cL_law.data.toList.drop 1664 = lTL_52 := drp9 (c := [21, 5, 6, 96, 46, 133, 20, 0, 186, 127, 129, 45, 184, 1, 51, 54, 6, 44, 42, 21, 5, 4, 96, 46, 42, 21, 5, 5, 96, 46, 133, 16]) 32 lDL_51 rfl
theorem lDL_53 : cL_law.data.toList.drop 1696 = lTL_53 := drp9 (c := [32, 121, 42, 21, 5, 6, 96, 46, 133, 20, 0, 186, 127, 129, 182, 1, 53, 55, 7, 167, 4, 45, 43, 42, 21, 5, 4, 96, 46, 42, 21, 5]) 32 lDL_52 rfl
theorem lDL_54 : cL_law.data.toList.drop 1728 = lTL_54 := drp9 (c := [5, 96, 46, 133, 16, 32, 121, 42, 21, 5, 6, 96, 46, 133, 20, 0, 186, 127, 129, 45, 184, 1, 54, 54, 6, 44, 42, 21, 5, 4, 96, 46]) 32 lDL_53 rfl
theorem lDL_55 : cL_law.data.toList.drop 1760 = lTL_55 := drp9 (c := [42, 21, 5, 5, 96, 46, 133, 16, 32, 121, 42, 21, 5, 6, 96, 46, 133, 20, 0, 186, 127, 129, 182, 1, 56, 54, 7, 167, 3, 229, 43, 42]) 32 lDL_54 rfl
theorem lDL_56 : cL_law.data.toList.drop 1792 = lTL_56 := drp9 (c := [21, 5, 4, 96, 46, 42, 21, 5, 5, 96, 46, 45, 184, 1, 57, 54, 6, 44, 42, 21, 5, 4, 96, 46, 42, 21, 5, 5, 96, 46, 182, 1]) 32 lDL_55 rfl
theorem lDL_57 : cL_law.data.toList.drop 1824 = lTL_57 := drp9 (c := [59, 54, 7, 167, 3, 189, 43, 42, 21, 5, 4, 96, 46, 42, 21, 5, 5, 96, 46, 42, 21, 5, 6, 96, 46, 42, 21, 5, 7, 96, 46, 153]) 32 lDL_56 rfl
theorem lDL_58 : cL_law.data.toList.drop 1856 = lTL_58 := drp9 (c := [0, 7, 4, 167, 0, 4, 3, 45, 184, 1, 60, 54, 6, 44, 42, 21, 5, 4, 96, 46, 42, 21, 5, 5, 96, 46, 42, 21, 5, 6, 96, 46]) 32 lDL_57 rfl
theorem lDL_59 : cL_law.data.toList.drop 1888 = lTL_59 := drp9 (c := [42, 21, 5, 7, 96, 46, 153, 0, 7, 4, 167, 0, 4, 3, 182, 1, 63, 54, 7, 167, 3, 109, 43, 42, 21, 5, 4, 96, 46, 42, 21, 5]) 32 lDL_58 rfl
theorem lDL_60 : cL_law.data.toList.drop 1920 = lTL_60 := drp9 (c := [5, 96, 46, 42, 21, 5, 6, 96, 46, 133, 16, 32, 121, 42, 21, 5, 7, 96, 46, 133, 20, 0, 186, 127, 129, 45, 184, 1, 64, 54, 6, 44]) 32 lDL_59 rfl
theorem lDL_61 : cL_law.data.toList.drop 1952 = lTL_61 := drp9 (c := [42, 21, 5, 4, 96, 46, 42, 21, 5, 5, 96, 46, 42, 21, 5, 6, 96, 46, 133, 16, 32, 121, 42, 21, 5, 7, 96, 46, 133, 20, 0, 186]) 32 lDL_60 rfl
theorem lDL_62 : cL_law.data.toList.drop 1984 = lTL_62 := drp9 (c := [127, 129, 182, 1, 67, 54, 7, 167, 3, 25, 43, 42, 21, 5, 4, 96, 46, 42, 21, 5, 5, 96, 46, 45, 184, 1, 68, 54, 6, 44, 42, 21]) 32 lDL_61 rfl
theorem lDL_63 : cL_law.data.toList.drop 2016 = lTL_63 := drp9 (c := [5, 4, 96, 46, 42, 21, 5, 5, 96, 46, 182, 1, 70, 54, 7, 167, 2, 241, 43, 42, 21, 5, 4, 96, 46, 42, 21, 5, 5, 96, 46, 45]) 32 lDL_62 rfl
theorem lDL_64 : cL_law.data.toList.drop 2048 = lTL_64 := drp9 (c := [184, 1, 71, 54, 6, 44, 42, 21, 5, 4, 96, 46, 42, 21, 5, 5, 96, 46, 182, 1, 73, 54, 7, 167, 2, 201, 43, 42, 21, 5, 4, 96]) 32 lDL_63 rfl
theorem lDL_65 : cL_law.data.toList.drop 2080 = lTL_65 := drp9 (c := [46, 42, 21, 5, 5, 96, 46, 42, 21, 5, 6, 96, 46, 42, 21, 5, 7, 96, 46, 45, 184, 1, 74, 54, 6, 44, 42, 21, 5, 4, 96, 46]) 32 lDL_64 rfl
theorem lDL_66 : cL_law.data.toList.drop 2112 = lTL_66 := drp9 (c := [42, 21, 5, 5, 96, 46, 42, 21, 5, 6, 96, 46, 42, 21, 5, 7, 96, 46, 182, 1, 76, 54, 7, 167, 2, 137, 43, 42, 21, 5, 4, 96]) 32 lDL_65 rfl
theorem lDL_67 : cL_law.data.toList.drop 2144 = lTL_67 := drp9 (c := [46, 42, 21, 5, 5, 96, 46, 42, 21, 5, 6, 96, 46, 42, 21, 5, 7, 96, 46, 153, 0, 7, 4, 167, 0, 4, 3, 45, 184, 1, 77, 54]) 32 lDL_66 rfl
theorem lDL_68 : cL_law.data.toList.drop 2176 = lTL_68 := drp9 (c := [6, 44, 42, 21, 5, 4, 96, 46, 42, 21, 5, 5, 96, 46, 42, 21, 5, 6, 96, 46, 42, 21, 5, 7, 96, 46, 153, 0, 7, 4, 167, 0]) 32 lDL_67 rfl
theorem lDL_69 : cL_law.data.toList.drop 2208 = lTL_69 := drp9 (c := [4, 3, 182, 1, 79, 54, 7, 167, 2, 57, 43, 42, 21, 5, 4, 96, 46, 42, 21, 5, 5, 96, 46, 42, 21, 5, 6, 96, 46, 42, 21, 5]) 32 lDL_68 rfl
theorem lDL_70 : cL_law.data.toList.drop 2240 = lTL_70 := drp9 (c := [7, 96, 46, 153, 0, 7, 4, 167, 0, 4, 3, 45, 184, 1, 80, 54, 6, 44, 42, 21, 5, 4, 96, 46, 42, 21, 5, 5, 96, 46, 42, 21]) 32 lDL_69 rfl
theorem lDL_71 : cL_law.data.toList.drop 2272 = lTL_71 := drp9 (c := [5, 6, 96, 46, 42, 21, 5, 7, 96, 46, 153, 0, 7, 4, 167, 0, 4, 3, 182, 1, 82, 54, 7, 167, 1, 233, 43, 42, 21, 5, 4, 96]) 32 lDL_70 rfl
theorem lDL_72 : cL_law.data.toList.drop 2304 = lTL_72 := drp9 (c := [46, 42, 21, 5, 5, 96, 46, 45, 184, 1, 83, 54, 6, 44, 42, 21, 5, 4, 96, 46, 42, 21, 5, 5, 96, 46, 182, 1, 85, 54, 7, 167]) 32 lDL_71 rfl
theorem lDL_73 : cL_law.data.toList.drop 2336 = lTL_73 := drp9 (c := [1, 193, 43, 42, 21, 5, 4, 96, 46, 42, 21, 5, 5, 96, 46, 45, 184, 1, 86, 54, 6, 44, 42, 21, 5, 4, 96, 46, 42, 21, 5, 5]) 32 lDL_72 rfl
theorem lDL_74 : cL_law.data.toList.drop 2368 = lTL_74 := drp9 (c := [96, 46, 182, 1, 88, 54, 7, 167, 1, 153, 43, 42, 21, 5, 4, 96, 46, 42, 21, 5, 5, 96, 46, 45, 184, 1, 89, 54, 6, 44, 42, 21]) 32 lDL_73 rfl
theorem lDL_75 : cL_law.data.toList.drop 2400 = lTL_75 := drp9 (c := [5, 4, 96, 46, 42, 21, 5, 5, 96, 46, 182, 1, 91, 54, 7, 167, 1, 113, 43, 42, 21, 5, 4, 96, 46, 42, 21, 5, 5, 96, 46, 42]) 32 lDL_74 rfl
theorem lDL_76 : cL_law.data.toList.drop 2432 = lTL_76 := drp9 (c := [21, 5, 6, 96, 46, 45, 184, 1, 92, 54, 6, 44, 42, 21, 5, 4, 96, 46, 42, 21, 5, 5, 96, 46, 42, 21, 5, 6, 96, 46, 182, 1]) 32 lDL_75 rfl
theorem lDL_77 : cL_law.data.toList.drop 2464 = lTL_77 := drp9 (c := [94, 54, 7, 167, 1, 61, 43, 42, 21, 5, 4, 96, 46, 42, 21, 5, 5, 96, 46, 153, 0, 7, 4, 167, 0, 4, 3, 45, 184, 1, 95, 54]) 32 lDL_76 rfl
theorem lDL_78 : cL_law.data.toList.drop 2496 = lTL_78 := drp9 (c := [6, 44, 42, 21, 5, 4, 96, 46, 42, 21, 5, 5, 96, 46, 153, 0, 7, 4, 167, 0, 4, 3, 182, 1, 98, 54, 7, 167, 1, 5, 43, 42]) 32 lDL_77 rfl
theorem lDL_79 : cL_law.data.toList.drop 2528 = lTL_79 := drp9 (c := [21, 5, 4, 96, 46, 45, 184, 1, 99, 54, 6, 44, 42, 21, 5, 4, 96, 46, 182, 1, 101, 54, 7, 167, 0, 233, 43, 42, 21, 5, 4, 96]) 32 lDL_78 rfl
theorem lDL_80 : cL_law.data.toList.drop 2560 = lTL_80 := drp9 (c := [46, 42, 21, 5, 5, 96, 46, 45, 184, 1, 102, 54, 6, 44, 42, 21, 5, 4, 96, 46, 42, 21, 5, 5, 96, 46, 182, 1, 104, 54, 7, 167]) 32 lDL_79 rfl
theorem lDL_81 : cL_law.data.toList.drop 2592 = lTL_81 := drp9 (c := [0, 193, 43, 42, 21, 5, 4, 96, 46, 45, 184, 1, 105, 54, 6, 44, 42, 21, 5, 4, 96, 46, 182, 1, 107, 54, 7, 167, 0, 165, 43, 42]) 32 lDL_80 rfl
theorem lDL_82 : cL_law.data.toList.drop 2624 = lTL_82 := drp9 (c := [21, 5, 4, 96, 46, 42, 21, 5, 5, 96, 46, 45, 184, 1, 108, 54, 6, 44, 42, 21, 5, 4, 96, 46, 42, 21, 5, 5, 96, 46, 182, 1]) 32 lDL_81 rfl
theorem lDL_83 : cL_law.data.toList.drop 2656 = lTL_83 := drp9 (c := [110, 54, 7, 167, 0, 125, 43, 42, 21, 5, 4, 96, 46, 182, 1, 111, 87, 44, 42, 21, 5, 4, 96, 46, 182, 1, 114, 87, 167, 0, 100, 43]) 32 lDL_82 rfl
theorem lDL_84 : cL_law.data.toList.drop 2688 = lTL_84 := drp9 (c := [182, 1, 115, 87, 44, 182, 1, 118, 87, 167, 0, 87, 43, 42, 21, 5, 4, 96, 46, 45, 184, 1, 119, 54, 6, 44, 42, 21, 5, 4, 96, 46]) 32 lDL_83 rfl
theorem lDL_85 : cL_law.data.toList.drop 2720 = lTL_85 := drp9 (c := [182, 1, 121, 54, 7, 44, 182, 1, 122, 21, 6, 159, 0, 5, 3, 172, 21, 6, 154, 0, 15, 45, 3, 47, 21, 7, 133, 148, 153, 0, 5, 3]) 32 lDL_84 rfl
theorem lDL_86 : cL_law.data.toList.drop 2752 = lTL_86 := drp9 (c := [172, 167, 0, 31, 43, 42, 21, 5, 4, 96, 46, 45, 184, 1, 125, 54, 6, 44, 42, 21, 5, 4, 96, 46, 182, 1, 127, 54, 7, 167, 0, 3]) 32 lDL_85 rfl
section
variable {c : ByteArray} {pc : Nat}
theorem dw_791 (h : Pc9 c pc [187, 0, 8]) : decode c pc = .ok (.new 8, 3) := op_187 h rfl
theorem dw_792 (h : Pc9 c pc [183, 0, 182]) : decode c pc = .ok (.invokespecial 182, 3) := op_183 h rfl
theorem op_76 (h : Pc9 c pc [76]) : decode c pc = .ok (.astore_n 1, 1) := o_start (op := 76) (f := _) rfl (pc_at h 0 rfl) rfl rfl rfl
theorem dw_793 (h : Pc9 c pc [76]) : decode c pc = .ok (.astore_n 1, 1) := op_76 h
theorem dw_794 (h : Pc9 c pc [187, 0, 183]) : decode c pc = .ok (.new 183, 3) := op_187 h rfl
theorem dw_795 (h : Pc9 c pc [183, 0, 185]) : decode c pc = .ok (.invokespecial 185, 3) := op_183 h rfl
theorem dw_796 (h : Pc9 c pc [163, 10, 164]) : decode c pc = .ok (.if_icmp .gt 2724, 3) := op_163 h (by decide +kernel)
theorem dw_797 (h : Pc9 c pc [20, 0, 186]) : decode c pc = .ok (.ldc2_w 186, 3) := op_20 h rfl
theorem dw_798 (h : Pc9 c pc [182, 0, 188]) : decode c pc = .ok (.invokevirtual 188, 3) := op_182 h rfl
theorem dw_799 (h : Pc9 c pc [167, 9, 102]) : decode c pc = .ok (.goto 2406, 3) := op_167 h (by decide +kernel)
theorem dw_800 (h : Pc9 c pc [182, 0, 197]) : decode c pc = .ok (.invokevirtual 197, 3) := op_182 h rfl
theorem dw_801 (h : Pc9 c pc [167, 9, 89]) : decode c pc = .ok (.goto 2393, 3) := op_167 h (by decide +kernel)
theorem dw_802 (h : Pc9 c pc [182, 0, 201]) : decode c pc = .ok (.invokevirtual 201, 3) := op_182 h rfl
theorem dw_803 (h : Pc9 c pc [167, 9, 76]) : decode c pc = .ok (.goto 2380, 3) := op_167 h (by decide +kernel)
theorem dw_804 (h : Pc9 c pc [182, 0, 202]) : decode c pc = .ok (.invokevirtual 202, 3) := op_182 h rfl
theorem dw_805 (h : Pc9 c pc [182, 0, 205]) : decode c pc = .ok (.invokevirtual 205, 3) := op_182 h rfl
theorem dw_806 (h : Pc9 c pc [167, 9, 63]) : decode c pc = .ok (.goto 2367, 3) := op_167 h (by decide +kernel)
theorem dw_807 (h : Pc9 c pc [184, 0, 206]) : decode c pc = .ok (.invokestatic 206, 3) := op_184 h rfl
theorem dw_808 (h : Pc9 c pc [182, 0, 211]) : decode c pc = .ok (.invokevirtual 211, 3) := op_182 h rfl
theorem dw_809 (h : Pc9 c pc [167, 9, 35]) : decode c pc = .ok (.goto 2339, 3) := op_167 h (by decide +kernel)
theorem dw_810 (h : Pc9 c pc [184, 0, 212]) : decode c pc = .ok (.invokestatic 212, 3) := op_184 h rfl
theorem dw_811 (h : Pc9 c pc [182, 0, 215]) : decode c pc = .ok (.invokevirtual 215, 3) := op_182 h rfl
theorem dw_812 (h : Pc9 c pc [167, 8, 239]) : decode c pc = .ok (.goto 2287, 3) := op_167 h (by decide +kernel)
theorem dw_813 (h : Pc9 c pc [167, 8, 199]) : decode c pc = .ok (.goto 2247, 3) := op_167 h (by decide +kernel)
theorem dw_814 (h : Pc9 c pc [184, 0, 220]) : decode c pc = .ok (.invokestatic 220, 3) := op_184 h rfl
theorem dw_815 (h : Pc9 c pc [167, 8, 147]) : decode c pc = .ok (.goto 2195, 3) := op_167 h (by decide +kernel)
theorem dw_816 (h : Pc9 c pc [184, 0, 223]) : decode c pc = .ok (.invokestatic 223, 3) := op_184 h rfl
theorem dw_817 (h : Pc9 c pc [182, 0, 225]) : decode c pc = .ok (.invokevirtual 225, 3) := op_182 h rfl
theorem dw_818 (h : Pc9 c pc [167, 8, 95]) : decode c pc = .ok (.goto 2143, 3) := op_167 h (by decide +kernel)
theorem dw_819 (h : Pc9 c pc [184, 0, 226]) : decode c pc = .ok (.invokestatic 226, 3) := op_184 h rfl
theorem dw_820 (h : Pc9 c pc [182, 0, 228]) : decode c pc = .ok (.invokevirtual 228, 3) := op_182 h rfl
theorem dw_821 (h : Pc9 c pc [167, 8, 67]) : decode c pc = .ok (.goto 2115, 3) := op_167 h (by decide +kernel)
theorem dw_822 (h : Pc9 c pc [184, 0, 229]) : decode c pc = .ok (.invokestatic 229, 3) := op_184 h rfl
theorem dw_823 (h : Pc9 c pc [182, 0, 231]) : decode c pc = .ok (.invokevirtual 231, 3) := op_182 h rfl
theorem dw_824 (h : Pc9 c pc [167, 8, 27]) : decode c pc = .ok (.goto 2075, 3) := op_167 h (by decide +kernel)
theorem dw_825 (h : Pc9 c pc [184, 0, 232]) : decode c pc = .ok (.invokestatic 232, 3) := op_184 h rfl
theorem dw_826 (h : Pc9 c pc [167, 7, 243]) : decode c pc = .ok (.goto 2035, 3) := op_167 h (by decide +kernel)
theorem dw_827 (h : Pc9 c pc [184, 0, 235]) : decode c pc = .ok (.invokestatic 235, 3) := op_184 h rfl
theorem dw_828 (h : Pc9 c pc [167, 7, 215]) : decode c pc = .ok (.goto 2007, 3) := op_167 h (by decide +kernel)
theorem dw_829 (h : Pc9 c pc [184, 0, 238]) : decode c pc = .ok (.invokestatic 238, 3) := op_184 h rfl
theorem dw_830 (h : Pc9 c pc [167, 7, 175]) : decode c pc = .ok (.goto 1967, 3) := op_167 h (by decide +kernel)
theorem dw_831 (h : Pc9 c pc [184, 0, 241]) : decode c pc = .ok (.invokestatic 241, 3) := op_184 h rfl
theorem dw_832 (h : Pc9 c pc [167, 7, 103]) : decode c pc = .ok (.goto 1895, 3) := op_167 h (by decide +kernel)
theorem dw_833 (h : Pc9 c pc [184, 0, 245]) : decode c pc = .ok (.invokestatic 245, 3) := op_184 h rfl
theorem dw_834 (h : Pc9 c pc [167, 7, 63]) : decode c pc = .ok (.goto 1855, 3) := op_167 h (by decide +kernel)
theorem dw_835 (h : Pc9 c pc [184, 0, 248]) : decode c pc = .ok (.invokestatic 248, 3) := op_184 h rfl
theorem dw_836 (h : Pc9 c pc [182, 0, 251]) : decode c pc = .ok (.invokevirtual 251, 3) := op_182 h rfl
theorem op_57 {a : UInt8} {v : Nat} (h : Pc9 c pc [57, a]) (e : a.toNat = v) : decode c pc = .ok (.dstore v, 2) := o_start (op := 57) (f := _) rfl (pc_at h 0 rfl) rfl (k_u1 (g := fun x => .dstore x) (pc_at h 1 rfl) e) rfl
theorem dw_837 (h : Pc9 c pc [57, 7]) : decode c pc = .ok (.dstore 7, 2) := op_57 h rfl
theorem dw_838 (h : Pc9 c pc [167, 7, 34]) : decode c pc = .ok (.goto 1826, 3) := op_167 h (by decide +kernel)
theorem dw_839 (h : Pc9 c pc [184, 0, 252]) : decode c pc = .ok (.invokestatic 252, 3) := op_184 h rfl
theorem dw_840 (h : Pc9 c pc [182, 0, 254]) : decode c pc = .ok (.invokevirtual 254, 3) := op_182 h rfl
theorem dw_841 (h : Pc9 c pc [167, 7, 6]) : decode c pc = .ok (.goto 1798, 3) := op_167 h (by decide +kernel)
theorem dw_842 (h : Pc9 c pc [184, 0, 255]) : decode c pc = .ok (.invokestatic 255, 3) := op_184 h rfl
theorem dw_843 (h : Pc9 c pc [167, 6, 210]) : decode c pc = .ok (.goto 1746, 3) := op_167 h (by decide +kernel)
theorem dw_844 (h : Pc9 c pc [184, 1, 2]) : decode c pc = .ok (.invokestatic 258, 3) := op_184 h rfl
theorem dw_845 (h : Pc9 c pc [167, 6, 170]) : decode c pc = .ok (.goto 1706, 3) := op_167 h (by decide +kernel)
theorem dw_846 (h : Pc9 c pc [184, 1, 5]) : decode c pc = .ok (.invokestatic 261, 3) := op_184 h rfl
theorem dw_847 (h : Pc9 c pc [167, 6, 142]) : decode c pc = .ok (.goto 1678, 3) := op_167 h (by decide +kernel)
theorem dw_848 (h : Pc9 c pc [184, 1, 8]) : decode c pc = .ok (.invokestatic 264, 3) := op_184 h rfl
theorem dw_849 (h : Pc9 c pc [182, 1, 10]) : decode c pc = .ok (.invokevirtual 266, 3) := op_182 h rfl
theorem op_56 {a : UInt8} {v : Nat} (h : Pc9 c pc [56, a]) (e : a.toNat = v) : decode c pc = .ok (.fstore v, 2) := o_start (op := 56) (f := _) rfl (pc_at h 0 rfl) rfl (k_u1 (g := fun x => .fstore x) (pc_at h 1 rfl) e) rfl
theorem dw_850 (h : Pc9 c pc [56, 7]) : decode c pc = .ok (.fstore 7, 2) := op_56 h rfl
theorem dw_851 (h : Pc9 c pc [167, 6, 113]) : decode c pc = .ok (.goto 1649, 3) := op_167 h (by decide +kernel)
theorem dw_852 (h : Pc9 c pc [184, 1, 11]) : decode c pc = .ok (.invokestatic 267, 3) := op_184 h rfl
theorem dw_853 (h : Pc9 c pc [167, 6, 73]) : decode c pc = .ok (.goto 1609, 3) := op_167 h (by decide +kernel)
theorem dw_854 (h : Pc9 c pc [184, 1, 14]) : decode c pc = .ok (.invokestatic 270, 3) := op_184 h rfl
theorem dw_855 (h : Pc9 c pc [182, 1, 16]) : decode c pc = .ok (.invokevirtual 272, 3) := op_182 h rfl
theorem dw_856 (h : Pc9 c pc [167, 6, 45]) : decode c pc = .ok (.goto 1581, 3) := op_167 h (by decide +kernel)
theorem dw_857 (h : Pc9 c pc [184, 1, 17]) : decode c pc = .ok (.invokestatic 273, 3) := op_184 h rfl
theorem dw_858 (h : Pc9 c pc [182, 1, 19]) : decode c pc = .ok (.invokevirtual 275, 3) := op_182 h rfl
theorem dw_859 (h : Pc9 c pc [167, 5, 249]) : decode c pc = .ok (.goto 1529, 3) := op_167 h (by decide +kernel)
theorem dw_860 (h : Pc9 c pc [182, 1, 23]) : decode c pc = .ok (.invokevirtual 279, 3) := op_182 h rfl
theorem dw_861 (h : Pc9 c pc [167, 5, 185]) : decode c pc = .ok (.goto 1465, 3) := op_167 h (by decide +kernel)
theorem dw_862 (h : Pc9 c pc [184, 1, 24]) : decode c pc = .ok (.invokestatic 280, 3) := op_184 h rfl
theorem dw_863 (h : Pc9 c pc [167, 5, 145]) : decode c pc = .ok (.goto 1425, 3) := op_167 h (by decide +kernel)
theorem dw_864 (h : Pc9 c pc [184, 1, 27]) : decode c pc = .ok (.invokestatic 283, 3) := op_184 h rfl
theorem dw_865 (h : Pc9 c pc [182, 1, 29]) : decode c pc = .ok (.invokevirtual 285, 3) := op_182 h rfl
theorem dw_866 (h : Pc9 c pc [167, 5, 117]) : decode c pc = .ok (.goto 1397, 3) := op_167 h (by decide +kernel)
theorem dw_867 (h : Pc9 c pc [184, 1, 30]) : decode c pc = .ok (.invokestatic 286, 3) := op_184 h rfl
theorem dw_868 (h : Pc9 c pc [182, 1, 32]) : decode c pc = .ok (.invokevirtual 288, 3) := op_182 h rfl
theorem dw_869 (h : Pc9 c pc [167, 5, 77]) : decode c pc = .ok (.goto 1357, 3) := op_167 h (by decide +kernel)
theorem dw_870 (h : Pc9 c pc [184, 1, 33]) : decode c pc = .ok (.invokestatic 289, 3) := op_184 h rfl
theorem dw_871 (h : Pc9 c pc [182, 1, 35]) : decode c pc = .ok (.invokevirtual 291, 3) := op_182 h rfl
theorem dw_872 (h : Pc9 c pc [167, 5, 25]) : decode c pc = .ok (.goto 1305, 3) := op_167 h (by decide +kernel)
theorem dw_873 (h : Pc9 c pc [184, 1, 36]) : decode c pc = .ok (.invokestatic 292, 3) := op_184 h rfl
theorem dw_874 (h : Pc9 c pc [167, 4, 229]) : decode c pc = .ok (.goto 1253, 3) := op_167 h (by decide +kernel)
theorem dw_875 (h : Pc9 c pc [184, 1, 39]) : decode c pc = .ok (.invokestatic 295, 3) := op_184 h rfl
theorem dw_876 (h : Pc9 c pc [182, 1, 41]) : decode c pc = .ok (.invokevirtual 297, 3) := op_182 h rfl
theorem dw_877 (h : Pc9 c pc [167, 4, 201]) : decode c pc = .ok (.goto 1225, 3) := op_167 h (by decide +kernel)
theorem dw_878 (h : Pc9 c pc [184, 1, 42]) : decode c pc = .ok (.invokestatic 298, 3) := op_184 h rfl
theorem dw_879 (h : Pc9 c pc [167, 4, 173]) : decode c pc = .ok (.goto 1197, 3) := op_167 h (by decide +kernel)
theorem dw_880 (h : Pc9 c pc [184, 1, 45]) : decode c pc = .ok (.invokestatic 301, 3) := op_184 h rfl
theorem dw_881 (h : Pc9 c pc [167, 4, 145]) : decode c pc = .ok (.goto 1169, 3) := op_167 h (by decide +kernel)
theorem dw_882 (h : Pc9 c pc [184, 1, 48]) : decode c pc = .ok (.invokestatic 304, 3) := op_184 h rfl
theorem dw_883 (h : Pc9 c pc [182, 1, 50]) : decode c pc = .ok (.invokevirtual 306, 3) := op_182 h rfl
theorem dw_884 (h : Pc9 c pc [167, 4, 117]) : decode c pc = .ok (.goto 1141, 3) := op_167 h (by decide +kernel)
theorem dw_885 (h : Pc9 c pc [184, 1, 51]) : decode c pc = .ok (.invokestatic 307, 3) := op_184 h rfl
theorem dw_886 (h : Pc9 c pc [182, 1, 53]) : decode c pc = .ok (.invokevirtual 309, 3) := op_182 h rfl
theorem dw_887 (h : Pc9 c pc [167, 4, 45]) : decode c pc = .ok (.goto 1069, 3) := op_167 h (by decide +kernel)
theorem dw_888 (h : Pc9 c pc [184, 1, 54]) : decode c pc = .ok (.invokestatic 310, 3) := op_184 h rfl
theorem dw_889 (h : Pc9 c pc [167, 3, 229]) : decode c pc = .ok (.goto 997, 3) := op_167 h (by decide +kernel)
theorem dw_890 (h : Pc9 c pc [184, 1, 57]) : decode c pc = .ok (.invokestatic 313, 3) := op_184 h rfl
theorem dw_891 (h : Pc9 c pc [167, 3, 189]) : decode c pc = .ok (.goto 957, 3) := op_167 h (by decide +kernel)
theorem dw_892 (h : Pc9 c pc [184, 1, 60]) : decode c pc = .ok (.invokestatic 316, 3) := op_184 h rfl
theorem dw_893 (h : Pc9 c pc [182, 1, 63]) : decode c pc = .ok (.invokevirtual 319, 3) := op_182 h rfl
theorem dw_894 (h : Pc9 c pc [167, 3, 109]) : decode c pc = .ok (.goto 877, 3) := op_167 h (by decide +kernel)
theorem dw_895 (h : Pc9 c pc [184, 1, 64]) : decode c pc = .ok (.invokestatic 320, 3) := op_184 h rfl
theorem dw_896 (h : Pc9 c pc [182, 1, 67]) : decode c pc = .ok (.invokevirtual 323, 3) := op_182 h rfl
theorem dw_897 (h : Pc9 c pc [167, 3, 25]) : decode c pc = .ok (.goto 793, 3) := op_167 h (by decide +kernel)
theorem dw_898 (h : Pc9 c pc [184, 1, 68]) : decode c pc = .ok (.invokestatic 324, 3) := op_184 h rfl
theorem dw_899 (h : Pc9 c pc [182, 1, 70]) : decode c pc = .ok (.invokevirtual 326, 3) := op_182 h rfl
theorem dw_900 (h : Pc9 c pc [167, 2, 241]) : decode c pc = .ok (.goto 753, 3) := op_167 h (by decide +kernel)
theorem dw_901 (h : Pc9 c pc [184, 1, 71]) : decode c pc = .ok (.invokestatic 327, 3) := op_184 h rfl
theorem dw_902 (h : Pc9 c pc [182, 1, 73]) : decode c pc = .ok (.invokevirtual 329, 3) := op_182 h rfl
theorem dw_903 (h : Pc9 c pc [167, 2, 201]) : decode c pc = .ok (.goto 713, 3) := op_167 h (by decide +kernel)
theorem dw_904 (h : Pc9 c pc [184, 1, 74]) : decode c pc = .ok (.invokestatic 330, 3) := op_184 h rfl
theorem dw_905 (h : Pc9 c pc [182, 1, 76]) : decode c pc = .ok (.invokevirtual 332, 3) := op_182 h rfl
theorem dw_906 (h : Pc9 c pc [167, 2, 137]) : decode c pc = .ok (.goto 649, 3) := op_167 h (by decide +kernel)
theorem dw_907 (h : Pc9 c pc [184, 1, 77]) : decode c pc = .ok (.invokestatic 333, 3) := op_184 h rfl
theorem dw_908 (h : Pc9 c pc [167, 2, 57]) : decode c pc = .ok (.goto 569, 3) := op_167 h (by decide +kernel)
theorem dw_909 (h : Pc9 c pc [182, 1, 82]) : decode c pc = .ok (.invokevirtual 338, 3) := op_182 h rfl
theorem dw_910 (h : Pc9 c pc [167, 1, 233]) : decode c pc = .ok (.goto 489, 3) := op_167 h (by decide +kernel)
theorem dw_911 (h : Pc9 c pc [184, 1, 83]) : decode c pc = .ok (.invokestatic 339, 3) := op_184 h rfl
theorem dw_912 (h : Pc9 c pc [182, 1, 85]) : decode c pc = .ok (.invokevirtual 341, 3) := op_182 h rfl
theorem dw_913 (h : Pc9 c pc [167, 1, 193]) : decode c pc = .ok (.goto 449, 3) := op_167 h (by decide +kernel)
theorem dw_914 (h : Pc9 c pc [184, 1, 86]) : decode c pc = .ok (.invokestatic 342, 3) := op_184 h rfl
theorem dw_915 (h : Pc9 c pc [167, 1, 153]) : decode c pc = .ok (.goto 409, 3) := op_167 h (by decide +kernel)
theorem dw_916 (h : Pc9 c pc [184, 1, 89]) : decode c pc = .ok (.invokestatic 345, 3) := op_184 h rfl
theorem dw_917 (h : Pc9 c pc [182, 1, 91]) : decode c pc = .ok (.invokevirtual 347, 3) := op_182 h rfl
theorem dw_918 (h : Pc9 c pc [167, 1, 113]) : decode c pc = .ok (.goto 369, 3) := op_167 h (by decide +kernel)
theorem dw_919 (h : Pc9 c pc [184, 1, 92]) : decode c pc = .ok (.invokestatic 348, 3) := op_184 h rfl
theorem dw_920 (h : Pc9 c pc [182, 1, 94]) : decode c pc = .ok (.invokevirtual 350, 3) := op_182 h rfl
theorem dw_921 (h : Pc9 c pc [167, 1, 61]) : decode c pc = .ok (.goto 317, 3) := op_167 h (by decide +kernel)
theorem dw_922 (h : Pc9 c pc [184, 1, 95]) : decode c pc = .ok (.invokestatic 351, 3) := op_184 h rfl
theorem dw_923 (h : Pc9 c pc [182, 1, 98]) : decode c pc = .ok (.invokevirtual 354, 3) := op_182 h rfl
theorem dw_924 (h : Pc9 c pc [167, 1, 5]) : decode c pc = .ok (.goto 261, 3) := op_167 h (by decide +kernel)
theorem dw_925 (h : Pc9 c pc [184, 1, 99]) : decode c pc = .ok (.invokestatic 355, 3) := op_184 h rfl
theorem dw_926 (h : Pc9 c pc [182, 1, 101]) : decode c pc = .ok (.invokevirtual 357, 3) := op_182 h rfl
theorem dw_927 (h : Pc9 c pc [167, 0, 233]) : decode c pc = .ok (.goto 233, 3) := op_167 h (by decide +kernel)
theorem dw_928 (h : Pc9 c pc [184, 1, 102]) : decode c pc = .ok (.invokestatic 358, 3) := op_184 h rfl
theorem dw_929 (h : Pc9 c pc [182, 1, 104]) : decode c pc = .ok (.invokevirtual 360, 3) := op_182 h rfl
theorem dw_930 (h : Pc9 c pc [167, 0, 193]) : decode c pc = .ok (.goto 193, 3) := op_167 h (by decide +kernel)
theorem dw_931 (h : Pc9 c pc [184, 1, 105]) : decode c pc = .ok (.invokestatic 361, 3) := op_184 h rfl
theorem dw_932 (h : Pc9 c pc [182, 1, 107]) : decode c pc = .ok (.invokevirtual 363, 3) := op_182 h rfl
theorem dw_933 (h : Pc9 c pc [167, 0, 165]) : decode c pc = .ok (.goto 165, 3) := op_167 h (by decide +kernel)
theorem dw_934 (h : Pc9 c pc [184, 1, 108]) : decode c pc = .ok (.invokestatic 364, 3) := op_184 h rfl
theorem dw_935 (h : Pc9 c pc [182, 1, 110]) : decode c pc = .ok (.invokevirtual 366, 3) := op_182 h rfl
theorem dw_936 (h : Pc9 c pc [167, 0, 125]) : decode c pc = .ok (.goto 125, 3) := op_167 h (by decide +kernel)
theorem dw_937 (h : Pc9 c pc [182, 1, 111]) : decode c pc = .ok (.invokevirtual 367, 3) := op_182 h rfl
theorem dw_938 (h : Pc9 c pc [182, 1, 114]) : decode c pc = .ok (.invokevirtual 370, 3) := op_182 h rfl
theorem dw_939 (h : Pc9 c pc [167, 0, 100]) : decode c pc = .ok (.goto 100, 3) := op_167 h (by decide +kernel)
theorem dw_940 (h : Pc9 c pc [182, 1, 115]) : decode c pc = .ok (.invokevirtual 371, 3) := op_182 h rfl
theorem dw_941 (h : Pc9 c pc [182, 1, 118]) : decode c pc = .ok (.invokevirtual 374, 3) := op_182 h rfl
theorem dw_942 (h : Pc9 c pc [167, 0, 87]) : decode c pc = .ok (.goto 87, 3) := op_167 h (by decide +kernel)
theorem dw_943 (h : Pc9 c pc [184, 1, 119]) : decode c pc = .ok (.invokestatic 375, 3) := op_184 h rfl
theorem dw_944 (h : Pc9 c pc [182, 1, 121]) : decode c pc = .ok (.invokevirtual 377, 3) := op_182 h rfl
theorem dw_945 (h : Pc9 c pc [182, 1, 122]) : decode c pc = .ok (.invokevirtual 378, 3) := op_182 h rfl
theorem dw_946 (h : Pc9 c pc [154, 0, 15]) : decode c pc = .ok (.ifCond .ne 15, 3) := op_154 h (by decide +kernel)
theorem dw_947 (h : Pc9 c pc [167, 0, 31]) : decode c pc = .ok (.goto 31, 3) := op_167 h (by decide +kernel)
theorem dw_948 (h : Pc9 c pc [184, 1, 125]) : decode c pc = .ok (.invokestatic 381, 3) := op_184 h rfl
theorem dw_949 (h : Pc9 c pc [182, 1, 127]) : decode c pc = .ok (.invokevirtual 383, 3) := op_182 h rfl
theorem dw_950 (h : Pc9 c pc [167, 0, 3]) : decode c pc = .ok (.goto 3, 3) := op_167 h (by decide +kernel)
theorem dw_951 (h : Pc9 c pc [132, 5, 5]) : decode c pc = .ok (.iinc 5 5, 3) := op_132 h rfl (by decide +kernel)
theorem dw_952 (h : Pc9 c pc [167, 245, 89]) : decode c pc = .ok (.goto (-2727), 3) := op_167 h (by decide +kernel)
end
theorem dL_law_0 : decode cL_law 0 = .ok (.new 8, 3) := dw_791 (pc9 (k := 0) (j := 0) lDL_0 rfl)
theorem dL_law_3 : decode cL_law 3 = .ok (.dup, 1) := dw_90 (pc9 (k := 0) (j := 3) lDL_0 rfl)
theorem dL_law_4 : decode cL_law 4 = .ok (.invokespecial 182, 3) := dw_792 (pc9 (k := 0) (j := 4) lDL_0 rfl)
theorem dL_law_7 : decode cL_law 7 = .ok (.astore_n 1, 1) := dw_793 (pc9 (k := 0) (j := 7) lDL_0 rfl)
theorem dL_law_8 : decode cL_law 8 = .ok (.new 183, 3) := dw_794 (pc9 (k := 0) (j := 8) lDL_0 rfl)
theorem dL_law_11 : decode cL_law 11 = .ok (.dup, 1) := dw_90 (pc9 (k := 0) (j := 11) lDL_0 rfl)
theorem dL_law_12 : decode cL_law 12 = .ok (.invokespecial 185, 3) := dw_795 (pc9 (k := 0) (j := 12) lDL_0 rfl)
theorem dL_law_15 : decode cL_law 15 = .ok (.astore_n 2, 1) := dw_347 (pc9 (k := 0) (j := 15) lDL_0 rfl)
theorem dL_law_16 : decode cL_law 16 = .ok (.iconst 1, 1) := dw_26 (pc9 (k := 0) (j := 16) lDL_0 rfl)
theorem dL_law_17 : decode cL_law 17 = .ok (.newarray .long, 2) := by decide +kernel
theorem dL_law_19 : decode cL_law 19 = .ok (.astore_n 3, 1) := dw_126 (pc9 (k := 0) (j := 19) lDL_0 rfl)
theorem dL_law_20 : decode cL_law 20 = .ok (.iconst 1, 1) := dw_26 (pc9 (k := 0) (j := 20) lDL_0 rfl)
theorem dL_law_21 : decode cL_law 21 = .ok (.newarray .double, 2) := by decide +kernel
theorem dL_law_23 : decode cL_law 23 = .ok (.astore 4, 2) := dw_127 (pc9 (k := 0) (j := 23) lDL_0 rfl)
theorem dL_law_25 : decode cL_law 25 = .ok (.iconst 0, 1) := dw_6 (pc9 (k := 0) (j := 25) lDL_0 rfl)
theorem dL_law_26 : decode cL_law 26 = .ok (.istore 5, 2) := dw_34 (pc9 (k := 0) (j := 26) lDL_0 rfl)
theorem dL_law_28 : decode cL_law 28 = .ok (.iload 5, 2) := dw_39 (pc9 (k := 0) (j := 28) lDL_0 rfl)
theorem dL_law_30 : decode cL_law 30 = .ok (.aload_n 0, 1) := dw_0 (pc9 (k := 0) (j := 30) lDL_0 rfl)
theorem dL_law_31 : decode cL_law 31 = .ok (.arraylength, 1) := dw_767 (pc9 (k := 0) (j := 31) lDL_0 rfl)
theorem dL_law_32 : decode cL_law 32 = .ok (.iconst 5, 1) := dw_216 (pc9 (k := 32) (j := 0) lDL_1 rfl)
theorem dL_law_33 : decode cL_law 33 = .ok (.isub, 1) := dw_122 (pc9 (k := 32) (j := 1) lDL_1 rfl)
theorem dL_law_34 : decode cL_law 34 = .ok (.if_icmp .gt 2724, 3) := dw_796 (pc9 (k := 32) (j := 2) lDL_1 rfl)
theorem dL_law_37 : decode cL_law 37 = .ok (.aload_n 0, 1) := dw_0 (pc9 (k := 32) (j := 5) lDL_1 rfl)
theorem dL_law_38 : decode cL_law 38 = .ok (.iload 5, 2) := dw_39 (pc9 (k := 32) (j := 6) lDL_1 rfl)
theorem dL_law_40 : decode cL_law 40 = .ok (.iaload, 1) := dw_16 (pc9 (k := 32) (j := 8) lDL_1 rfl)
theorem dL_law_41 : decode cL_law 41 = .ok (.bipush 63, 2) := dw_764 (pc9 (k := 32) (j := 9) lDL_1 rfl)
theorem dL_law_43 : decode cL_law 43 = .ok (.iand, 1) := dw_32 (pc9 (k := 32) (j := 11) lDL_1 rfl)
theorem dL_law_44 : decode cL_law 44 = .ok (.tableswitch 2708 0 57 #[248, 305, 318, 331, 344, 372, 424, 464, 516, 568, 596, 636, 676, 704, 744, 816, 856, 885, 913, 965, 1005, 1033, 1062, 1102, 1130, 1182, 1246, 1286, 1314, 1354, 1406, 1458, 1486, 1514, 1542, 1570, 1642, 1714, 1754, 1834, 1918, 1958, 1998, 2062, 2142, 2222, 2262, 2302, 2342, 2394, 2450, 2478, 2518, 2546, 2586, 2611, 2624, 2680], 248) := by decide +kernel
theorem dL_law_292 : decode cL_law 292 = .ok (.aload_n 1, 1) := dw_5 (pc9 (k := 288) (j := 4) lDL_9 rfl)
theorem dL_law_293 : decode cL_law 293 = .ok (.aload_n 0, 1) := dw_0 (pc9 (k := 288) (j := 5) lDL_9 rfl)
theorem dL_law_294 : decode cL_law 294 = .ok (.iload 5, 2) := dw_39 (pc9 (k := 288) (j := 6) lDL_9 rfl)
theorem dL_law_296 : decode cL_law 296 = .ok (.iconst 1, 1) := dw_26 (pc9 (k := 288) (j := 8) lDL_9 rfl)
theorem dL_law_297 : decode cL_law 297 = .ok (.iadd, 1) := dw_43 (pc9 (k := 288) (j := 9) lDL_9 rfl)
theorem dL_law_298 : decode cL_law 298 = .ok (.iaload, 1) := dw_16 (pc9 (k := 288) (j := 10) lDL_9 rfl)
theorem dL_law_299 : decode cL_law 299 = .ok (.i2l, 1) := dw_498 (pc9 (k := 288) (j := 11) lDL_9 rfl)
theorem dL_law_300 : decode cL_law 300 = .ok (.bipush 32, 2) := dw_2 (pc9 (k := 288) (j := 12) lDL_9 rfl)
theorem dL_law_302 : decode cL_law 302 = .ok (.lshl, 1) := dw_535 (pc9 (k := 288) (j := 14) lDL_9 rfl)
theorem dL_law_303 : decode cL_law 303 = .ok (.aload_n 0, 1) := dw_0 (pc9 (k := 288) (j := 15) lDL_9 rfl)
theorem dL_law_304 : decode cL_law 304 = .ok (.iload 5, 2) := dw_39 (pc9 (k := 288) (j := 16) lDL_9 rfl)
theorem dL_law_306 : decode cL_law 306 = .ok (.iconst 2, 1) := dw_260 (pc9 (k := 288) (j := 18) lDL_9 rfl)
theorem dL_law_307 : decode cL_law 307 = .ok (.iadd, 1) := dw_43 (pc9 (k := 288) (j := 19) lDL_9 rfl)
theorem dL_law_308 : decode cL_law 308 = .ok (.iaload, 1) := dw_16 (pc9 (k := 288) (j := 20) lDL_9 rfl)
theorem dL_law_309 : decode cL_law 309 = .ok (.i2l, 1) := dw_498 (pc9 (k := 288) (j := 21) lDL_9 rfl)
theorem dL_law_310 : decode cL_law 310 = .ok (.ldc2_w 186, 3) := dw_797 (pc9 (k := 288) (j := 22) lDL_9 rfl)
theorem dL_law_313 : decode cL_law 313 = .ok (.land, 1) := dw_161 (pc9 (k := 288) (j := 25) lDL_9 rfl)
theorem dL_law_314 : decode cL_law 314 = .ok (.lor, 1) := dw_572 (pc9 (k := 288) (j := 26) lDL_9 rfl)
theorem dL_law_315 : decode cL_law 315 = .ok (.invokevirtual 188, 3) := dw_798 (pc9 (k := 288) (j := 27) lDL_9 rfl)
theorem dL_law_318 : decode cL_law 318 = .ok (.pop, 1) := dw_441 (pc9 (k := 288) (j := 30) lDL_9 rfl)
theorem dL_law_319 : decode cL_law 319 = .ok (.aload_n 2, 1) := dw_52 (pc9 (k := 288) (j := 31) lDL_9 rfl)
theorem dL_law_320 : decode cL_law 320 = .ok (.aload_n 0, 1) := dw_0 (pc9 (k := 320) (j := 0) lDL_10 rfl)
theorem dL_law_321 : decode cL_law 321 = .ok (.iload 5, 2) := dw_39 (pc9 (k := 320) (j := 1) lDL_10 rfl)
theorem dL_law_323 : decode cL_law 323 = .ok (.iconst 1, 1) := dw_26 (pc9 (k := 320) (j := 3) lDL_10 rfl)
theorem dL_law_324 : decode cL_law 324 = .ok (.iadd, 1) := dw_43 (pc9 (k := 320) (j := 4) lDL_10 rfl)
theorem dL_law_325 : decode cL_law 325 = .ok (.iaload, 1) := dw_16 (pc9 (k := 320) (j := 5) lDL_10 rfl)
theorem dL_law_326 : decode cL_law 326 = .ok (.i2l, 1) := dw_498 (pc9 (k := 320) (j := 6) lDL_10 rfl)
theorem dL_law_327 : decode cL_law 327 = .ok (.bipush 32, 2) := dw_2 (pc9 (k := 320) (j := 7) lDL_10 rfl)
theorem dL_law_329 : decode cL_law 329 = .ok (.lshl, 1) := dw_535 (pc9 (k := 320) (j := 9) lDL_10 rfl)
theorem dL_law_330 : decode cL_law 330 = .ok (.aload_n 0, 1) := dw_0 (pc9 (k := 320) (j := 10) lDL_10 rfl)
theorem dL_law_331 : decode cL_law 331 = .ok (.iload 5, 2) := dw_39 (pc9 (k := 320) (j := 11) lDL_10 rfl)
theorem dL_law_333 : decode cL_law 333 = .ok (.iconst 2, 1) := dw_260 (pc9 (k := 320) (j := 13) lDL_10 rfl)
theorem dL_law_334 : decode cL_law 334 = .ok (.iadd, 1) := dw_43 (pc9 (k := 320) (j := 14) lDL_10 rfl)
theorem dL_law_335 : decode cL_law 335 = .ok (.iaload, 1) := dw_16 (pc9 (k := 320) (j := 15) lDL_10 rfl)
theorem dL_law_336 : decode cL_law 336 = .ok (.i2l, 1) := dw_498 (pc9 (k := 320) (j := 16) lDL_10 rfl)
theorem dL_law_337 : decode cL_law 337 = .ok (.ldc2_w 186, 3) := dw_797 (pc9 (k := 320) (j := 17) lDL_10 rfl)
theorem dL_law_340 : decode cL_law 340 = .ok (.land, 1) := dw_161 (pc9 (k := 320) (j := 20) lDL_10 rfl)
theorem dL_law_341 : decode cL_law 341 = .ok (.lor, 1) := dw_572 (pc9 (k := 320) (j := 21) lDL_10 rfl)
theorem dL_law_342 : decode cL_law 342 = .ok (.invokevirtual 192, 3) := dw_378 (pc9 (k := 320) (j := 22) lDL_10 rfl)
theorem dL_law_345 : decode cL_law 345 = .ok (.pop, 1) := dw_441 (pc9 (k := 320) (j := 25) lDL_10 rfl)
theorem dL_law_346 : decode cL_law 346 = .ok (.goto 2406, 3) := dw_799 (pc9 (k := 320) (j := 26) lDL_10 rfl)
theorem dL_law_349 : decode cL_law 349 = .ok (.aload_n 1, 1) := dw_5 (pc9 (k := 320) (j := 29) lDL_10 rfl)
theorem dL_law_350 : decode cL_law 350 = .ok (.invokevirtual 193, 3) := dw_608 (pc9 (k := 320) (j := 30) lDL_10 rfl)
theorem dL_law_353 : decode cL_law 353 = .ok (.pop, 1) := dw_441 (pc9 (k := 352) (j := 1) lDL_11 rfl)
theorem dL_law_354 : decode cL_law 354 = .ok (.aload_n 2, 1) := dw_52 (pc9 (k := 352) (j := 2) lDL_11 rfl)
theorem dL_law_355 : decode cL_law 355 = .ok (.invokevirtual 197, 3) := dw_800 (pc9 (k := 352) (j := 3) lDL_11 rfl)
theorem dL_law_358 : decode cL_law 358 = .ok (.pop, 1) := dw_441 (pc9 (k := 352) (j := 6) lDL_11 rfl)
theorem dL_law_359 : decode cL_law 359 = .ok (.goto 2393, 3) := dw_801 (pc9 (k := 352) (j := 7) lDL_11 rfl)
theorem dL_law_362 : decode cL_law 362 = .ok (.aload_n 1, 1) := dw_5 (pc9 (k := 352) (j := 10) lDL_11 rfl)
theorem dL_law_363 : decode cL_law 363 = .ok (.invokevirtual 198, 3) := dw_381 (pc9 (k := 352) (j := 11) lDL_11 rfl)
theorem dL_law_366 : decode cL_law 366 = .ok (.pop, 1) := dw_441 (pc9 (k := 352) (j := 14) lDL_11 rfl)
theorem dL_law_367 : decode cL_law 367 = .ok (.aload_n 2, 1) := dw_52 (pc9 (k := 352) (j := 15) lDL_11 rfl)
theorem dL_law_368 : decode cL_law 368 = .ok (.invokevirtual 201, 3) := dw_802 (pc9 (k := 352) (j := 16) lDL_11 rfl)
theorem dL_law_371 : decode cL_law 371 = .ok (.pop, 1) := dw_441 (pc9 (k := 352) (j := 19) lDL_11 rfl)
theorem dL_law_372 : decode cL_law 372 = .ok (.goto 2380, 3) := dw_803 (pc9 (k := 352) (j := 20) lDL_11 rfl)
theorem dL_law_375 : decode cL_law 375 = .ok (.aload_n 1, 1) := dw_5 (pc9 (k := 352) (j := 23) lDL_11 rfl)
theorem dL_law_376 : decode cL_law 376 = .ok (.invokevirtual 202, 3) := dw_804 (pc9 (k := 352) (j := 24) lDL_11 rfl)
theorem dL_law_379 : decode cL_law 379 = .ok (.pop, 1) := dw_441 (pc9 (k := 352) (j := 27) lDL_11 rfl)
theorem dL_law_380 : decode cL_law 380 = .ok (.aload_n 2, 1) := dw_52 (pc9 (k := 352) (j := 28) lDL_11 rfl)
theorem dL_law_381 : decode cL_law 381 = .ok (.invokevirtual 205, 3) := dw_805 (pc9 (k := 352) (j := 29) lDL_11 rfl)
theorem dL_law_384 : decode cL_law 384 = .ok (.pop, 1) := dw_441 (pc9 (k := 384) (j := 0) lDL_12 rfl)
theorem dL_law_385 : decode cL_law 385 = .ok (.goto 2367, 3) := dw_806 (pc9 (k := 384) (j := 1) lDL_12 rfl)
theorem dL_law_388 : decode cL_law 388 = .ok (.aload_n 1, 1) := dw_5 (pc9 (k := 384) (j := 4) lDL_12 rfl)
theorem dL_law_389 : decode cL_law 389 = .ok (.aload_n 0, 1) := dw_0 (pc9 (k := 384) (j := 5) lDL_12 rfl)
theorem dL_law_390 : decode cL_law 390 = .ok (.iload 5, 2) := dw_39 (pc9 (k := 384) (j := 6) lDL_12 rfl)
theorem dL_law_392 : decode cL_law 392 = .ok (.iconst 1, 1) := dw_26 (pc9 (k := 384) (j := 8) lDL_12 rfl)
theorem dL_law_393 : decode cL_law 393 = .ok (.iadd, 1) := dw_43 (pc9 (k := 384) (j := 9) lDL_12 rfl)
theorem dL_law_394 : decode cL_law 394 = .ok (.iaload, 1) := dw_16 (pc9 (k := 384) (j := 10) lDL_12 rfl)
theorem dL_law_395 : decode cL_law 395 = .ok (.aload_n 3, 1) := dw_119 (pc9 (k := 384) (j := 11) lDL_12 rfl)
theorem dL_law_396 : decode cL_law 396 = .ok (.invokestatic 206, 3) := dw_807 (pc9 (k := 384) (j := 12) lDL_12 rfl)
theorem dL_law_399 : decode cL_law 399 = .ok (.istore 6, 2) := dw_35 (pc9 (k := 384) (j := 15) lDL_12 rfl)
theorem dL_law_401 : decode cL_law 401 = .ok (.aload_n 2, 1) := dw_52 (pc9 (k := 384) (j := 17) lDL_12 rfl)
theorem dL_law_402 : decode cL_law 402 = .ok (.aload_n 0, 1) := dw_0 (pc9 (k := 384) (j := 18) lDL_12 rfl)
theorem dL_law_403 : decode cL_law 403 = .ok (.iload 5, 2) := dw_39 (pc9 (k := 384) (j := 19) lDL_12 rfl)
theorem dL_law_405 : decode cL_law 405 = .ok (.iconst 1, 1) := dw_26 (pc9 (k := 384) (j := 21) lDL_12 rfl)
theorem dL_law_406 : decode cL_law 406 = .ok (.iadd, 1) := dw_43 (pc9 (k := 384) (j := 22) lDL_12 rfl)
theorem dL_law_407 : decode cL_law 407 = .ok (.iaload, 1) := dw_16 (pc9 (k := 384) (j := 23) lDL_12 rfl)
theorem dL_law_408 : decode cL_law 408 = .ok (.invokevirtual 211, 3) := dw_808 (pc9 (k := 384) (j := 24) lDL_12 rfl)
theorem dL_law_411 : decode cL_law 411 = .ok (.istore 7, 2) := dw_58 (pc9 (k := 384) (j := 27) lDL_12 rfl)
theorem dL_law_413 : decode cL_law 413 = .ok (.goto 2339, 3) := dw_809 (pc9 (k := 384) (j := 29) lDL_12 rfl)
theorem dL_law_416 : decode cL_law 416 = .ok (.aload_n 1, 1) := dw_5 (pc9 (k := 416) (j := 0) lDL_13 rfl)
theorem dL_law_417 : decode cL_law 417 = .ok (.aload_n 0, 1) := dw_0 (pc9 (k := 416) (j := 1) lDL_13 rfl)
theorem dL_law_418 : decode cL_law 418 = .ok (.iload 5, 2) := dw_39 (pc9 (k := 416) (j := 2) lDL_13 rfl)
theorem dL_law_420 : decode cL_law 420 = .ok (.iconst 1, 1) := dw_26 (pc9 (k := 416) (j := 4) lDL_13 rfl)
theorem dL_law_421 : decode cL_law 421 = .ok (.iadd, 1) := dw_43 (pc9 (k := 416) (j := 5) lDL_13 rfl)
theorem dL_law_422 : decode cL_law 422 = .ok (.iaload, 1) := dw_16 (pc9 (k := 416) (j := 6) lDL_13 rfl)
theorem dL_law_423 : decode cL_law 423 = .ok (.aload_n 0, 1) := dw_0 (pc9 (k := 416) (j := 7) lDL_13 rfl)
theorem dL_law_424 : decode cL_law 424 = .ok (.iload 5, 2) := dw_39 (pc9 (k := 416) (j := 8) lDL_13 rfl)
theorem dL_law_426 : decode cL_law 426 = .ok (.iconst 2, 1) := dw_260 (pc9 (k := 416) (j := 10) lDL_13 rfl)
theorem dL_law_427 : decode cL_law 427 = .ok (.iadd, 1) := dw_43 (pc9 (k := 416) (j := 11) lDL_13 rfl)
theorem dL_law_428 : decode cL_law 428 = .ok (.iaload, 1) := dw_16 (pc9 (k := 416) (j := 12) lDL_13 rfl)
theorem dL_law_429 : decode cL_law 429 = .ok (.aload_n 0, 1) := dw_0 (pc9 (k := 416) (j := 13) lDL_13 rfl)
theorem dL_law_430 : decode cL_law 430 = .ok (.iload 5, 2) := dw_39 (pc9 (k := 416) (j := 14) lDL_13 rfl)
theorem dL_law_432 : decode cL_law 432 = .ok (.iconst 3, 1) := dw_221 (pc9 (k := 416) (j := 16) lDL_13 rfl)
theorem dL_law_433 : decode cL_law 433 = .ok (.iadd, 1) := dw_43 (pc9 (k := 416) (j := 17) lDL_13 rfl)
theorem dL_law_434 : decode cL_law 434 = .ok (.iaload, 1) := dw_16 (pc9 (k := 416) (j := 18) lDL_13 rfl)
theorem dL_law_435 : decode cL_law 435 = .ok (.aload_n 3, 1) := dw_119 (pc9 (k := 416) (j := 19) lDL_13 rfl)
theorem dL_law_436 : decode cL_law 436 = .ok (.invokestatic 212, 3) := dw_810 (pc9 (k := 416) (j := 20) lDL_13 rfl)
theorem dL_law_439 : decode cL_law 439 = .ok (.istore 6, 2) := dw_35 (pc9 (k := 416) (j := 23) lDL_13 rfl)
theorem dL_law_441 : decode cL_law 441 = .ok (.aload_n 2, 1) := dw_52 (pc9 (k := 416) (j := 25) lDL_13 rfl)
theorem dL_law_442 : decode cL_law 442 = .ok (.aload_n 0, 1) := dw_0 (pc9 (k := 416) (j := 26) lDL_13 rfl)
theorem dL_law_443 : decode cL_law 443 = .ok (.iload 5, 2) := dw_39 (pc9 (k := 416) (j := 27) lDL_13 rfl)
theorem dL_law_445 : decode cL_law 445 = .ok (.iconst 1, 1) := dw_26 (pc9 (k := 416) (j := 29) lDL_13 rfl)
theorem dL_law_446 : decode cL_law 446 = .ok (.iadd, 1) := dw_43 (pc9 (k := 416) (j := 30) lDL_13 rfl)
theorem dL_law_447 : decode cL_law 447 = .ok (.iaload, 1) := dw_16 (pc9 (k := 416) (j := 31) lDL_13 rfl)
theorem dL_law_448 : decode cL_law 448 = .ok (.aload_n 0, 1) := dw_0 (pc9 (k := 448) (j := 0) lDL_14 rfl)
theorem dL_law_449 : decode cL_law 449 = .ok (.iload 5, 2) := dw_39 (pc9 (k := 448) (j := 1) lDL_14 rfl)
theorem dL_law_451 : decode cL_law 451 = .ok (.iconst 2, 1) := dw_260 (pc9 (k := 448) (j := 3) lDL_14 rfl)
theorem dL_law_452 : decode cL_law 452 = .ok (.iadd, 1) := dw_43 (pc9 (k := 448) (j := 4) lDL_14 rfl)
theorem dL_law_453 : decode cL_law 453 = .ok (.iaload, 1) := dw_16 (pc9 (k := 448) (j := 5) lDL_14 rfl)
theorem dL_law_454 : decode cL_law 454 = .ok (.aload_n 0, 1) := dw_0 (pc9 (k := 448) (j := 6) lDL_14 rfl)
theorem dL_law_455 : decode cL_law 455 = .ok (.iload 5, 2) := dw_39 (pc9 (k := 448) (j := 7) lDL_14 rfl)
theorem dL_law_457 : decode cL_law 457 = .ok (.iconst 3, 1) := dw_221 (pc9 (k := 448) (j := 9) lDL_14 rfl)
theorem dL_law_458 : decode cL_law 458 = .ok (.iadd, 1) := dw_43 (pc9 (k := 448) (j := 10) lDL_14 rfl)
theorem dL_law_459 : decode cL_law 459 = .ok (.iaload, 1) := dw_16 (pc9 (k := 448) (j := 11) lDL_14 rfl)
theorem dL_law_460 : decode cL_law 460 = .ok (.invokevirtual 215, 3) := dw_811 (pc9 (k := 448) (j := 12) lDL_14 rfl)
theorem dL_law_463 : decode cL_law 463 = .ok (.istore 7, 2) := dw_58 (pc9 (k := 448) (j := 15) lDL_14 rfl)
theorem dL_law_465 : decode cL_law 465 = .ok (.goto 2287, 3) := dw_812 (pc9 (k := 448) (j := 17) lDL_14 rfl)
theorem dL_law_468 : decode cL_law 468 = .ok (.aload_n 1, 1) := dw_5 (pc9 (k := 448) (j := 20) lDL_14 rfl)
theorem dL_law_469 : decode cL_law 469 = .ok (.aload_n 0, 1) := dw_0 (pc9 (k := 448) (j := 21) lDL_14 rfl)
theorem dL_law_470 : decode cL_law 470 = .ok (.iload 5, 2) := dw_39 (pc9 (k := 448) (j := 22) lDL_14 rfl)
theorem dL_law_472 : decode cL_law 472 = .ok (.iconst 1, 1) := dw_26 (pc9 (k := 448) (j := 24) lDL_14 rfl)
theorem dL_law_473 : decode cL_law 473 = .ok (.iadd, 1) := dw_43 (pc9 (k := 448) (j := 25) lDL_14 rfl)
theorem dL_law_474 : decode cL_law 474 = .ok (.iaload, 1) := dw_16 (pc9 (k := 448) (j := 26) lDL_14 rfl)
theorem dL_law_475 : decode cL_law 475 = .ok (.aload_n 0, 1) := dw_0 (pc9 (k := 448) (j := 27) lDL_14 rfl)
theorem dL_law_476 : decode cL_law 476 = .ok (.iload 5, 2) := dw_39 (pc9 (k := 448) (j := 28) lDL_14 rfl)
theorem dL_law_478 : decode cL_law 478 = .ok (.iconst 2, 1) := dw_260 (pc9 (k := 448) (j := 30) lDL_14 rfl)
theorem dL_law_479 : decode cL_law 479 = .ok (.iadd, 1) := dw_43 (pc9 (k := 448) (j := 31) lDL_14 rfl)
theorem dL_law_480 : decode cL_law 480 = .ok (.iaload, 1) := dw_16 (pc9 (k := 480) (j := 0) lDL_15 rfl)
theorem dL_law_481 : decode cL_law 481 = .ok (.aload_n 3, 1) := dw_119 (pc9 (k := 480) (j := 1) lDL_15 rfl)
theorem dL_law_482 : decode cL_law 482 = .ok (.invokestatic 216, 3) := dw_622 (pc9 (k := 480) (j := 2) lDL_15 rfl)
theorem dL_law_485 : decode cL_law 485 = .ok (.istore 6, 2) := dw_35 (pc9 (k := 480) (j := 5) lDL_15 rfl)
theorem dL_law_487 : decode cL_law 487 = .ok (.aload_n 2, 1) := dw_52 (pc9 (k := 480) (j := 7) lDL_15 rfl)
theorem dL_law_488 : decode cL_law 488 = .ok (.aload_n 0, 1) := dw_0 (pc9 (k := 480) (j := 8) lDL_15 rfl)
theorem dL_law_489 : decode cL_law 489 = .ok (.iload 5, 2) := dw_39 (pc9 (k := 480) (j := 9) lDL_15 rfl)
theorem dL_law_491 : decode cL_law 491 = .ok (.iconst 1, 1) := dw_26 (pc9 (k := 480) (j := 11) lDL_15 rfl)
theorem dL_law_492 : decode cL_law 492 = .ok (.iadd, 1) := dw_43 (pc9 (k := 480) (j := 12) lDL_15 rfl)
theorem dL_law_493 : decode cL_law 493 = .ok (.iaload, 1) := dw_16 (pc9 (k := 480) (j := 13) lDL_15 rfl)
theorem dL_law_494 : decode cL_law 494 = .ok (.aload_n 0, 1) := dw_0 (pc9 (k := 480) (j := 14) lDL_15 rfl)
theorem dL_law_495 : decode cL_law 495 = .ok (.iload 5, 2) := dw_39 (pc9 (k := 480) (j := 15) lDL_15 rfl)
theorem dL_law_497 : decode cL_law 497 = .ok (.iconst 2, 1) := dw_260 (pc9 (k := 480) (j := 17) lDL_15 rfl)
theorem dL_law_498 : decode cL_law 498 = .ok (.iadd, 1) := dw_43 (pc9 (k := 480) (j := 18) lDL_15 rfl)
theorem dL_law_499 : decode cL_law 499 = .ok (.iaload, 1) := dw_16 (pc9 (k := 480) (j := 19) lDL_15 rfl)
theorem dL_law_500 : decode cL_law 500 = .ok (.invokevirtual 219, 3) := dw_407 (pc9 (k := 480) (j := 20) lDL_15 rfl)
theorem dL_law_503 : decode cL_law 503 = .ok (.lstore 7, 2) := dw_737 (pc9 (k := 480) (j := 23) lDL_15 rfl)
theorem dL_law_505 : decode cL_law 505 = .ok (.goto 2247, 3) := dw_813 (pc9 (k := 480) (j := 25) lDL_15 rfl)
theorem dL_law_508 : decode cL_law 508 = .ok (.aload_n 1, 1) := dw_5 (pc9 (k := 480) (j := 28) lDL_15 rfl)
theorem dL_law_509 : decode cL_law 509 = .ok (.aload_n 0, 1) := dw_0 (pc9 (k := 480) (j := 29) lDL_15 rfl)
theorem dL_law_510 : decode cL_law 510 = .ok (.iload 5, 2) := dw_39 (pc9 (k := 480) (j := 30) lDL_15 rfl)
theorem dL_law_512 : decode cL_law 512 = .ok (.iconst 1, 1) := dw_26 (pc9 (k := 512) (j := 0) lDL_16 rfl)
theorem dL_law_513 : decode cL_law 513 = .ok (.iadd, 1) := dw_43 (pc9 (k := 512) (j := 1) lDL_16 rfl)
theorem dL_law_514 : decode cL_law 514 = .ok (.iaload, 1) := dw_16 (pc9 (k := 512) (j := 2) lDL_16 rfl)
theorem dL_law_515 : decode cL_law 515 = .ok (.aload_n 0, 1) := dw_0 (pc9 (k := 512) (j := 3) lDL_16 rfl)
theorem dL_law_516 : decode cL_law 516 = .ok (.iload 5, 2) := dw_39 (pc9 (k := 512) (j := 4) lDL_16 rfl)
theorem dL_law_518 : decode cL_law 518 = .ok (.iconst 2, 1) := dw_260 (pc9 (k := 512) (j := 6) lDL_16 rfl)
theorem dL_law_519 : decode cL_law 519 = .ok (.iadd, 1) := dw_43 (pc9 (k := 512) (j := 7) lDL_16 rfl)
theorem dL_law_520 : decode cL_law 520 = .ok (.iaload, 1) := dw_16 (pc9 (k := 512) (j := 8) lDL_16 rfl)
theorem dL_law_521 : decode cL_law 521 = .ok (.aload_n 0, 1) := dw_0 (pc9 (k := 512) (j := 9) lDL_16 rfl)
theorem dL_law_522 : decode cL_law 522 = .ok (.iload 5, 2) := dw_39 (pc9 (k := 512) (j := 10) lDL_16 rfl)
theorem dL_law_524 : decode cL_law 524 = .ok (.iconst 3, 1) := dw_221 (pc9 (k := 512) (j := 12) lDL_16 rfl)
theorem dL_law_525 : decode cL_law 525 = .ok (.iadd, 1) := dw_43 (pc9 (k := 512) (j := 13) lDL_16 rfl)
theorem dL_law_526 : decode cL_law 526 = .ok (.iaload, 1) := dw_16 (pc9 (k := 512) (j := 14) lDL_16 rfl)
theorem dL_law_527 : decode cL_law 527 = .ok (.aload_n 3, 1) := dw_119 (pc9 (k := 512) (j := 15) lDL_16 rfl)
theorem dL_law_528 : decode cL_law 528 = .ok (.invokestatic 220, 3) := dw_814 (pc9 (k := 512) (j := 16) lDL_16 rfl)
theorem dL_law_531 : decode cL_law 531 = .ok (.istore 6, 2) := dw_35 (pc9 (k := 512) (j := 19) lDL_16 rfl)
theorem dL_law_533 : decode cL_law 533 = .ok (.aload_n 2, 1) := dw_52 (pc9 (k := 512) (j := 21) lDL_16 rfl)
theorem dL_law_534 : decode cL_law 534 = .ok (.aload_n 0, 1) := dw_0 (pc9 (k := 512) (j := 22) lDL_16 rfl)
theorem dL_law_535 : decode cL_law 535 = .ok (.iload 5, 2) := dw_39 (pc9 (k := 512) (j := 23) lDL_16 rfl)
theorem dL_law_537 : decode cL_law 537 = .ok (.iconst 1, 1) := dw_26 (pc9 (k := 512) (j := 25) lDL_16 rfl)
theorem dL_law_538 : decode cL_law 538 = .ok (.iadd, 1) := dw_43 (pc9 (k := 512) (j := 26) lDL_16 rfl)
theorem dL_law_539 : decode cL_law 539 = .ok (.iaload, 1) := dw_16 (pc9 (k := 512) (j := 27) lDL_16 rfl)
theorem dL_law_540 : decode cL_law 540 = .ok (.aload_n 0, 1) := dw_0 (pc9 (k := 512) (j := 28) lDL_16 rfl)
theorem dL_law_541 : decode cL_law 541 = .ok (.iload 5, 2) := dw_39 (pc9 (k := 512) (j := 29) lDL_16 rfl)
theorem dL_law_543 : decode cL_law 543 = .ok (.iconst 2, 1) := dw_260 (pc9 (k := 512) (j := 31) lDL_16 rfl)
theorem dL_law_544 : decode cL_law 544 = .ok (.iadd, 1) := dw_43 (pc9 (k := 544) (j := 0) lDL_17 rfl)
theorem dL_law_545 : decode cL_law 545 = .ok (.iaload, 1) := dw_16 (pc9 (k := 544) (j := 1) lDL_17 rfl)
theorem dL_law_546 : decode cL_law 546 = .ok (.aload_n 0, 1) := dw_0 (pc9 (k := 544) (j := 2) lDL_17 rfl)
theorem dL_law_547 : decode cL_law 547 = .ok (.iload 5, 2) := dw_39 (pc9 (k := 544) (j := 3) lDL_17 rfl)
theorem dL_law_549 : decode cL_law 549 = .ok (.iconst 3, 1) := dw_221 (pc9 (k := 544) (j := 5) lDL_17 rfl)
theorem dL_law_550 : decode cL_law 550 = .ok (.iadd, 1) := dw_43 (pc9 (k := 544) (j := 6) lDL_17 rfl)
theorem dL_law_551 : decode cL_law 551 = .ok (.iaload, 1) := dw_16 (pc9 (k := 544) (j := 7) lDL_17 rfl)
theorem dL_law_552 : decode cL_law 552 = .ok (.invokevirtual 222, 3) := dw_408 (pc9 (k := 544) (j := 8) lDL_17 rfl)
theorem dL_law_555 : decode cL_law 555 = .ok (.istore 7, 2) := dw_58 (pc9 (k := 544) (j := 11) lDL_17 rfl)
theorem dL_law_557 : decode cL_law 557 = .ok (.goto 2195, 3) := dw_815 (pc9 (k := 544) (j := 13) lDL_17 rfl)
theorem dL_law_560 : decode cL_law 560 = .ok (.aload_n 1, 1) := dw_5 (pc9 (k := 544) (j := 16) lDL_17 rfl)
theorem dL_law_561 : decode cL_law 561 = .ok (.aload_n 0, 1) := dw_0 (pc9 (k := 544) (j := 17) lDL_17 rfl)
theorem dL_law_562 : decode cL_law 562 = .ok (.iload 5, 2) := dw_39 (pc9 (k := 544) (j := 18) lDL_17 rfl)
theorem dL_law_564 : decode cL_law 564 = .ok (.iconst 1, 1) := dw_26 (pc9 (k := 544) (j := 20) lDL_17 rfl)
theorem dL_law_565 : decode cL_law 565 = .ok (.iadd, 1) := dw_43 (pc9 (k := 544) (j := 21) lDL_17 rfl)
theorem dL_law_566 : decode cL_law 566 = .ok (.iaload, 1) := dw_16 (pc9 (k := 544) (j := 22) lDL_17 rfl)
theorem dL_law_567 : decode cL_law 567 = .ok (.aload_n 0, 1) := dw_0 (pc9 (k := 544) (j := 23) lDL_17 rfl)
theorem dL_law_568 : decode cL_law 568 = .ok (.iload 5, 2) := dw_39 (pc9 (k := 544) (j := 24) lDL_17 rfl)
theorem dL_law_570 : decode cL_law 570 = .ok (.iconst 2, 1) := dw_260 (pc9 (k := 544) (j := 26) lDL_17 rfl)
theorem dL_law_571 : decode cL_law 571 = .ok (.iadd, 1) := dw_43 (pc9 (k := 544) (j := 27) lDL_17 rfl)
theorem dL_law_572 : decode cL_law 572 = .ok (.iaload, 1) := dw_16 (pc9 (k := 544) (j := 28) lDL_17 rfl)
theorem dL_law_573 : decode cL_law 573 = .ok (.aload_n 0, 1) := dw_0 (pc9 (k := 544) (j := 29) lDL_17 rfl)
theorem dL_law_574 : decode cL_law 574 = .ok (.iload 5, 2) := dw_39 (pc9 (k := 544) (j := 30) lDL_17 rfl)
theorem dL_law_576 : decode cL_law 576 = .ok (.iconst 3, 1) := dw_221 (pc9 (k := 576) (j := 0) lDL_18 rfl)
theorem dL_law_577 : decode cL_law 577 = .ok (.iadd, 1) := dw_43 (pc9 (k := 576) (j := 1) lDL_18 rfl)
theorem dL_law_578 : decode cL_law 578 = .ok (.iaload, 1) := dw_16 (pc9 (k := 576) (j := 2) lDL_18 rfl)
theorem dL_law_579 : decode cL_law 579 = .ok (.aload_n 3, 1) := dw_119 (pc9 (k := 576) (j := 3) lDL_18 rfl)
theorem dL_law_580 : decode cL_law 580 = .ok (.invokestatic 223, 3) := dw_816 (pc9 (k := 576) (j := 4) lDL_18 rfl)
theorem dL_law_583 : decode cL_law 583 = .ok (.istore 6, 2) := dw_35 (pc9 (k := 576) (j := 7) lDL_18 rfl)
theorem dL_law_585 : decode cL_law 585 = .ok (.aload_n 2, 1) := dw_52 (pc9 (k := 576) (j := 9) lDL_18 rfl)
theorem dL_law_586 : decode cL_law 586 = .ok (.aload_n 0, 1) := dw_0 (pc9 (k := 576) (j := 10) lDL_18 rfl)
theorem dL_law_587 : decode cL_law 587 = .ok (.iload 5, 2) := dw_39 (pc9 (k := 576) (j := 11) lDL_18 rfl)
theorem dL_law_589 : decode cL_law 589 = .ok (.iconst 1, 1) := dw_26 (pc9 (k := 576) (j := 13) lDL_18 rfl)
theorem dL_law_590 : decode cL_law 590 = .ok (.iadd, 1) := dw_43 (pc9 (k := 576) (j := 14) lDL_18 rfl)
theorem dL_law_591 : decode cL_law 591 = .ok (.iaload, 1) := dw_16 (pc9 (k := 576) (j := 15) lDL_18 rfl)
theorem dL_law_592 : decode cL_law 592 = .ok (.aload_n 0, 1) := dw_0 (pc9 (k := 576) (j := 16) lDL_18 rfl)
theorem dL_law_593 : decode cL_law 593 = .ok (.iload 5, 2) := dw_39 (pc9 (k := 576) (j := 17) lDL_18 rfl)
theorem dL_law_595 : decode cL_law 595 = .ok (.iconst 2, 1) := dw_260 (pc9 (k := 576) (j := 19) lDL_18 rfl)
theorem dL_law_596 : decode cL_law 596 = .ok (.iadd, 1) := dw_43 (pc9 (k := 576) (j := 20) lDL_18 rfl)
theorem dL_law_597 : decode cL_law 597 = .ok (.iaload, 1) := dw_16 (pc9 (k := 576) (j := 21) lDL_18 rfl)
theorem dL_law_598 : decode cL_law 598 = .ok (.aload_n 0, 1) := dw_0 (pc9 (k := 576) (j := 22) lDL_18 rfl)
theorem dL_law_599 : decode cL_law 599 = .ok (.iload 5, 2) := dw_39 (pc9 (k := 576) (j := 23) lDL_18 rfl)
theorem dL_law_601 : decode cL_law 601 = .ok (.iconst 3, 1) := dw_221 (pc9 (k := 576) (j := 25) lDL_18 rfl)
theorem dL_law_602 : decode cL_law 602 = .ok (.iadd, 1) := dw_43 (pc9 (k := 576) (j := 26) lDL_18 rfl)
theorem dL_law_603 : decode cL_law 603 = .ok (.iaload, 1) := dw_16 (pc9 (k := 576) (j := 27) lDL_18 rfl)
theorem dL_law_604 : decode cL_law 604 = .ok (.invokevirtual 225, 3) := dw_817 (pc9 (k := 576) (j := 28) lDL_18 rfl)
theorem dL_law_607 : decode cL_law 607 = .ok (.istore 7, 2) := dw_58 (pc9 (k := 576) (j := 31) lDL_18 rfl)
theorem dL_law_609 : decode cL_law 609 = .ok (.goto 2143, 3) := dw_818 (pc9 (k := 608) (j := 1) lDL_19 rfl)
theorem dL_law_612 : decode cL_law 612 = .ok (.aload_n 1, 1) := dw_5 (pc9 (k := 608) (j := 4) lDL_19 rfl)
theorem dL_law_613 : decode cL_law 613 = .ok (.aload_n 0, 1) := dw_0 (pc9 (k := 608) (j := 5) lDL_19 rfl)
theorem dL_law_614 : decode cL_law 614 = .ok (.iload 5, 2) := dw_39 (pc9 (k := 608) (j := 6) lDL_19 rfl)
theorem dL_law_616 : decode cL_law 616 = .ok (.iconst 1, 1) := dw_26 (pc9 (k := 608) (j := 8) lDL_19 rfl)
theorem dL_law_617 : decode cL_law 617 = .ok (.iadd, 1) := dw_43 (pc9 (k := 608) (j := 9) lDL_19 rfl)
theorem dL_law_618 : decode cL_law 618 = .ok (.iaload, 1) := dw_16 (pc9 (k := 608) (j := 10) lDL_19 rfl)
theorem dL_law_619 : decode cL_law 619 = .ok (.aload_n 3, 1) := dw_119 (pc9 (k := 608) (j := 11) lDL_19 rfl)
theorem dL_law_620 : decode cL_law 620 = .ok (.invokestatic 226, 3) := dw_819 (pc9 (k := 608) (j := 12) lDL_19 rfl)
theorem dL_law_623 : decode cL_law 623 = .ok (.istore 6, 2) := dw_35 (pc9 (k := 608) (j := 15) lDL_19 rfl)
theorem dL_law_625 : decode cL_law 625 = .ok (.aload_n 2, 1) := dw_52 (pc9 (k := 608) (j := 17) lDL_19 rfl)
theorem dL_law_626 : decode cL_law 626 = .ok (.aload_n 0, 1) := dw_0 (pc9 (k := 608) (j := 18) lDL_19 rfl)
theorem dL_law_627 : decode cL_law 627 = .ok (.iload 5, 2) := dw_39 (pc9 (k := 608) (j := 19) lDL_19 rfl)
theorem dL_law_629 : decode cL_law 629 = .ok (.iconst 1, 1) := dw_26 (pc9 (k := 608) (j := 21) lDL_19 rfl)
theorem dL_law_630 : decode cL_law 630 = .ok (.iadd, 1) := dw_43 (pc9 (k := 608) (j := 22) lDL_19 rfl)
theorem dL_law_631 : decode cL_law 631 = .ok (.iaload, 1) := dw_16 (pc9 (k := 608) (j := 23) lDL_19 rfl)
theorem dL_law_632 : decode cL_law 632 = .ok (.invokevirtual 228, 3) := dw_820 (pc9 (k := 608) (j := 24) lDL_19 rfl)
theorem dL_law_635 : decode cL_law 635 = .ok (.istore 7, 2) := dw_58 (pc9 (k := 608) (j := 27) lDL_19 rfl)
theorem dL_law_637 : decode cL_law 637 = .ok (.goto 2115, 3) := dw_821 (pc9 (k := 608) (j := 29) lDL_19 rfl)
theorem dL_law_640 : decode cL_law 640 = .ok (.aload_n 1, 1) := dw_5 (pc9 (k := 640) (j := 0) lDL_20 rfl)
theorem dL_law_641 : decode cL_law 641 = .ok (.aload_n 0, 1) := dw_0 (pc9 (k := 640) (j := 1) lDL_20 rfl)
theorem dL_law_642 : decode cL_law 642 = .ok (.iload 5, 2) := dw_39 (pc9 (k := 640) (j := 2) lDL_20 rfl)
theorem dL_law_644 : decode cL_law 644 = .ok (.iconst 1, 1) := dw_26 (pc9 (k := 640) (j := 4) lDL_20 rfl)
theorem dL_law_645 : decode cL_law 645 = .ok (.iadd, 1) := dw_43 (pc9 (k := 640) (j := 5) lDL_20 rfl)
theorem dL_law_646 : decode cL_law 646 = .ok (.iaload, 1) := dw_16 (pc9 (k := 640) (j := 6) lDL_20 rfl)
theorem dL_law_647 : decode cL_law 647 = .ok (.aload_n 0, 1) := dw_0 (pc9 (k := 640) (j := 7) lDL_20 rfl)
theorem dL_law_648 : decode cL_law 648 = .ok (.iload 5, 2) := dw_39 (pc9 (k := 640) (j := 8) lDL_20 rfl)
theorem dL_law_650 : decode cL_law 650 = .ok (.iconst 2, 1) := dw_260 (pc9 (k := 640) (j := 10) lDL_20 rfl)
theorem dL_law_651 : decode cL_law 651 = .ok (.iadd, 1) := dw_43 (pc9 (k := 640) (j := 11) lDL_20 rfl)
theorem dL_law_652 : decode cL_law 652 = .ok (.iaload, 1) := dw_16 (pc9 (k := 640) (j := 12) lDL_20 rfl)
theorem dL_law_653 : decode cL_law 653 = .ok (.aload_n 3, 1) := dw_119 (pc9 (k := 640) (j := 13) lDL_20 rfl)
theorem dL_law_654 : decode cL_law 654 = .ok (.invokestatic 229, 3) := dw_822 (pc9 (k := 640) (j := 14) lDL_20 rfl)
theorem dL_law_657 : decode cL_law 657 = .ok (.istore 6, 2) := dw_35 (pc9 (k := 640) (j := 17) lDL_20 rfl)
theorem dL_law_659 : decode cL_law 659 = .ok (.aload_n 2, 1) := dw_52 (pc9 (k := 640) (j := 19) lDL_20 rfl)
theorem dL_law_660 : decode cL_law 660 = .ok (.aload_n 0, 1) := dw_0 (pc9 (k := 640) (j := 20) lDL_20 rfl)
theorem dL_law_661 : decode cL_law 661 = .ok (.iload 5, 2) := dw_39 (pc9 (k := 640) (j := 21) lDL_20 rfl)
theorem dL_law_663 : decode cL_law 663 = .ok (.iconst 1, 1) := dw_26 (pc9 (k := 640) (j := 23) lDL_20 rfl)
theorem dL_law_664 : decode cL_law 664 = .ok (.iadd, 1) := dw_43 (pc9 (k := 640) (j := 24) lDL_20 rfl)
theorem dL_law_665 : decode cL_law 665 = .ok (.iaload, 1) := dw_16 (pc9 (k := 640) (j := 25) lDL_20 rfl)
theorem dL_law_666 : decode cL_law 666 = .ok (.aload_n 0, 1) := dw_0 (pc9 (k := 640) (j := 26) lDL_20 rfl)
theorem dL_law_667 : decode cL_law 667 = .ok (.iload 5, 2) := dw_39 (pc9 (k := 640) (j := 27) lDL_20 rfl)
theorem dL_law_669 : decode cL_law 669 = .ok (.iconst 2, 1) := dw_260 (pc9 (k := 640) (j := 29) lDL_20 rfl)
theorem dL_law_670 : decode cL_law 670 = .ok (.iadd, 1) := dw_43 (pc9 (k := 640) (j := 30) lDL_20 rfl)
theorem dL_law_671 : decode cL_law 671 = .ok (.iaload, 1) := dw_16 (pc9 (k := 640) (j := 31) lDL_20 rfl)
theorem dL_law_672 : decode cL_law 672 = .ok (.invokevirtual 231, 3) := dw_823 (pc9 (k := 672) (j := 0) lDL_21 rfl)
theorem dL_law_675 : decode cL_law 675 = .ok (.istore 7, 2) := dw_58 (pc9 (k := 672) (j := 3) lDL_21 rfl)
theorem dL_law_677 : decode cL_law 677 = .ok (.goto 2075, 3) := dw_824 (pc9 (k := 672) (j := 5) lDL_21 rfl)
theorem dL_law_680 : decode cL_law 680 = .ok (.aload_n 1, 1) := dw_5 (pc9 (k := 672) (j := 8) lDL_21 rfl)
theorem dL_law_681 : decode cL_law 681 = .ok (.aload_n 0, 1) := dw_0 (pc9 (k := 672) (j := 9) lDL_21 rfl)
theorem dL_law_682 : decode cL_law 682 = .ok (.iload 5, 2) := dw_39 (pc9 (k := 672) (j := 10) lDL_21 rfl)
theorem dL_law_684 : decode cL_law 684 = .ok (.iconst 1, 1) := dw_26 (pc9 (k := 672) (j := 12) lDL_21 rfl)
theorem dL_law_685 : decode cL_law 685 = .ok (.iadd, 1) := dw_43 (pc9 (k := 672) (j := 13) lDL_21 rfl)
theorem dL_law_686 : decode cL_law 686 = .ok (.iaload, 1) := dw_16 (pc9 (k := 672) (j := 14) lDL_21 rfl)
theorem dL_law_687 : decode cL_law 687 = .ok (.aload_n 0, 1) := dw_0 (pc9 (k := 672) (j := 15) lDL_21 rfl)
theorem dL_law_688 : decode cL_law 688 = .ok (.iload 5, 2) := dw_39 (pc9 (k := 672) (j := 16) lDL_21 rfl)
theorem dL_law_690 : decode cL_law 690 = .ok (.iconst 2, 1) := dw_260 (pc9 (k := 672) (j := 18) lDL_21 rfl)
theorem dL_law_691 : decode cL_law 691 = .ok (.iadd, 1) := dw_43 (pc9 (k := 672) (j := 19) lDL_21 rfl)
theorem dL_law_692 : decode cL_law 692 = .ok (.iaload, 1) := dw_16 (pc9 (k := 672) (j := 20) lDL_21 rfl)
theorem dL_law_693 : decode cL_law 693 = .ok (.aload_n 3, 1) := dw_119 (pc9 (k := 672) (j := 21) lDL_21 rfl)
theorem dL_law_694 : decode cL_law 694 = .ok (.invokestatic 232, 3) := dw_825 (pc9 (k := 672) (j := 22) lDL_21 rfl)
theorem dL_law_697 : decode cL_law 697 = .ok (.istore 6, 2) := dw_35 (pc9 (k := 672) (j := 25) lDL_21 rfl)
theorem dL_law_699 : decode cL_law 699 = .ok (.aload_n 2, 1) := dw_52 (pc9 (k := 672) (j := 27) lDL_21 rfl)
theorem dL_law_700 : decode cL_law 700 = .ok (.aload_n 0, 1) := dw_0 (pc9 (k := 672) (j := 28) lDL_21 rfl)
theorem dL_law_701 : decode cL_law 701 = .ok (.iload 5, 2) := dw_39 (pc9 (k := 672) (j := 29) lDL_21 rfl)
theorem dL_law_703 : decode cL_law 703 = .ok (.iconst 1, 1) := dw_26 (pc9 (k := 672) (j := 31) lDL_21 rfl)
theorem dL_law_704 : decode cL_law 704 = .ok (.iadd, 1) := dw_43 (pc9 (k := 704) (j := 0) lDL_22 rfl)
theorem dL_law_705 : decode cL_law 705 = .ok (.iaload, 1) := dw_16 (pc9 (k := 704) (j := 1) lDL_22 rfl)
theorem dL_law_706 : decode cL_law 706 = .ok (.aload_n 0, 1) := dw_0 (pc9 (k := 704) (j := 2) lDL_22 rfl)
theorem dL_law_707 : decode cL_law 707 = .ok (.iload 5, 2) := dw_39 (pc9 (k := 704) (j := 3) lDL_22 rfl)
theorem dL_law_709 : decode cL_law 709 = .ok (.iconst 2, 1) := dw_260 (pc9 (k := 704) (j := 5) lDL_22 rfl)
theorem dL_law_710 : decode cL_law 710 = .ok (.iadd, 1) := dw_43 (pc9 (k := 704) (j := 6) lDL_22 rfl)
theorem dL_law_711 : decode cL_law 711 = .ok (.iaload, 1) := dw_16 (pc9 (k := 704) (j := 7) lDL_22 rfl)
theorem dL_law_712 : decode cL_law 712 = .ok (.invokevirtual 234, 3) := dw_414 (pc9 (k := 704) (j := 8) lDL_22 rfl)
theorem dL_law_715 : decode cL_law 715 = .ok (.istore 7, 2) := dw_58 (pc9 (k := 704) (j := 11) lDL_22 rfl)
theorem dL_law_717 : decode cL_law 717 = .ok (.goto 2035, 3) := dw_826 (pc9 (k := 704) (j := 13) lDL_22 rfl)
theorem dL_law_720 : decode cL_law 720 = .ok (.aload_n 1, 1) := dw_5 (pc9 (k := 704) (j := 16) lDL_22 rfl)
theorem dL_law_721 : decode cL_law 721 = .ok (.aload_n 0, 1) := dw_0 (pc9 (k := 704) (j := 17) lDL_22 rfl)
theorem dL_law_722 : decode cL_law 722 = .ok (.iload 5, 2) := dw_39 (pc9 (k := 704) (j := 18) lDL_22 rfl)
theorem dL_law_724 : decode cL_law 724 = .ok (.iconst 1, 1) := dw_26 (pc9 (k := 704) (j := 20) lDL_22 rfl)
theorem dL_law_725 : decode cL_law 725 = .ok (.iadd, 1) := dw_43 (pc9 (k := 704) (j := 21) lDL_22 rfl)
theorem dL_law_726 : decode cL_law 726 = .ok (.iaload, 1) := dw_16 (pc9 (k := 704) (j := 22) lDL_22 rfl)
theorem dL_law_727 : decode cL_law 727 = .ok (.aload_n 3, 1) := dw_119 (pc9 (k := 704) (j := 23) lDL_22 rfl)
theorem dL_law_728 : decode cL_law 728 = .ok (.invokestatic 235, 3) := dw_827 (pc9 (k := 704) (j := 24) lDL_22 rfl)
theorem dL_law_731 : decode cL_law 731 = .ok (.istore 6, 2) := dw_35 (pc9 (k := 704) (j := 27) lDL_22 rfl)
theorem dL_law_733 : decode cL_law 733 = .ok (.aload_n 2, 1) := dw_52 (pc9 (k := 704) (j := 29) lDL_22 rfl)
theorem dL_law_734 : decode cL_law 734 = .ok (.aload_n 0, 1) := dw_0 (pc9 (k := 704) (j := 30) lDL_22 rfl)
theorem dL_law_735 : decode cL_law 735 = .ok (.iload 5, 2) := dw_39 (pc9 (k := 704) (j := 31) lDL_22 rfl)
theorem dL_law_737 : decode cL_law 737 = .ok (.iconst 1, 1) := dw_26 (pc9 (k := 736) (j := 1) lDL_23 rfl)
theorem dL_law_738 : decode cL_law 738 = .ok (.iadd, 1) := dw_43 (pc9 (k := 736) (j := 2) lDL_23 rfl)
theorem dL_law_739 : decode cL_law 739 = .ok (.iaload, 1) := dw_16 (pc9 (k := 736) (j := 3) lDL_23 rfl)
theorem dL_law_740 : decode cL_law 740 = .ok (.invokevirtual 237, 3) := dw_415 (pc9 (k := 736) (j := 4) lDL_23 rfl)
theorem dL_law_743 : decode cL_law 743 = .ok (.istore 7, 2) := dw_58 (pc9 (k := 736) (j := 7) lDL_23 rfl)
theorem dL_law_745 : decode cL_law 745 = .ok (.goto 2007, 3) := dw_828 (pc9 (k := 736) (j := 9) lDL_23 rfl)
theorem dL_law_748 : decode cL_law 748 = .ok (.aload_n 1, 1) := dw_5 (pc9 (k := 736) (j := 12) lDL_23 rfl)
theorem dL_law_749 : decode cL_law 749 = .ok (.aload_n 0, 1) := dw_0 (pc9 (k := 736) (j := 13) lDL_23 rfl)
theorem dL_law_750 : decode cL_law 750 = .ok (.iload 5, 2) := dw_39 (pc9 (k := 736) (j := 14) lDL_23 rfl)
theorem dL_law_752 : decode cL_law 752 = .ok (.iconst 1, 1) := dw_26 (pc9 (k := 736) (j := 16) lDL_23 rfl)
theorem dL_law_753 : decode cL_law 753 = .ok (.iadd, 1) := dw_43 (pc9 (k := 736) (j := 17) lDL_23 rfl)
theorem dL_law_754 : decode cL_law 754 = .ok (.iaload, 1) := dw_16 (pc9 (k := 736) (j := 18) lDL_23 rfl)
theorem dL_law_755 : decode cL_law 755 = .ok (.aload_n 0, 1) := dw_0 (pc9 (k := 736) (j := 19) lDL_23 rfl)
theorem dL_law_756 : decode cL_law 756 = .ok (.iload 5, 2) := dw_39 (pc9 (k := 736) (j := 20) lDL_23 rfl)
theorem dL_law_758 : decode cL_law 758 = .ok (.iconst 2, 1) := dw_260 (pc9 (k := 736) (j := 22) lDL_23 rfl)
theorem dL_law_759 : decode cL_law 759 = .ok (.iadd, 1) := dw_43 (pc9 (k := 736) (j := 23) lDL_23 rfl)
theorem dL_law_760 : decode cL_law 760 = .ok (.iaload, 1) := dw_16 (pc9 (k := 736) (j := 24) lDL_23 rfl)
theorem dL_law_761 : decode cL_law 761 = .ok (.aload_n 3, 1) := dw_119 (pc9 (k := 736) (j := 25) lDL_23 rfl)
theorem dL_law_762 : decode cL_law 762 = .ok (.invokestatic 238, 3) := dw_829 (pc9 (k := 736) (j := 26) lDL_23 rfl)
theorem dL_law_765 : decode cL_law 765 = .ok (.istore 6, 2) := dw_35 (pc9 (k := 736) (j := 29) lDL_23 rfl)
theorem dL_law_767 : decode cL_law 767 = .ok (.aload_n 2, 1) := dw_52 (pc9 (k := 736) (j := 31) lDL_23 rfl)
theorem dL_law_768 : decode cL_law 768 = .ok (.aload_n 0, 1) := dw_0 (pc9 (k := 768) (j := 0) lDL_24 rfl)
theorem dL_law_769 : decode cL_law 769 = .ok (.iload 5, 2) := dw_39 (pc9 (k := 768) (j := 1) lDL_24 rfl)
theorem dL_law_771 : decode cL_law 771 = .ok (.iconst 1, 1) := dw_26 (pc9 (k := 768) (j := 3) lDL_24 rfl)
theorem dL_law_772 : decode cL_law 772 = .ok (.iadd, 1) := dw_43 (pc9 (k := 768) (j := 4) lDL_24 rfl)
theorem dL_law_773 : decode cL_law 773 = .ok (.iaload, 1) := dw_16 (pc9 (k := 768) (j := 5) lDL_24 rfl)
theorem dL_law_774 : decode cL_law 774 = .ok (.aload_n 0, 1) := dw_0 (pc9 (k := 768) (j := 6) lDL_24 rfl)
theorem dL_law_775 : decode cL_law 775 = .ok (.iload 5, 2) := dw_39 (pc9 (k := 768) (j := 7) lDL_24 rfl)
theorem dL_law_777 : decode cL_law 777 = .ok (.iconst 2, 1) := dw_260 (pc9 (k := 768) (j := 9) lDL_24 rfl)
theorem dL_law_778 : decode cL_law 778 = .ok (.iadd, 1) := dw_43 (pc9 (k := 768) (j := 10) lDL_24 rfl)
theorem dL_law_779 : decode cL_law 779 = .ok (.iaload, 1) := dw_16 (pc9 (k := 768) (j := 11) lDL_24 rfl)
theorem dL_law_780 : decode cL_law 780 = .ok (.invokevirtual 240, 3) := dw_417 (pc9 (k := 768) (j := 12) lDL_24 rfl)
theorem dL_law_783 : decode cL_law 783 = .ok (.istore 7, 2) := dw_58 (pc9 (k := 768) (j := 15) lDL_24 rfl)
theorem dL_law_785 : decode cL_law 785 = .ok (.goto 1967, 3) := dw_830 (pc9 (k := 768) (j := 17) lDL_24 rfl)
theorem dL_law_788 : decode cL_law 788 = .ok (.aload_n 1, 1) := dw_5 (pc9 (k := 768) (j := 20) lDL_24 rfl)
theorem dL_law_789 : decode cL_law 789 = .ok (.aload_n 0, 1) := dw_0 (pc9 (k := 768) (j := 21) lDL_24 rfl)
theorem dL_law_790 : decode cL_law 790 = .ok (.iload 5, 2) := dw_39 (pc9 (k := 768) (j := 22) lDL_24 rfl)
theorem dL_law_792 : decode cL_law 792 = .ok (.iconst 1, 1) := dw_26 (pc9 (k := 768) (j := 24) lDL_24 rfl)
theorem dL_law_793 : decode cL_law 793 = .ok (.iadd, 1) := dw_43 (pc9 (k := 768) (j := 25) lDL_24 rfl)
theorem dL_law_794 : decode cL_law 794 = .ok (.iaload, 1) := dw_16 (pc9 (k := 768) (j := 26) lDL_24 rfl)
theorem dL_law_795 : decode cL_law 795 = .ok (.aload_n 0, 1) := dw_0 (pc9 (k := 768) (j := 27) lDL_24 rfl)
theorem dL_law_796 : decode cL_law 796 = .ok (.iload 5, 2) := dw_39 (pc9 (k := 768) (j := 28) lDL_24 rfl)
theorem dL_law_798 : decode cL_law 798 = .ok (.iconst 2, 1) := dw_260 (pc9 (k := 768) (j := 30) lDL_24 rfl)
theorem dL_law_799 : decode cL_law 799 = .ok (.iadd, 1) := dw_43 (pc9 (k := 768) (j := 31) lDL_24 rfl)
theorem dL_law_800 : decode cL_law 800 = .ok (.iaload, 1) := dw_16 (pc9 (k := 800) (j := 0) lDL_25 rfl)
theorem dL_law_801 : decode cL_law 801 = .ok (.i2l, 1) := dw_498 (pc9 (k := 800) (j := 1) lDL_25 rfl)
theorem dL_law_802 : decode cL_law 802 = .ok (.bipush 32, 2) := dw_2 (pc9 (k := 800) (j := 2) lDL_25 rfl)
theorem dL_law_804 : decode cL_law 804 = .ok (.lshl, 1) := dw_535 (pc9 (k := 800) (j := 4) lDL_25 rfl)
theorem dL_law_805 : decode cL_law 805 = .ok (.aload_n 0, 1) := dw_0 (pc9 (k := 800) (j := 5) lDL_25 rfl)
theorem dL_law_806 : decode cL_law 806 = .ok (.iload 5, 2) := dw_39 (pc9 (k := 800) (j := 6) lDL_25 rfl)
theorem dL_law_808 : decode cL_law 808 = .ok (.iconst 3, 1) := dw_221 (pc9 (k := 800) (j := 8) lDL_25 rfl)
theorem dL_law_809 : decode cL_law 809 = .ok (.iadd, 1) := dw_43 (pc9 (k := 800) (j := 9) lDL_25 rfl)
theorem dL_law_810 : decode cL_law 810 = .ok (.iaload, 1) := dw_16 (pc9 (k := 800) (j := 10) lDL_25 rfl)
theorem dL_law_811 : decode cL_law 811 = .ok (.i2l, 1) := dw_498 (pc9 (k := 800) (j := 11) lDL_25 rfl)
theorem dL_law_812 : decode cL_law 812 = .ok (.ldc2_w 186, 3) := dw_797 (pc9 (k := 800) (j := 12) lDL_25 rfl)
theorem dL_law_815 : decode cL_law 815 = .ok (.land, 1) := dw_161 (pc9 (k := 800) (j := 15) lDL_25 rfl)
theorem dL_law_816 : decode cL_law 816 = .ok (.lor, 1) := dw_572 (pc9 (k := 800) (j := 16) lDL_25 rfl)
theorem dL_law_817 : decode cL_law 817 = .ok (.aload_n 3, 1) := dw_119 (pc9 (k := 800) (j := 17) lDL_25 rfl)
theorem dL_law_818 : decode cL_law 818 = .ok (.invokestatic 241, 3) := dw_831 (pc9 (k := 800) (j := 18) lDL_25 rfl)
theorem dL_law_821 : decode cL_law 821 = .ok (.istore 6, 2) := dw_35 (pc9 (k := 800) (j := 21) lDL_25 rfl)
theorem dL_law_823 : decode cL_law 823 = .ok (.aload_n 2, 1) := dw_52 (pc9 (k := 800) (j := 23) lDL_25 rfl)
theorem dL_law_824 : decode cL_law 824 = .ok (.aload_n 0, 1) := dw_0 (pc9 (k := 800) (j := 24) lDL_25 rfl)
theorem dL_law_825 : decode cL_law 825 = .ok (.iload 5, 2) := dw_39 (pc9 (k := 800) (j := 25) lDL_25 rfl)
theorem dL_law_827 : decode cL_law 827 = .ok (.iconst 1, 1) := dw_26 (pc9 (k := 800) (j := 27) lDL_25 rfl)
theorem dL_law_828 : decode cL_law 828 = .ok (.iadd, 1) := dw_43 (pc9 (k := 800) (j := 28) lDL_25 rfl)
theorem dL_law_829 : decode cL_law 829 = .ok (.iaload, 1) := dw_16 (pc9 (k := 800) (j := 29) lDL_25 rfl)
theorem dL_law_830 : decode cL_law 830 = .ok (.aload_n 0, 1) := dw_0 (pc9 (k := 800) (j := 30) lDL_25 rfl)
theorem dL_law_831 : decode cL_law 831 = .ok (.iload 5, 2) := dw_39 (pc9 (k := 800) (j := 31) lDL_25 rfl)
theorem dL_law_833 : decode cL_law 833 = .ok (.iconst 2, 1) := dw_260 (pc9 (k := 832) (j := 1) lDL_26 rfl)
theorem dL_law_834 : decode cL_law 834 = .ok (.iadd, 1) := dw_43 (pc9 (k := 832) (j := 2) lDL_26 rfl)
theorem dL_law_835 : decode cL_law 835 = .ok (.iaload, 1) := dw_16 (pc9 (k := 832) (j := 3) lDL_26 rfl)
theorem dL_law_836 : decode cL_law 836 = .ok (.i2l, 1) := dw_498 (pc9 (k := 832) (j := 4) lDL_26 rfl)
theorem dL_law_837 : decode cL_law 837 = .ok (.bipush 32, 2) := dw_2 (pc9 (k := 832) (j := 5) lDL_26 rfl)
theorem dL_law_839 : decode cL_law 839 = .ok (.lshl, 1) := dw_535 (pc9 (k := 832) (j := 7) lDL_26 rfl)
theorem dL_law_840 : decode cL_law 840 = .ok (.aload_n 0, 1) := dw_0 (pc9 (k := 832) (j := 8) lDL_26 rfl)
theorem dL_law_841 : decode cL_law 841 = .ok (.iload 5, 2) := dw_39 (pc9 (k := 832) (j := 9) lDL_26 rfl)
theorem dL_law_843 : decode cL_law 843 = .ok (.iconst 3, 1) := dw_221 (pc9 (k := 832) (j := 11) lDL_26 rfl)
theorem dL_law_844 : decode cL_law 844 = .ok (.iadd, 1) := dw_43 (pc9 (k := 832) (j := 12) lDL_26 rfl)
theorem dL_law_845 : decode cL_law 845 = .ok (.iaload, 1) := dw_16 (pc9 (k := 832) (j := 13) lDL_26 rfl)
theorem dL_law_846 : decode cL_law 846 = .ok (.i2l, 1) := dw_498 (pc9 (k := 832) (j := 14) lDL_26 rfl)
theorem dL_law_847 : decode cL_law 847 = .ok (.ldc2_w 186, 3) := dw_797 (pc9 (k := 832) (j := 15) lDL_26 rfl)
theorem dL_law_850 : decode cL_law 850 = .ok (.land, 1) := dw_161 (pc9 (k := 832) (j := 18) lDL_26 rfl)
theorem dL_law_851 : decode cL_law 851 = .ok (.lor, 1) := dw_572 (pc9 (k := 832) (j := 19) lDL_26 rfl)
theorem dL_law_852 : decode cL_law 852 = .ok (.invokevirtual 244, 3) := dw_419 (pc9 (k := 832) (j := 20) lDL_26 rfl)
theorem dL_law_855 : decode cL_law 855 = .ok (.istore 7, 2) := dw_58 (pc9 (k := 832) (j := 23) lDL_26 rfl)
theorem dL_law_857 : decode cL_law 857 = .ok (.goto 1895, 3) := dw_832 (pc9 (k := 832) (j := 25) lDL_26 rfl)
theorem dL_law_860 : decode cL_law 860 = .ok (.aload_n 1, 1) := dw_5 (pc9 (k := 832) (j := 28) lDL_26 rfl)
theorem dL_law_861 : decode cL_law 861 = .ok (.aload_n 0, 1) := dw_0 (pc9 (k := 832) (j := 29) lDL_26 rfl)
theorem dL_law_862 : decode cL_law 862 = .ok (.iload 5, 2) := dw_39 (pc9 (k := 832) (j := 30) lDL_26 rfl)
theorem dL_law_864 : decode cL_law 864 = .ok (.iconst 1, 1) := dw_26 (pc9 (k := 864) (j := 0) lDL_27 rfl)
theorem dL_law_865 : decode cL_law 865 = .ok (.iadd, 1) := dw_43 (pc9 (k := 864) (j := 1) lDL_27 rfl)
theorem dL_law_866 : decode cL_law 866 = .ok (.iaload, 1) := dw_16 (pc9 (k := 864) (j := 2) lDL_27 rfl)
theorem dL_law_867 : decode cL_law 867 = .ok (.aload_n 0, 1) := dw_0 (pc9 (k := 864) (j := 3) lDL_27 rfl)
theorem dL_law_868 : decode cL_law 868 = .ok (.iload 5, 2) := dw_39 (pc9 (k := 864) (j := 4) lDL_27 rfl)
theorem dL_law_870 : decode cL_law 870 = .ok (.iconst 2, 1) := dw_260 (pc9 (k := 864) (j := 6) lDL_27 rfl)
theorem dL_law_871 : decode cL_law 871 = .ok (.iadd, 1) := dw_43 (pc9 (k := 864) (j := 7) lDL_27 rfl)
theorem dL_law_872 : decode cL_law 872 = .ok (.iaload, 1) := dw_16 (pc9 (k := 864) (j := 8) lDL_27 rfl)
theorem dL_law_873 : decode cL_law 873 = .ok (.aload_n 3, 1) := dw_119 (pc9 (k := 864) (j := 9) lDL_27 rfl)
theorem dL_law_874 : decode cL_law 874 = .ok (.invokestatic 245, 3) := dw_833 (pc9 (k := 864) (j := 10) lDL_27 rfl)
theorem dL_law_877 : decode cL_law 877 = .ok (.istore 6, 2) := dw_35 (pc9 (k := 864) (j := 13) lDL_27 rfl)
theorem dL_law_879 : decode cL_law 879 = .ok (.aload_n 2, 1) := dw_52 (pc9 (k := 864) (j := 15) lDL_27 rfl)
theorem dL_law_880 : decode cL_law 880 = .ok (.aload_n 0, 1) := dw_0 (pc9 (k := 864) (j := 16) lDL_27 rfl)
theorem dL_law_881 : decode cL_law 881 = .ok (.iload 5, 2) := dw_39 (pc9 (k := 864) (j := 17) lDL_27 rfl)
theorem dL_law_883 : decode cL_law 883 = .ok (.iconst 1, 1) := dw_26 (pc9 (k := 864) (j := 19) lDL_27 rfl)
theorem dL_law_884 : decode cL_law 884 = .ok (.iadd, 1) := dw_43 (pc9 (k := 864) (j := 20) lDL_27 rfl)
theorem dL_law_885 : decode cL_law 885 = .ok (.iaload, 1) := dw_16 (pc9 (k := 864) (j := 21) lDL_27 rfl)
theorem dL_law_886 : decode cL_law 886 = .ok (.aload_n 0, 1) := dw_0 (pc9 (k := 864) (j := 22) lDL_27 rfl)
theorem dL_law_887 : decode cL_law 887 = .ok (.iload 5, 2) := dw_39 (pc9 (k := 864) (j := 23) lDL_27 rfl)
theorem dL_law_889 : decode cL_law 889 = .ok (.iconst 2, 1) := dw_260 (pc9 (k := 864) (j := 25) lDL_27 rfl)
theorem dL_law_890 : decode cL_law 890 = .ok (.iadd, 1) := dw_43 (pc9 (k := 864) (j := 26) lDL_27 rfl)
theorem dL_law_891 : decode cL_law 891 = .ok (.iaload, 1) := dw_16 (pc9 (k := 864) (j := 27) lDL_27 rfl)
theorem dL_law_892 : decode cL_law 892 = .ok (.invokevirtual 247, 3) := dw_420 (pc9 (k := 864) (j := 28) lDL_27 rfl)
theorem dL_law_895 : decode cL_law 895 = .ok (.istore 7, 2) := dw_58 (pc9 (k := 864) (j := 31) lDL_27 rfl)
theorem dL_law_897 : decode cL_law 897 = .ok (.goto 1855, 3) := dw_834 (pc9 (k := 896) (j := 1) lDL_28 rfl)
theorem dL_law_900 : decode cL_law 900 = .ok (.aload_n 1, 1) := dw_5 (pc9 (k := 896) (j := 4) lDL_28 rfl)
theorem dL_law_901 : decode cL_law 901 = .ok (.aload_n 0, 1) := dw_0 (pc9 (k := 896) (j := 5) lDL_28 rfl)
theorem dL_law_902 : decode cL_law 902 = .ok (.iload 5, 2) := dw_39 (pc9 (k := 896) (j := 6) lDL_28 rfl)
theorem dL_law_904 : decode cL_law 904 = .ok (.iconst 1, 1) := dw_26 (pc9 (k := 896) (j := 8) lDL_28 rfl)
theorem dL_law_905 : decode cL_law 905 = .ok (.iadd, 1) := dw_43 (pc9 (k := 896) (j := 9) lDL_28 rfl)
theorem dL_law_906 : decode cL_law 906 = .ok (.iaload, 1) := dw_16 (pc9 (k := 896) (j := 10) lDL_28 rfl)
theorem dL_law_907 : decode cL_law 907 = .ok (.aload 4, 2) := dw_134 (pc9 (k := 896) (j := 11) lDL_28 rfl)
theorem dL_law_909 : decode cL_law 909 = .ok (.invokestatic 248, 3) := dw_835 (pc9 (k := 896) (j := 13) lDL_28 rfl)
theorem dL_law_912 : decode cL_law 912 = .ok (.istore 6, 2) := dw_35 (pc9 (k := 896) (j := 16) lDL_28 rfl)
theorem dL_law_914 : decode cL_law 914 = .ok (.aload_n 2, 1) := dw_52 (pc9 (k := 896) (j := 18) lDL_28 rfl)
theorem dL_law_915 : decode cL_law 915 = .ok (.aload_n 0, 1) := dw_0 (pc9 (k := 896) (j := 19) lDL_28 rfl)
theorem dL_law_916 : decode cL_law 916 = .ok (.iload 5, 2) := dw_39 (pc9 (k := 896) (j := 20) lDL_28 rfl)
theorem dL_law_918 : decode cL_law 918 = .ok (.iconst 1, 1) := dw_26 (pc9 (k := 896) (j := 22) lDL_28 rfl)
theorem dL_law_919 : decode cL_law 919 = .ok (.iadd, 1) := dw_43 (pc9 (k := 896) (j := 23) lDL_28 rfl)
theorem dL_law_920 : decode cL_law 920 = .ok (.iaload, 1) := dw_16 (pc9 (k := 896) (j := 24) lDL_28 rfl)
theorem dL_law_921 : decode cL_law 921 = .ok (.invokevirtual 251, 3) := dw_836 (pc9 (k := 896) (j := 25) lDL_28 rfl)
theorem dL_law_924 : decode cL_law 924 = .ok (.dstore 7, 2) := dw_837 (pc9 (k := 896) (j := 28) lDL_28 rfl)
theorem dL_law_926 : decode cL_law 926 = .ok (.goto 1826, 3) := dw_838 (pc9 (k := 896) (j := 30) lDL_28 rfl)
theorem dL_law_929 : decode cL_law 929 = .ok (.aload_n 1, 1) := dw_5 (pc9 (k := 928) (j := 1) lDL_29 rfl)
theorem dL_law_930 : decode cL_law 930 = .ok (.aload_n 0, 1) := dw_0 (pc9 (k := 928) (j := 2) lDL_29 rfl)
theorem dL_law_931 : decode cL_law 931 = .ok (.iload 5, 2) := dw_39 (pc9 (k := 928) (j := 3) lDL_29 rfl)
theorem dL_law_933 : decode cL_law 933 = .ok (.iconst 1, 1) := dw_26 (pc9 (k := 928) (j := 5) lDL_29 rfl)
theorem dL_law_934 : decode cL_law 934 = .ok (.iadd, 1) := dw_43 (pc9 (k := 928) (j := 6) lDL_29 rfl)
theorem dL_law_935 : decode cL_law 935 = .ok (.iaload, 1) := dw_16 (pc9 (k := 928) (j := 7) lDL_29 rfl)
theorem dL_law_936 : decode cL_law 936 = .ok (.aload_n 3, 1) := dw_119 (pc9 (k := 928) (j := 8) lDL_29 rfl)
theorem dL_law_937 : decode cL_law 937 = .ok (.invokestatic 252, 3) := dw_839 (pc9 (k := 928) (j := 9) lDL_29 rfl)
theorem dL_law_940 : decode cL_law 940 = .ok (.istore 6, 2) := dw_35 (pc9 (k := 928) (j := 12) lDL_29 rfl)
theorem dL_law_942 : decode cL_law 942 = .ok (.aload_n 2, 1) := dw_52 (pc9 (k := 928) (j := 14) lDL_29 rfl)
theorem dL_law_943 : decode cL_law 943 = .ok (.aload_n 0, 1) := dw_0 (pc9 (k := 928) (j := 15) lDL_29 rfl)
theorem dL_law_944 : decode cL_law 944 = .ok (.iload 5, 2) := dw_39 (pc9 (k := 928) (j := 16) lDL_29 rfl)
theorem dL_law_946 : decode cL_law 946 = .ok (.iconst 1, 1) := dw_26 (pc9 (k := 928) (j := 18) lDL_29 rfl)
theorem dL_law_947 : decode cL_law 947 = .ok (.iadd, 1) := dw_43 (pc9 (k := 928) (j := 19) lDL_29 rfl)
theorem dL_law_948 : decode cL_law 948 = .ok (.iaload, 1) := dw_16 (pc9 (k := 928) (j := 20) lDL_29 rfl)
theorem dL_law_949 : decode cL_law 949 = .ok (.invokevirtual 254, 3) := dw_840 (pc9 (k := 928) (j := 21) lDL_29 rfl)
theorem dL_law_952 : decode cL_law 952 = .ok (.istore 7, 2) := dw_58 (pc9 (k := 928) (j := 24) lDL_29 rfl)
theorem dL_law_954 : decode cL_law 954 = .ok (.goto 1798, 3) := dw_841 (pc9 (k := 928) (j := 26) lDL_29 rfl)
theorem dL_law_957 : decode cL_law 957 = .ok (.aload_n 1, 1) := dw_5 (pc9 (k := 928) (j := 29) lDL_29 rfl)
theorem dL_law_958 : decode cL_law 958 = .ok (.aload_n 0, 1) := dw_0 (pc9 (k := 928) (j := 30) lDL_29 rfl)
theorem dL_law_959 : decode cL_law 959 = .ok (.iload 5, 2) := dw_39 (pc9 (k := 928) (j := 31) lDL_29 rfl)
theorem dL_law_961 : decode cL_law 961 = .ok (.iconst 1, 1) := dw_26 (pc9 (k := 960) (j := 1) lDL_30 rfl)
theorem dL_law_962 : decode cL_law 962 = .ok (.iadd, 1) := dw_43 (pc9 (k := 960) (j := 2) lDL_30 rfl)
theorem dL_law_963 : decode cL_law 963 = .ok (.iaload, 1) := dw_16 (pc9 (k := 960) (j := 3) lDL_30 rfl)
theorem dL_law_964 : decode cL_law 964 = .ok (.aload_n 0, 1) := dw_0 (pc9 (k := 960) (j := 4) lDL_30 rfl)
theorem dL_law_965 : decode cL_law 965 = .ok (.iload 5, 2) := dw_39 (pc9 (k := 960) (j := 5) lDL_30 rfl)
theorem dL_law_967 : decode cL_law 967 = .ok (.iconst 2, 1) := dw_260 (pc9 (k := 960) (j := 7) lDL_30 rfl)
theorem dL_law_968 : decode cL_law 968 = .ok (.iadd, 1) := dw_43 (pc9 (k := 960) (j := 8) lDL_30 rfl)
theorem dL_law_969 : decode cL_law 969 = .ok (.iaload, 1) := dw_16 (pc9 (k := 960) (j := 9) lDL_30 rfl)
theorem dL_law_970 : decode cL_law 970 = .ok (.aload_n 0, 1) := dw_0 (pc9 (k := 960) (j := 10) lDL_30 rfl)
theorem dL_law_971 : decode cL_law 971 = .ok (.iload 5, 2) := dw_39 (pc9 (k := 960) (j := 11) lDL_30 rfl)
theorem dL_law_973 : decode cL_law 973 = .ok (.iconst 3, 1) := dw_221 (pc9 (k := 960) (j := 13) lDL_30 rfl)
theorem dL_law_974 : decode cL_law 974 = .ok (.iadd, 1) := dw_43 (pc9 (k := 960) (j := 14) lDL_30 rfl)
theorem dL_law_975 : decode cL_law 975 = .ok (.iaload, 1) := dw_16 (pc9 (k := 960) (j := 15) lDL_30 rfl)
theorem dL_law_976 : decode cL_law 976 = .ok (.aload_n 3, 1) := dw_119 (pc9 (k := 960) (j := 16) lDL_30 rfl)
theorem dL_law_977 : decode cL_law 977 = .ok (.invokestatic 255, 3) := dw_842 (pc9 (k := 960) (j := 17) lDL_30 rfl)
theorem dL_law_980 : decode cL_law 980 = .ok (.istore 6, 2) := dw_35 (pc9 (k := 960) (j := 20) lDL_30 rfl)
theorem dL_law_982 : decode cL_law 982 = .ok (.aload_n 2, 1) := dw_52 (pc9 (k := 960) (j := 22) lDL_30 rfl)
theorem dL_law_983 : decode cL_law 983 = .ok (.aload_n 0, 1) := dw_0 (pc9 (k := 960) (j := 23) lDL_30 rfl)
theorem dL_law_984 : decode cL_law 984 = .ok (.iload 5, 2) := dw_39 (pc9 (k := 960) (j := 24) lDL_30 rfl)
theorem dL_law_986 : decode cL_law 986 = .ok (.iconst 1, 1) := dw_26 (pc9 (k := 960) (j := 26) lDL_30 rfl)
theorem dL_law_987 : decode cL_law 987 = .ok (.iadd, 1) := dw_43 (pc9 (k := 960) (j := 27) lDL_30 rfl)
theorem dL_law_988 : decode cL_law 988 = .ok (.iaload, 1) := dw_16 (pc9 (k := 960) (j := 28) lDL_30 rfl)
theorem dL_law_989 : decode cL_law 989 = .ok (.aload_n 0, 1) := dw_0 (pc9 (k := 960) (j := 29) lDL_30 rfl)
theorem dL_law_990 : decode cL_law 990 = .ok (.iload 5, 2) := dw_39 (pc9 (k := 960) (j := 30) lDL_30 rfl)
theorem dL_law_992 : decode cL_law 992 = .ok (.iconst 2, 1) := dw_260 (pc9 (k := 992) (j := 0) lDL_31 rfl)
theorem dL_law_993 : decode cL_law 993 = .ok (.iadd, 1) := dw_43 (pc9 (k := 992) (j := 1) lDL_31 rfl)
theorem dL_law_994 : decode cL_law 994 = .ok (.iaload, 1) := dw_16 (pc9 (k := 992) (j := 2) lDL_31 rfl)
theorem dL_law_995 : decode cL_law 995 = .ok (.aload_n 0, 1) := dw_0 (pc9 (k := 992) (j := 3) lDL_31 rfl)
theorem dL_law_996 : decode cL_law 996 = .ok (.iload 5, 2) := dw_39 (pc9 (k := 992) (j := 4) lDL_31 rfl)
theorem dL_law_998 : decode cL_law 998 = .ok (.iconst 3, 1) := dw_221 (pc9 (k := 992) (j := 6) lDL_31 rfl)
theorem dL_law_999 : decode cL_law 999 = .ok (.iadd, 1) := dw_43 (pc9 (k := 992) (j := 7) lDL_31 rfl)
theorem dL_law_1000 : decode cL_law 1000 = .ok (.iaload, 1) := dw_16 (pc9 (k := 992) (j := 8) lDL_31 rfl)
theorem dL_law_1001 : decode cL_law 1001 = .ok (.invokevirtual 257, 3) := dw_426 (pc9 (k := 992) (j := 9) lDL_31 rfl)
theorem dL_law_1004 : decode cL_law 1004 = .ok (.istore 7, 2) := dw_58 (pc9 (k := 992) (j := 12) lDL_31 rfl)
theorem dL_law_1006 : decode cL_law 1006 = .ok (.goto 1746, 3) := dw_843 (pc9 (k := 992) (j := 14) lDL_31 rfl)
theorem dL_law_1009 : decode cL_law 1009 = .ok (.aload_n 1, 1) := dw_5 (pc9 (k := 992) (j := 17) lDL_31 rfl)
theorem dL_law_1010 : decode cL_law 1010 = .ok (.aload_n 0, 1) := dw_0 (pc9 (k := 992) (j := 18) lDL_31 rfl)
theorem dL_law_1011 : decode cL_law 1011 = .ok (.iload 5, 2) := dw_39 (pc9 (k := 992) (j := 19) lDL_31 rfl)
theorem dL_law_1013 : decode cL_law 1013 = .ok (.iconst 1, 1) := dw_26 (pc9 (k := 992) (j := 21) lDL_31 rfl)
theorem dL_law_1014 : decode cL_law 1014 = .ok (.iadd, 1) := dw_43 (pc9 (k := 992) (j := 22) lDL_31 rfl)
theorem dL_law_1015 : decode cL_law 1015 = .ok (.iaload, 1) := dw_16 (pc9 (k := 992) (j := 23) lDL_31 rfl)
theorem dL_law_1016 : decode cL_law 1016 = .ok (.aload_n 0, 1) := dw_0 (pc9 (k := 992) (j := 24) lDL_31 rfl)
theorem dL_law_1017 : decode cL_law 1017 = .ok (.iload 5, 2) := dw_39 (pc9 (k := 992) (j := 25) lDL_31 rfl)
theorem dL_law_1019 : decode cL_law 1019 = .ok (.iconst 2, 1) := dw_260 (pc9 (k := 992) (j := 27) lDL_31 rfl)
theorem dL_law_1020 : decode cL_law 1020 = .ok (.iadd, 1) := dw_43 (pc9 (k := 992) (j := 28) lDL_31 rfl)
theorem dL_law_1021 : decode cL_law 1021 = .ok (.iaload, 1) := dw_16 (pc9 (k := 992) (j := 29) lDL_31 rfl)
theorem dL_law_1022 : decode cL_law 1022 = .ok (.aload_n 3, 1) := dw_119 (pc9 (k := 992) (j := 30) lDL_31 rfl)
theorem dL_law_1023 : decode cL_law 1023 = .ok (.invokestatic 258, 3) := dw_844 (pc9 (k := 992) (j := 31) lDL_31 rfl)
theorem dL_law_1026 : decode cL_law 1026 = .ok (.istore 6, 2) := dw_35 (pc9 (k := 1024) (j := 2) lDL_32 rfl)
theorem dL_law_1028 : decode cL_law 1028 = .ok (.aload_n 2, 1) := dw_52 (pc9 (k := 1024) (j := 4) lDL_32 rfl)
theorem dL_law_1029 : decode cL_law 1029 = .ok (.aload_n 0, 1) := dw_0 (pc9 (k := 1024) (j := 5) lDL_32 rfl)
theorem dL_law_1030 : decode cL_law 1030 = .ok (.iload 5, 2) := dw_39 (pc9 (k := 1024) (j := 6) lDL_32 rfl)
theorem dL_law_1032 : decode cL_law 1032 = .ok (.iconst 1, 1) := dw_26 (pc9 (k := 1024) (j := 8) lDL_32 rfl)
theorem dL_law_1033 : decode cL_law 1033 = .ok (.iadd, 1) := dw_43 (pc9 (k := 1024) (j := 9) lDL_32 rfl)
theorem dL_law_1034 : decode cL_law 1034 = .ok (.iaload, 1) := dw_16 (pc9 (k := 1024) (j := 10) lDL_32 rfl)
theorem dL_law_1035 : decode cL_law 1035 = .ok (.aload_n 0, 1) := dw_0 (pc9 (k := 1024) (j := 11) lDL_32 rfl)
theorem dL_law_1036 : decode cL_law 1036 = .ok (.iload 5, 2) := dw_39 (pc9 (k := 1024) (j := 12) lDL_32 rfl)
theorem dL_law_1038 : decode cL_law 1038 = .ok (.iconst 2, 1) := dw_260 (pc9 (k := 1024) (j := 14) lDL_32 rfl)
theorem dL_law_1039 : decode cL_law 1039 = .ok (.iadd, 1) := dw_43 (pc9 (k := 1024) (j := 15) lDL_32 rfl)
theorem dL_law_1040 : decode cL_law 1040 = .ok (.iaload, 1) := dw_16 (pc9 (k := 1024) (j := 16) lDL_32 rfl)
theorem dL_law_1041 : decode cL_law 1041 = .ok (.invokevirtual 260, 3) := dw_651 (pc9 (k := 1024) (j := 17) lDL_32 rfl)
theorem dL_law_1044 : decode cL_law 1044 = .ok (.istore 7, 2) := dw_58 (pc9 (k := 1024) (j := 20) lDL_32 rfl)
theorem dL_law_1046 : decode cL_law 1046 = .ok (.goto 1706, 3) := dw_845 (pc9 (k := 1024) (j := 22) lDL_32 rfl)
theorem dL_law_1049 : decode cL_law 1049 = .ok (.aload_n 1, 1) := dw_5 (pc9 (k := 1024) (j := 25) lDL_32 rfl)
theorem dL_law_1050 : decode cL_law 1050 = .ok (.aload_n 0, 1) := dw_0 (pc9 (k := 1024) (j := 26) lDL_32 rfl)
theorem dL_law_1051 : decode cL_law 1051 = .ok (.iload 5, 2) := dw_39 (pc9 (k := 1024) (j := 27) lDL_32 rfl)
theorem dL_law_1053 : decode cL_law 1053 = .ok (.iconst 1, 1) := dw_26 (pc9 (k := 1024) (j := 29) lDL_32 rfl)
theorem dL_law_1054 : decode cL_law 1054 = .ok (.iadd, 1) := dw_43 (pc9 (k := 1024) (j := 30) lDL_32 rfl)
theorem dL_law_1055 : decode cL_law 1055 = .ok (.iaload, 1) := dw_16 (pc9 (k := 1024) (j := 31) lDL_32 rfl)
theorem dL_law_1056 : decode cL_law 1056 = .ok (.aload_n 3, 1) := dw_119 (pc9 (k := 1056) (j := 0) lDL_33 rfl)
theorem dL_law_1057 : decode cL_law 1057 = .ok (.invokestatic 261, 3) := dw_846 (pc9 (k := 1056) (j := 1) lDL_33 rfl)
theorem dL_law_1060 : decode cL_law 1060 = .ok (.istore 6, 2) := dw_35 (pc9 (k := 1056) (j := 4) lDL_33 rfl)
theorem dL_law_1062 : decode cL_law 1062 = .ok (.aload_n 2, 1) := dw_52 (pc9 (k := 1056) (j := 6) lDL_33 rfl)
theorem dL_law_1063 : decode cL_law 1063 = .ok (.aload_n 0, 1) := dw_0 (pc9 (k := 1056) (j := 7) lDL_33 rfl)
theorem dL_law_1064 : decode cL_law 1064 = .ok (.iload 5, 2) := dw_39 (pc9 (k := 1056) (j := 8) lDL_33 rfl)
theorem dL_law_1066 : decode cL_law 1066 = .ok (.iconst 1, 1) := dw_26 (pc9 (k := 1056) (j := 10) lDL_33 rfl)
theorem dL_law_1067 : decode cL_law 1067 = .ok (.iadd, 1) := dw_43 (pc9 (k := 1056) (j := 11) lDL_33 rfl)
theorem dL_law_1068 : decode cL_law 1068 = .ok (.iaload, 1) := dw_16 (pc9 (k := 1056) (j := 12) lDL_33 rfl)
theorem dL_law_1069 : decode cL_law 1069 = .ok (.invokevirtual 263, 3) := dw_652 (pc9 (k := 1056) (j := 13) lDL_33 rfl)
theorem dL_law_1072 : decode cL_law 1072 = .ok (.istore 7, 2) := dw_58 (pc9 (k := 1056) (j := 16) lDL_33 rfl)
theorem dL_law_1074 : decode cL_law 1074 = .ok (.goto 1678, 3) := dw_847 (pc9 (k := 1056) (j := 18) lDL_33 rfl)
theorem dL_law_1077 : decode cL_law 1077 = .ok (.aload_n 1, 1) := dw_5 (pc9 (k := 1056) (j := 21) lDL_33 rfl)
theorem dL_law_1078 : decode cL_law 1078 = .ok (.aload_n 0, 1) := dw_0 (pc9 (k := 1056) (j := 22) lDL_33 rfl)
theorem dL_law_1079 : decode cL_law 1079 = .ok (.iload 5, 2) := dw_39 (pc9 (k := 1056) (j := 23) lDL_33 rfl)
theorem dL_law_1081 : decode cL_law 1081 = .ok (.iconst 1, 1) := dw_26 (pc9 (k := 1056) (j := 25) lDL_33 rfl)
theorem dL_law_1082 : decode cL_law 1082 = .ok (.iadd, 1) := dw_43 (pc9 (k := 1056) (j := 26) lDL_33 rfl)
theorem dL_law_1083 : decode cL_law 1083 = .ok (.iaload, 1) := dw_16 (pc9 (k := 1056) (j := 27) lDL_33 rfl)
theorem dL_law_1084 : decode cL_law 1084 = .ok (.aload 4, 2) := dw_134 (pc9 (k := 1056) (j := 28) lDL_33 rfl)
theorem dL_law_1086 : decode cL_law 1086 = .ok (.invokestatic 264, 3) := dw_848 (pc9 (k := 1056) (j := 30) lDL_33 rfl)
theorem dL_law_1089 : decode cL_law 1089 = .ok (.istore 6, 2) := dw_35 (pc9 (k := 1088) (j := 1) lDL_34 rfl)
theorem dL_law_1091 : decode cL_law 1091 = .ok (.aload_n 2, 1) := dw_52 (pc9 (k := 1088) (j := 3) lDL_34 rfl)
theorem dL_law_1092 : decode cL_law 1092 = .ok (.aload_n 0, 1) := dw_0 (pc9 (k := 1088) (j := 4) lDL_34 rfl)
theorem dL_law_1093 : decode cL_law 1093 = .ok (.iload 5, 2) := dw_39 (pc9 (k := 1088) (j := 5) lDL_34 rfl)
theorem dL_law_1095 : decode cL_law 1095 = .ok (.iconst 1, 1) := dw_26 (pc9 (k := 1088) (j := 7) lDL_34 rfl)
theorem dL_law_1096 : decode cL_law 1096 = .ok (.iadd, 1) := dw_43 (pc9 (k := 1088) (j := 8) lDL_34 rfl)
theorem dL_law_1097 : decode cL_law 1097 = .ok (.iaload, 1) := dw_16 (pc9 (k := 1088) (j := 9) lDL_34 rfl)
theorem dL_law_1098 : decode cL_law 1098 = .ok (.invokevirtual 266, 3) := dw_849 (pc9 (k := 1088) (j := 10) lDL_34 rfl)
theorem dL_law_1101 : decode cL_law 1101 = .ok (.fstore 7, 2) := dw_850 (pc9 (k := 1088) (j := 13) lDL_34 rfl)
theorem dL_law_1103 : decode cL_law 1103 = .ok (.goto 1649, 3) := dw_851 (pc9 (k := 1088) (j := 15) lDL_34 rfl)
theorem dL_law_1106 : decode cL_law 1106 = .ok (.aload_n 1, 1) := dw_5 (pc9 (k := 1088) (j := 18) lDL_34 rfl)
theorem dL_law_1107 : decode cL_law 1107 = .ok (.aload_n 0, 1) := dw_0 (pc9 (k := 1088) (j := 19) lDL_34 rfl)
theorem dL_law_1108 : decode cL_law 1108 = .ok (.iload 5, 2) := dw_39 (pc9 (k := 1088) (j := 20) lDL_34 rfl)
theorem dL_law_1110 : decode cL_law 1110 = .ok (.iconst 1, 1) := dw_26 (pc9 (k := 1088) (j := 22) lDL_34 rfl)
theorem dL_law_1111 : decode cL_law 1111 = .ok (.iadd, 1) := dw_43 (pc9 (k := 1088) (j := 23) lDL_34 rfl)
theorem dL_law_1112 : decode cL_law 1112 = .ok (.iaload, 1) := dw_16 (pc9 (k := 1088) (j := 24) lDL_34 rfl)
theorem dL_law_1113 : decode cL_law 1113 = .ok (.aload_n 0, 1) := dw_0 (pc9 (k := 1088) (j := 25) lDL_34 rfl)
theorem dL_law_1114 : decode cL_law 1114 = .ok (.iload 5, 2) := dw_39 (pc9 (k := 1088) (j := 26) lDL_34 rfl)
theorem dL_law_1116 : decode cL_law 1116 = .ok (.iconst 2, 1) := dw_260 (pc9 (k := 1088) (j := 28) lDL_34 rfl)
theorem dL_law_1117 : decode cL_law 1117 = .ok (.iadd, 1) := dw_43 (pc9 (k := 1088) (j := 29) lDL_34 rfl)
theorem dL_law_1118 : decode cL_law 1118 = .ok (.iaload, 1) := dw_16 (pc9 (k := 1088) (j := 30) lDL_34 rfl)
theorem dL_law_1119 : decode cL_law 1119 = .ok (.aload_n 3, 1) := dw_119 (pc9 (k := 1088) (j := 31) lDL_34 rfl)
theorem dL_law_1120 : decode cL_law 1120 = .ok (.invokestatic 267, 3) := dw_852 (pc9 (k := 1120) (j := 0) lDL_35 rfl)
theorem dL_law_1123 : decode cL_law 1123 = .ok (.istore 6, 2) := dw_35 (pc9 (k := 1120) (j := 3) lDL_35 rfl)
theorem dL_law_1125 : decode cL_law 1125 = .ok (.aload_n 2, 1) := dw_52 (pc9 (k := 1120) (j := 5) lDL_35 rfl)
theorem dL_law_1126 : decode cL_law 1126 = .ok (.aload_n 0, 1) := dw_0 (pc9 (k := 1120) (j := 6) lDL_35 rfl)
theorem dL_law_1127 : decode cL_law 1127 = .ok (.iload 5, 2) := dw_39 (pc9 (k := 1120) (j := 7) lDL_35 rfl)
theorem dL_law_1129 : decode cL_law 1129 = .ok (.iconst 1, 1) := dw_26 (pc9 (k := 1120) (j := 9) lDL_35 rfl)
theorem dL_law_1130 : decode cL_law 1130 = .ok (.iadd, 1) := dw_43 (pc9 (k := 1120) (j := 10) lDL_35 rfl)
theorem dL_law_1131 : decode cL_law 1131 = .ok (.iaload, 1) := dw_16 (pc9 (k := 1120) (j := 11) lDL_35 rfl)
theorem dL_law_1132 : decode cL_law 1132 = .ok (.aload_n 0, 1) := dw_0 (pc9 (k := 1120) (j := 12) lDL_35 rfl)
theorem dL_law_1133 : decode cL_law 1133 = .ok (.iload 5, 2) := dw_39 (pc9 (k := 1120) (j := 13) lDL_35 rfl)
theorem dL_law_1135 : decode cL_law 1135 = .ok (.iconst 2, 1) := dw_260 (pc9 (k := 1120) (j := 15) lDL_35 rfl)
theorem dL_law_1136 : decode cL_law 1136 = .ok (.iadd, 1) := dw_43 (pc9 (k := 1120) (j := 16) lDL_35 rfl)
theorem dL_law_1137 : decode cL_law 1137 = .ok (.iaload, 1) := dw_16 (pc9 (k := 1120) (j := 17) lDL_35 rfl)
theorem dL_law_1138 : decode cL_law 1138 = .ok (.invokevirtual 269, 3) := dw_431 (pc9 (k := 1120) (j := 18) lDL_35 rfl)
theorem dL_law_1141 : decode cL_law 1141 = .ok (.istore 7, 2) := dw_58 (pc9 (k := 1120) (j := 21) lDL_35 rfl)
theorem dL_law_1143 : decode cL_law 1143 = .ok (.goto 1609, 3) := dw_853 (pc9 (k := 1120) (j := 23) lDL_35 rfl)
theorem dL_law_1146 : decode cL_law 1146 = .ok (.aload_n 1, 1) := dw_5 (pc9 (k := 1120) (j := 26) lDL_35 rfl)
theorem dL_law_1147 : decode cL_law 1147 = .ok (.aload_n 0, 1) := dw_0 (pc9 (k := 1120) (j := 27) lDL_35 rfl)
theorem dL_law_1148 : decode cL_law 1148 = .ok (.iload 5, 2) := dw_39 (pc9 (k := 1120) (j := 28) lDL_35 rfl)
theorem dL_law_1150 : decode cL_law 1150 = .ok (.iconst 1, 1) := dw_26 (pc9 (k := 1120) (j := 30) lDL_35 rfl)
theorem dL_law_1151 : decode cL_law 1151 = .ok (.iadd, 1) := dw_43 (pc9 (k := 1120) (j := 31) lDL_35 rfl)
theorem dL_law_1152 : decode cL_law 1152 = .ok (.iaload, 1) := dw_16 (pc9 (k := 1152) (j := 0) lDL_36 rfl)
theorem dL_law_1153 : decode cL_law 1153 = .ok (.aload_n 3, 1) := dw_119 (pc9 (k := 1152) (j := 1) lDL_36 rfl)
theorem dL_law_1154 : decode cL_law 1154 = .ok (.invokestatic 270, 3) := dw_854 (pc9 (k := 1152) (j := 2) lDL_36 rfl)
theorem dL_law_1157 : decode cL_law 1157 = .ok (.istore 6, 2) := dw_35 (pc9 (k := 1152) (j := 5) lDL_36 rfl)
theorem dL_law_1159 : decode cL_law 1159 = .ok (.aload_n 2, 1) := dw_52 (pc9 (k := 1152) (j := 7) lDL_36 rfl)
theorem dL_law_1160 : decode cL_law 1160 = .ok (.aload_n 0, 1) := dw_0 (pc9 (k := 1152) (j := 8) lDL_36 rfl)
theorem dL_law_1161 : decode cL_law 1161 = .ok (.iload 5, 2) := dw_39 (pc9 (k := 1152) (j := 9) lDL_36 rfl)
theorem dL_law_1163 : decode cL_law 1163 = .ok (.iconst 1, 1) := dw_26 (pc9 (k := 1152) (j := 11) lDL_36 rfl)
theorem dL_law_1164 : decode cL_law 1164 = .ok (.iadd, 1) := dw_43 (pc9 (k := 1152) (j := 12) lDL_36 rfl)
theorem dL_law_1165 : decode cL_law 1165 = .ok (.iaload, 1) := dw_16 (pc9 (k := 1152) (j := 13) lDL_36 rfl)
theorem dL_law_1166 : decode cL_law 1166 = .ok (.invokevirtual 272, 3) := dw_855 (pc9 (k := 1152) (j := 14) lDL_36 rfl)
theorem dL_law_1169 : decode cL_law 1169 = .ok (.istore 7, 2) := dw_58 (pc9 (k := 1152) (j := 17) lDL_36 rfl)
theorem dL_law_1171 : decode cL_law 1171 = .ok (.goto 1581, 3) := dw_856 (pc9 (k := 1152) (j := 19) lDL_36 rfl)
theorem dL_law_1174 : decode cL_law 1174 = .ok (.aload_n 1, 1) := dw_5 (pc9 (k := 1152) (j := 22) lDL_36 rfl)
theorem dL_law_1175 : decode cL_law 1175 = .ok (.aload_n 0, 1) := dw_0 (pc9 (k := 1152) (j := 23) lDL_36 rfl)
theorem dL_law_1176 : decode cL_law 1176 = .ok (.iload 5, 2) := dw_39 (pc9 (k := 1152) (j := 24) lDL_36 rfl)
theorem dL_law_1178 : decode cL_law 1178 = .ok (.iconst 1, 1) := dw_26 (pc9 (k := 1152) (j := 26) lDL_36 rfl)
theorem dL_law_1179 : decode cL_law 1179 = .ok (.iadd, 1) := dw_43 (pc9 (k := 1152) (j := 27) lDL_36 rfl)
theorem dL_law_1180 : decode cL_law 1180 = .ok (.iaload, 1) := dw_16 (pc9 (k := 1152) (j := 28) lDL_36 rfl)
theorem dL_law_1181 : decode cL_law 1181 = .ok (.aload_n 0, 1) := dw_0 (pc9 (k := 1152) (j := 29) lDL_36 rfl)
theorem dL_law_1182 : decode cL_law 1182 = .ok (.iload 5, 2) := dw_39 (pc9 (k := 1152) (j := 30) lDL_36 rfl)
theorem dL_law_1184 : decode cL_law 1184 = .ok (.iconst 2, 1) := dw_260 (pc9 (k := 1184) (j := 0) lDL_37 rfl)
theorem dL_law_1185 : decode cL_law 1185 = .ok (.iadd, 1) := dw_43 (pc9 (k := 1184) (j := 1) lDL_37 rfl)
theorem dL_law_1186 : decode cL_law 1186 = .ok (.iaload, 1) := dw_16 (pc9 (k := 1184) (j := 2) lDL_37 rfl)
theorem dL_law_1187 : decode cL_law 1187 = .ok (.aload_n 0, 1) := dw_0 (pc9 (k := 1184) (j := 3) lDL_37 rfl)
theorem dL_law_1188 : decode cL_law 1188 = .ok (.iload 5, 2) := dw_39 (pc9 (k := 1184) (j := 4) lDL_37 rfl)
theorem dL_law_1190 : decode cL_law 1190 = .ok (.iconst 3, 1) := dw_221 (pc9 (k := 1184) (j := 6) lDL_37 rfl)
theorem dL_law_1191 : decode cL_law 1191 = .ok (.iadd, 1) := dw_43 (pc9 (k := 1184) (j := 7) lDL_37 rfl)
theorem dL_law_1192 : decode cL_law 1192 = .ok (.iaload, 1) := dw_16 (pc9 (k := 1184) (j := 8) lDL_37 rfl)
theorem dL_law_1193 : decode cL_law 1193 = .ok (.aload_n 3, 1) := dw_119 (pc9 (k := 1184) (j := 9) lDL_37 rfl)
theorem dL_law_1194 : decode cL_law 1194 = .ok (.invokestatic 273, 3) := dw_857 (pc9 (k := 1184) (j := 10) lDL_37 rfl)
theorem dL_law_1197 : decode cL_law 1197 = .ok (.istore 6, 2) := dw_35 (pc9 (k := 1184) (j := 13) lDL_37 rfl)
theorem dL_law_1199 : decode cL_law 1199 = .ok (.aload_n 2, 1) := dw_52 (pc9 (k := 1184) (j := 15) lDL_37 rfl)
theorem dL_law_1200 : decode cL_law 1200 = .ok (.aload_n 0, 1) := dw_0 (pc9 (k := 1184) (j := 16) lDL_37 rfl)
theorem dL_law_1201 : decode cL_law 1201 = .ok (.iload 5, 2) := dw_39 (pc9 (k := 1184) (j := 17) lDL_37 rfl)
theorem dL_law_1203 : decode cL_law 1203 = .ok (.iconst 1, 1) := dw_26 (pc9 (k := 1184) (j := 19) lDL_37 rfl)
theorem dL_law_1204 : decode cL_law 1204 = .ok (.iadd, 1) := dw_43 (pc9 (k := 1184) (j := 20) lDL_37 rfl)
theorem dL_law_1205 : decode cL_law 1205 = .ok (.iaload, 1) := dw_16 (pc9 (k := 1184) (j := 21) lDL_37 rfl)
theorem dL_law_1206 : decode cL_law 1206 = .ok (.aload_n 0, 1) := dw_0 (pc9 (k := 1184) (j := 22) lDL_37 rfl)
theorem dL_law_1207 : decode cL_law 1207 = .ok (.iload 5, 2) := dw_39 (pc9 (k := 1184) (j := 23) lDL_37 rfl)
theorem dL_law_1209 : decode cL_law 1209 = .ok (.iconst 2, 1) := dw_260 (pc9 (k := 1184) (j := 25) lDL_37 rfl)
theorem dL_law_1210 : decode cL_law 1210 = .ok (.iadd, 1) := dw_43 (pc9 (k := 1184) (j := 26) lDL_37 rfl)
theorem dL_law_1211 : decode cL_law 1211 = .ok (.iaload, 1) := dw_16 (pc9 (k := 1184) (j := 27) lDL_37 rfl)
theorem dL_law_1212 : decode cL_law 1212 = .ok (.aload_n 0, 1) := dw_0 (pc9 (k := 1184) (j := 28) lDL_37 rfl)
theorem dL_law_1213 : decode cL_law 1213 = .ok (.iload 5, 2) := dw_39 (pc9 (k := 1184) (j := 29) lDL_37 rfl)
theorem dL_law_1215 : decode cL_law 1215 = .ok (.iconst 3, 1) := dw_221 (pc9 (k := 1184) (j := 31) lDL_37 rfl)
theorem dL_law_1216 : decode cL_law 1216 = .ok (.iadd, 1) := dw_43 (pc9 (k := 1216) (j := 0) lDL_38 rfl)
theorem dL_law_1217 : decode cL_law 1217 = .ok (.iaload, 1) := dw_16 (pc9 (k := 1216) (j := 1) lDL_38 rfl)
theorem dL_law_1218 : decode cL_law 1218 = .ok (.invokevirtual 275, 3) := dw_858 (pc9 (k := 1216) (j := 2) lDL_38 rfl)
theorem dL_law_1221 : decode cL_law 1221 = .ok (.istore 7, 2) := dw_58 (pc9 (k := 1216) (j := 5) lDL_38 rfl)
theorem dL_law_1223 : decode cL_law 1223 = .ok (.goto 1529, 3) := dw_859 (pc9 (k := 1216) (j := 7) lDL_38 rfl)
theorem dL_law_1226 : decode cL_law 1226 = .ok (.aload_n 1, 1) := dw_5 (pc9 (k := 1216) (j := 10) lDL_38 rfl)
theorem dL_law_1227 : decode cL_law 1227 = .ok (.aload_n 0, 1) := dw_0 (pc9 (k := 1216) (j := 11) lDL_38 rfl)
theorem dL_law_1228 : decode cL_law 1228 = .ok (.iload 5, 2) := dw_39 (pc9 (k := 1216) (j := 12) lDL_38 rfl)
theorem dL_law_1230 : decode cL_law 1230 = .ok (.iconst 1, 1) := dw_26 (pc9 (k := 1216) (j := 14) lDL_38 rfl)
theorem dL_law_1231 : decode cL_law 1231 = .ok (.iadd, 1) := dw_43 (pc9 (k := 1216) (j := 15) lDL_38 rfl)
theorem dL_law_1232 : decode cL_law 1232 = .ok (.iaload, 1) := dw_16 (pc9 (k := 1216) (j := 16) lDL_38 rfl)
theorem dL_law_1233 : decode cL_law 1233 = .ok (.aload_n 0, 1) := dw_0 (pc9 (k := 1216) (j := 17) lDL_38 rfl)
theorem dL_law_1234 : decode cL_law 1234 = .ok (.iload 5, 2) := dw_39 (pc9 (k := 1216) (j := 18) lDL_38 rfl)
theorem dL_law_1236 : decode cL_law 1236 = .ok (.iconst 2, 1) := dw_260 (pc9 (k := 1216) (j := 20) lDL_38 rfl)
theorem dL_law_1237 : decode cL_law 1237 = .ok (.iadd, 1) := dw_43 (pc9 (k := 1216) (j := 21) lDL_38 rfl)
theorem dL_law_1238 : decode cL_law 1238 = .ok (.iaload, 1) := dw_16 (pc9 (k := 1216) (j := 22) lDL_38 rfl)
theorem dL_law_1239 : decode cL_law 1239 = .ok (.aload_n 0, 1) := dw_0 (pc9 (k := 1216) (j := 23) lDL_38 rfl)
theorem dL_law_1240 : decode cL_law 1240 = .ok (.iload 5, 2) := dw_39 (pc9 (k := 1216) (j := 24) lDL_38 rfl)
theorem dL_law_1242 : decode cL_law 1242 = .ok (.iconst 3, 1) := dw_221 (pc9 (k := 1216) (j := 26) lDL_38 rfl)
theorem dL_law_1243 : decode cL_law 1243 = .ok (.iadd, 1) := dw_43 (pc9 (k := 1216) (j := 27) lDL_38 rfl)
theorem dL_law_1244 : decode cL_law 1244 = .ok (.iaload, 1) := dw_16 (pc9 (k := 1216) (j := 28) lDL_38 rfl)
theorem dL_law_1245 : decode cL_law 1245 = .ok (.aload_n 0, 1) := dw_0 (pc9 (k := 1216) (j := 29) lDL_38 rfl)
theorem dL_law_1246 : decode cL_law 1246 = .ok (.iload 5, 2) := dw_39 (pc9 (k := 1216) (j := 30) lDL_38 rfl)
theorem dL_law_1248 : decode cL_law 1248 = .ok (.iconst 4, 1) := dw_280 (pc9 (k := 1248) (j := 0) lDL_39 rfl)
theorem dL_law_1249 : decode cL_law 1249 = .ok (.iadd, 1) := dw_43 (pc9 (k := 1248) (j := 1) lDL_39 rfl)
theorem dL_law_1250 : decode cL_law 1250 = .ok (.iaload, 1) := dw_16 (pc9 (k := 1248) (j := 2) lDL_39 rfl)
theorem dL_law_1251 : decode cL_law 1251 = .ok (.aload_n 3, 1) := dw_119 (pc9 (k := 1248) (j := 3) lDL_39 rfl)
theorem dL_law_1252 : decode cL_law 1252 = .ok (.invokestatic 276, 3) := dw_434 (pc9 (k := 1248) (j := 4) lDL_39 rfl)
theorem dL_law_1255 : decode cL_law 1255 = .ok (.istore 6, 2) := dw_35 (pc9 (k := 1248) (j := 7) lDL_39 rfl)
theorem dL_law_1257 : decode cL_law 1257 = .ok (.aload_n 2, 1) := dw_52 (pc9 (k := 1248) (j := 9) lDL_39 rfl)
theorem dL_law_1258 : decode cL_law 1258 = .ok (.aload_n 0, 1) := dw_0 (pc9 (k := 1248) (j := 10) lDL_39 rfl)
theorem dL_law_1259 : decode cL_law 1259 = .ok (.iload 5, 2) := dw_39 (pc9 (k := 1248) (j := 11) lDL_39 rfl)
theorem dL_law_1261 : decode cL_law 1261 = .ok (.iconst 1, 1) := dw_26 (pc9 (k := 1248) (j := 13) lDL_39 rfl)
theorem dL_law_1262 : decode cL_law 1262 = .ok (.iadd, 1) := dw_43 (pc9 (k := 1248) (j := 14) lDL_39 rfl)
theorem dL_law_1263 : decode cL_law 1263 = .ok (.iaload, 1) := dw_16 (pc9 (k := 1248) (j := 15) lDL_39 rfl)
theorem dL_law_1264 : decode cL_law 1264 = .ok (.aload_n 0, 1) := dw_0 (pc9 (k := 1248) (j := 16) lDL_39 rfl)
theorem dL_law_1265 : decode cL_law 1265 = .ok (.iload 5, 2) := dw_39 (pc9 (k := 1248) (j := 17) lDL_39 rfl)
theorem dL_law_1267 : decode cL_law 1267 = .ok (.iconst 2, 1) := dw_260 (pc9 (k := 1248) (j := 19) lDL_39 rfl)
theorem dL_law_1268 : decode cL_law 1268 = .ok (.iadd, 1) := dw_43 (pc9 (k := 1248) (j := 20) lDL_39 rfl)
theorem dL_law_1269 : decode cL_law 1269 = .ok (.iaload, 1) := dw_16 (pc9 (k := 1248) (j := 21) lDL_39 rfl)
theorem dL_law_1270 : decode cL_law 1270 = .ok (.aload_n 0, 1) := dw_0 (pc9 (k := 1248) (j := 22) lDL_39 rfl)
theorem dL_law_1271 : decode cL_law 1271 = .ok (.iload 5, 2) := dw_39 (pc9 (k := 1248) (j := 23) lDL_39 rfl)
theorem dL_law_1273 : decode cL_law 1273 = .ok (.iconst 3, 1) := dw_221 (pc9 (k := 1248) (j := 25) lDL_39 rfl)
theorem dL_law_1274 : decode cL_law 1274 = .ok (.iadd, 1) := dw_43 (pc9 (k := 1248) (j := 26) lDL_39 rfl)
theorem dL_law_1275 : decode cL_law 1275 = .ok (.iaload, 1) := dw_16 (pc9 (k := 1248) (j := 27) lDL_39 rfl)
theorem dL_law_1276 : decode cL_law 1276 = .ok (.aload_n 0, 1) := dw_0 (pc9 (k := 1248) (j := 28) lDL_39 rfl)
theorem dL_law_1277 : decode cL_law 1277 = .ok (.iload 5, 2) := dw_39 (pc9 (k := 1248) (j := 29) lDL_39 rfl)
theorem dL_law_1279 : decode cL_law 1279 = .ok (.iconst 4, 1) := dw_280 (pc9 (k := 1248) (j := 31) lDL_39 rfl)
theorem dL_law_1280 : decode cL_law 1280 = .ok (.iadd, 1) := dw_43 (pc9 (k := 1280) (j := 0) lDL_40 rfl)
theorem dL_law_1281 : decode cL_law 1281 = .ok (.iaload, 1) := dw_16 (pc9 (k := 1280) (j := 1) lDL_40 rfl)
theorem dL_law_1282 : decode cL_law 1282 = .ok (.invokevirtual 279, 3) := dw_860 (pc9 (k := 1280) (j := 2) lDL_40 rfl)
theorem dL_law_1285 : decode cL_law 1285 = .ok (.istore 7, 2) := dw_58 (pc9 (k := 1280) (j := 5) lDL_40 rfl)
theorem dL_law_1287 : decode cL_law 1287 = .ok (.goto 1465, 3) := dw_861 (pc9 (k := 1280) (j := 7) lDL_40 rfl)
theorem dL_law_1290 : decode cL_law 1290 = .ok (.aload_n 1, 1) := dw_5 (pc9 (k := 1280) (j := 10) lDL_40 rfl)
theorem dL_law_1291 : decode cL_law 1291 = .ok (.aload_n 0, 1) := dw_0 (pc9 (k := 1280) (j := 11) lDL_40 rfl)
theorem dL_law_1292 : decode cL_law 1292 = .ok (.iload 5, 2) := dw_39 (pc9 (k := 1280) (j := 12) lDL_40 rfl)
theorem dL_law_1294 : decode cL_law 1294 = .ok (.iconst 1, 1) := dw_26 (pc9 (k := 1280) (j := 14) lDL_40 rfl)
theorem dL_law_1295 : decode cL_law 1295 = .ok (.iadd, 1) := dw_43 (pc9 (k := 1280) (j := 15) lDL_40 rfl)
theorem dL_law_1296 : decode cL_law 1296 = .ok (.iaload, 1) := dw_16 (pc9 (k := 1280) (j := 16) lDL_40 rfl)
theorem dL_law_1297 : decode cL_law 1297 = .ok (.aload_n 0, 1) := dw_0 (pc9 (k := 1280) (j := 17) lDL_40 rfl)
theorem dL_law_1298 : decode cL_law 1298 = .ok (.iload 5, 2) := dw_39 (pc9 (k := 1280) (j := 18) lDL_40 rfl)
theorem dL_law_1300 : decode cL_law 1300 = .ok (.iconst 2, 1) := dw_260 (pc9 (k := 1280) (j := 20) lDL_40 rfl)
theorem dL_law_1301 : decode cL_law 1301 = .ok (.iadd, 1) := dw_43 (pc9 (k := 1280) (j := 21) lDL_40 rfl)
theorem dL_law_1302 : decode cL_law 1302 = .ok (.iaload, 1) := dw_16 (pc9 (k := 1280) (j := 22) lDL_40 rfl)
theorem dL_law_1303 : decode cL_law 1303 = .ok (.aload_n 3, 1) := dw_119 (pc9 (k := 1280) (j := 23) lDL_40 rfl)
theorem dL_law_1304 : decode cL_law 1304 = .ok (.invokestatic 280, 3) := dw_862 (pc9 (k := 1280) (j := 24) lDL_40 rfl)
theorem dL_law_1307 : decode cL_law 1307 = .ok (.istore 6, 2) := dw_35 (pc9 (k := 1280) (j := 27) lDL_40 rfl)
theorem dL_law_1309 : decode cL_law 1309 = .ok (.aload_n 2, 1) := dw_52 (pc9 (k := 1280) (j := 29) lDL_40 rfl)
theorem dL_law_1310 : decode cL_law 1310 = .ok (.aload_n 0, 1) := dw_0 (pc9 (k := 1280) (j := 30) lDL_40 rfl)
theorem dL_law_1311 : decode cL_law 1311 = .ok (.iload 5, 2) := dw_39 (pc9 (k := 1280) (j := 31) lDL_40 rfl)
theorem dL_law_1313 : decode cL_law 1313 = .ok (.iconst 1, 1) := dw_26 (pc9 (k := 1312) (j := 1) lDL_41 rfl)
theorem dL_law_1314 : decode cL_law 1314 = .ok (.iadd, 1) := dw_43 (pc9 (k := 1312) (j := 2) lDL_41 rfl)
theorem dL_law_1315 : decode cL_law 1315 = .ok (.iaload, 1) := dw_16 (pc9 (k := 1312) (j := 3) lDL_41 rfl)
theorem dL_law_1316 : decode cL_law 1316 = .ok (.aload_n 0, 1) := dw_0 (pc9 (k := 1312) (j := 4) lDL_41 rfl)
theorem dL_law_1317 : decode cL_law 1317 = .ok (.iload 5, 2) := dw_39 (pc9 (k := 1312) (j := 5) lDL_41 rfl)
theorem dL_law_1319 : decode cL_law 1319 = .ok (.iconst 2, 1) := dw_260 (pc9 (k := 1312) (j := 7) lDL_41 rfl)
theorem dL_law_1320 : decode cL_law 1320 = .ok (.iadd, 1) := dw_43 (pc9 (k := 1312) (j := 8) lDL_41 rfl)
theorem dL_law_1321 : decode cL_law 1321 = .ok (.iaload, 1) := dw_16 (pc9 (k := 1312) (j := 9) lDL_41 rfl)
theorem dL_law_1322 : decode cL_law 1322 = .ok (.invokevirtual 282, 3) := dw_435 (pc9 (k := 1312) (j := 10) lDL_41 rfl)
theorem dL_law_1325 : decode cL_law 1325 = .ok (.istore 7, 2) := dw_58 (pc9 (k := 1312) (j := 13) lDL_41 rfl)
theorem dL_law_1327 : decode cL_law 1327 = .ok (.goto 1425, 3) := dw_863 (pc9 (k := 1312) (j := 15) lDL_41 rfl)
theorem dL_law_1330 : decode cL_law 1330 = .ok (.aload_n 1, 1) := dw_5 (pc9 (k := 1312) (j := 18) lDL_41 rfl)
theorem dL_law_1331 : decode cL_law 1331 = .ok (.aload_n 0, 1) := dw_0 (pc9 (k := 1312) (j := 19) lDL_41 rfl)
theorem dL_law_1332 : decode cL_law 1332 = .ok (.iload 5, 2) := dw_39 (pc9 (k := 1312) (j := 20) lDL_41 rfl)
theorem dL_law_1334 : decode cL_law 1334 = .ok (.iconst 1, 1) := dw_26 (pc9 (k := 1312) (j := 22) lDL_41 rfl)
theorem dL_law_1335 : decode cL_law 1335 = .ok (.iadd, 1) := dw_43 (pc9 (k := 1312) (j := 23) lDL_41 rfl)
theorem dL_law_1336 : decode cL_law 1336 = .ok (.iaload, 1) := dw_16 (pc9 (k := 1312) (j := 24) lDL_41 rfl)
theorem dL_law_1337 : decode cL_law 1337 = .ok (.aload_n 3, 1) := dw_119 (pc9 (k := 1312) (j := 25) lDL_41 rfl)
theorem dL_law_1338 : decode cL_law 1338 = .ok (.invokestatic 283, 3) := dw_864 (pc9 (k := 1312) (j := 26) lDL_41 rfl)
theorem dL_law_1341 : decode cL_law 1341 = .ok (.istore 6, 2) := dw_35 (pc9 (k := 1312) (j := 29) lDL_41 rfl)
theorem dL_law_1343 : decode cL_law 1343 = .ok (.aload_n 2, 1) := dw_52 (pc9 (k := 1312) (j := 31) lDL_41 rfl)
theorem dL_law_1344 : decode cL_law 1344 = .ok (.aload_n 0, 1) := dw_0 (pc9 (k := 1344) (j := 0) lDL_42 rfl)
theorem dL_law_1345 : decode cL_law 1345 = .ok (.iload 5, 2) := dw_39 (pc9 (k := 1344) (j := 1) lDL_42 rfl)
theorem dL_law_1347 : decode cL_law 1347 = .ok (.iconst 1, 1) := dw_26 (pc9 (k := 1344) (j := 3) lDL_42 rfl)
theorem dL_law_1348 : decode cL_law 1348 = .ok (.iadd, 1) := dw_43 (pc9 (k := 1344) (j := 4) lDL_42 rfl)
theorem dL_law_1349 : decode cL_law 1349 = .ok (.iaload, 1) := dw_16 (pc9 (k := 1344) (j := 5) lDL_42 rfl)
theorem dL_law_1350 : decode cL_law 1350 = .ok (.invokevirtual 285, 3) := dw_865 (pc9 (k := 1344) (j := 6) lDL_42 rfl)
theorem dL_law_1353 : decode cL_law 1353 = .ok (.istore 7, 2) := dw_58 (pc9 (k := 1344) (j := 9) lDL_42 rfl)
theorem dL_law_1355 : decode cL_law 1355 = .ok (.goto 1397, 3) := dw_866 (pc9 (k := 1344) (j := 11) lDL_42 rfl)
theorem dL_law_1358 : decode cL_law 1358 = .ok (.aload_n 1, 1) := dw_5 (pc9 (k := 1344) (j := 14) lDL_42 rfl)
theorem dL_law_1359 : decode cL_law 1359 = .ok (.aload_n 0, 1) := dw_0 (pc9 (k := 1344) (j := 15) lDL_42 rfl)
theorem dL_law_1360 : decode cL_law 1360 = .ok (.iload 5, 2) := dw_39 (pc9 (k := 1344) (j := 16) lDL_42 rfl)
theorem dL_law_1362 : decode cL_law 1362 = .ok (.iconst 1, 1) := dw_26 (pc9 (k := 1344) (j := 18) lDL_42 rfl)
theorem dL_law_1363 : decode cL_law 1363 = .ok (.iadd, 1) := dw_43 (pc9 (k := 1344) (j := 19) lDL_42 rfl)
theorem dL_law_1364 : decode cL_law 1364 = .ok (.iaload, 1) := dw_16 (pc9 (k := 1344) (j := 20) lDL_42 rfl)
theorem dL_law_1365 : decode cL_law 1365 = .ok (.aload_n 0, 1) := dw_0 (pc9 (k := 1344) (j := 21) lDL_42 rfl)
theorem dL_law_1366 : decode cL_law 1366 = .ok (.iload 5, 2) := dw_39 (pc9 (k := 1344) (j := 22) lDL_42 rfl)
theorem dL_law_1368 : decode cL_law 1368 = .ok (.iconst 2, 1) := dw_260 (pc9 (k := 1344) (j := 24) lDL_42 rfl)
theorem dL_law_1369 : decode cL_law 1369 = .ok (.iadd, 1) := dw_43 (pc9 (k := 1344) (j := 25) lDL_42 rfl)
theorem dL_law_1370 : decode cL_law 1370 = .ok (.iaload, 1) := dw_16 (pc9 (k := 1344) (j := 26) lDL_42 rfl)
theorem dL_law_1371 : decode cL_law 1371 = .ok (.aload_n 3, 1) := dw_119 (pc9 (k := 1344) (j := 27) lDL_42 rfl)
theorem dL_law_1372 : decode cL_law 1372 = .ok (.invokestatic 286, 3) := dw_867 (pc9 (k := 1344) (j := 28) lDL_42 rfl)
theorem dL_law_1375 : decode cL_law 1375 = .ok (.istore 6, 2) := dw_35 (pc9 (k := 1344) (j := 31) lDL_42 rfl)
theorem dL_law_1377 : decode cL_law 1377 = .ok (.aload_n 2, 1) := dw_52 (pc9 (k := 1376) (j := 1) lDL_43 rfl)
theorem dL_law_1378 : decode cL_law 1378 = .ok (.aload_n 0, 1) := dw_0 (pc9 (k := 1376) (j := 2) lDL_43 rfl)
theorem dL_law_1379 : decode cL_law 1379 = .ok (.iload 5, 2) := dw_39 (pc9 (k := 1376) (j := 3) lDL_43 rfl)
theorem dL_law_1381 : decode cL_law 1381 = .ok (.iconst 1, 1) := dw_26 (pc9 (k := 1376) (j := 5) lDL_43 rfl)
theorem dL_law_1382 : decode cL_law 1382 = .ok (.iadd, 1) := dw_43 (pc9 (k := 1376) (j := 6) lDL_43 rfl)
theorem dL_law_1383 : decode cL_law 1383 = .ok (.iaload, 1) := dw_16 (pc9 (k := 1376) (j := 7) lDL_43 rfl)
theorem dL_law_1384 : decode cL_law 1384 = .ok (.aload_n 0, 1) := dw_0 (pc9 (k := 1376) (j := 8) lDL_43 rfl)
theorem dL_law_1385 : decode cL_law 1385 = .ok (.iload 5, 2) := dw_39 (pc9 (k := 1376) (j := 9) lDL_43 rfl)
theorem dL_law_1387 : decode cL_law 1387 = .ok (.iconst 2, 1) := dw_260 (pc9 (k := 1376) (j := 11) lDL_43 rfl)
theorem dL_law_1388 : decode cL_law 1388 = .ok (.iadd, 1) := dw_43 (pc9 (k := 1376) (j := 12) lDL_43 rfl)
theorem dL_law_1389 : decode cL_law 1389 = .ok (.iaload, 1) := dw_16 (pc9 (k := 1376) (j := 13) lDL_43 rfl)
theorem dL_law_1390 : decode cL_law 1390 = .ok (.invokevirtual 288, 3) := dw_868 (pc9 (k := 1376) (j := 14) lDL_43 rfl)
theorem dL_law_1393 : decode cL_law 1393 = .ok (.istore 7, 2) := dw_58 (pc9 (k := 1376) (j := 17) lDL_43 rfl)
theorem dL_law_1395 : decode cL_law 1395 = .ok (.goto 1357, 3) := dw_869 (pc9 (k := 1376) (j := 19) lDL_43 rfl)
theorem dL_law_1398 : decode cL_law 1398 = .ok (.aload_n 1, 1) := dw_5 (pc9 (k := 1376) (j := 22) lDL_43 rfl)
theorem dL_law_1399 : decode cL_law 1399 = .ok (.aload_n 0, 1) := dw_0 (pc9 (k := 1376) (j := 23) lDL_43 rfl)
theorem dL_law_1400 : decode cL_law 1400 = .ok (.iload 5, 2) := dw_39 (pc9 (k := 1376) (j := 24) lDL_43 rfl)
theorem dL_law_1402 : decode cL_law 1402 = .ok (.iconst 1, 1) := dw_26 (pc9 (k := 1376) (j := 26) lDL_43 rfl)
theorem dL_law_1403 : decode cL_law 1403 = .ok (.iadd, 1) := dw_43 (pc9 (k := 1376) (j := 27) lDL_43 rfl)
theorem dL_law_1404 : decode cL_law 1404 = .ok (.iaload, 1) := dw_16 (pc9 (k := 1376) (j := 28) lDL_43 rfl)
theorem dL_law_1405 : decode cL_law 1405 = .ok (.aload_n 0, 1) := dw_0 (pc9 (k := 1376) (j := 29) lDL_43 rfl)
theorem dL_law_1406 : decode cL_law 1406 = .ok (.iload 5, 2) := dw_39 (pc9 (k := 1376) (j := 30) lDL_43 rfl)
theorem dL_law_1408 : decode cL_law 1408 = .ok (.iconst 2, 1) := dw_260 (pc9 (k := 1408) (j := 0) lDL_44 rfl)
theorem dL_law_1409 : decode cL_law 1409 = .ok (.iadd, 1) := dw_43 (pc9 (k := 1408) (j := 1) lDL_44 rfl)
theorem dL_law_1410 : decode cL_law 1410 = .ok (.iaload, 1) := dw_16 (pc9 (k := 1408) (j := 2) lDL_44 rfl)
theorem dL_law_1411 : decode cL_law 1411 = .ok (.aload_n 0, 1) := dw_0 (pc9 (k := 1408) (j := 3) lDL_44 rfl)
theorem dL_law_1412 : decode cL_law 1412 = .ok (.iload 5, 2) := dw_39 (pc9 (k := 1408) (j := 4) lDL_44 rfl)
theorem dL_law_1414 : decode cL_law 1414 = .ok (.iconst 3, 1) := dw_221 (pc9 (k := 1408) (j := 6) lDL_44 rfl)
theorem dL_law_1415 : decode cL_law 1415 = .ok (.iadd, 1) := dw_43 (pc9 (k := 1408) (j := 7) lDL_44 rfl)
theorem dL_law_1416 : decode cL_law 1416 = .ok (.iaload, 1) := dw_16 (pc9 (k := 1408) (j := 8) lDL_44 rfl)
theorem dL_law_1417 : decode cL_law 1417 = .ok (.aload_n 3, 1) := dw_119 (pc9 (k := 1408) (j := 9) lDL_44 rfl)
theorem dL_law_1418 : decode cL_law 1418 = .ok (.invokestatic 289, 3) := dw_870 (pc9 (k := 1408) (j := 10) lDL_44 rfl)
theorem dL_law_1421 : decode cL_law 1421 = .ok (.istore 6, 2) := dw_35 (pc9 (k := 1408) (j := 13) lDL_44 rfl)
theorem dL_law_1423 : decode cL_law 1423 = .ok (.aload_n 2, 1) := dw_52 (pc9 (k := 1408) (j := 15) lDL_44 rfl)
theorem dL_law_1424 : decode cL_law 1424 = .ok (.aload_n 0, 1) := dw_0 (pc9 (k := 1408) (j := 16) lDL_44 rfl)
theorem dL_law_1425 : decode cL_law 1425 = .ok (.iload 5, 2) := dw_39 (pc9 (k := 1408) (j := 17) lDL_44 rfl)
theorem dL_law_1427 : decode cL_law 1427 = .ok (.iconst 1, 1) := dw_26 (pc9 (k := 1408) (j := 19) lDL_44 rfl)
theorem dL_law_1428 : decode cL_law 1428 = .ok (.iadd, 1) := dw_43 (pc9 (k := 1408) (j := 20) lDL_44 rfl)
theorem dL_law_1429 : decode cL_law 1429 = .ok (.iaload, 1) := dw_16 (pc9 (k := 1408) (j := 21) lDL_44 rfl)
theorem dL_law_1430 : decode cL_law 1430 = .ok (.aload_n 0, 1) := dw_0 (pc9 (k := 1408) (j := 22) lDL_44 rfl)
theorem dL_law_1431 : decode cL_law 1431 = .ok (.iload 5, 2) := dw_39 (pc9 (k := 1408) (j := 23) lDL_44 rfl)
theorem dL_law_1433 : decode cL_law 1433 = .ok (.iconst 2, 1) := dw_260 (pc9 (k := 1408) (j := 25) lDL_44 rfl)
theorem dL_law_1434 : decode cL_law 1434 = .ok (.iadd, 1) := dw_43 (pc9 (k := 1408) (j := 26) lDL_44 rfl)
theorem dL_law_1435 : decode cL_law 1435 = .ok (.iaload, 1) := dw_16 (pc9 (k := 1408) (j := 27) lDL_44 rfl)
theorem dL_law_1436 : decode cL_law 1436 = .ok (.aload_n 0, 1) := dw_0 (pc9 (k := 1408) (j := 28) lDL_44 rfl)
theorem dL_law_1437 : decode cL_law 1437 = .ok (.iload 5, 2) := dw_39 (pc9 (k := 1408) (j := 29) lDL_44 rfl)
theorem dL_law_1439 : decode cL_law 1439 = .ok (.iconst 3, 1) := dw_221 (pc9 (k := 1408) (j := 31) lDL_44 rfl)
theorem dL_law_1440 : decode cL_law 1440 = .ok (.iadd, 1) := dw_43 (pc9 (k := 1440) (j := 0) lDL_45 rfl)
theorem dL_law_1441 : decode cL_law 1441 = .ok (.iaload, 1) := dw_16 (pc9 (k := 1440) (j := 1) lDL_45 rfl)
theorem dL_law_1442 : decode cL_law 1442 = .ok (.invokevirtual 291, 3) := dw_871 (pc9 (k := 1440) (j := 2) lDL_45 rfl)
theorem dL_law_1445 : decode cL_law 1445 = .ok (.istore 7, 2) := dw_58 (pc9 (k := 1440) (j := 5) lDL_45 rfl)
theorem dL_law_1447 : decode cL_law 1447 = .ok (.goto 1305, 3) := dw_872 (pc9 (k := 1440) (j := 7) lDL_45 rfl)
theorem dL_law_1450 : decode cL_law 1450 = .ok (.aload_n 1, 1) := dw_5 (pc9 (k := 1440) (j := 10) lDL_45 rfl)
theorem dL_law_1451 : decode cL_law 1451 = .ok (.aload_n 0, 1) := dw_0 (pc9 (k := 1440) (j := 11) lDL_45 rfl)
theorem dL_law_1452 : decode cL_law 1452 = .ok (.iload 5, 2) := dw_39 (pc9 (k := 1440) (j := 12) lDL_45 rfl)
theorem dL_law_1454 : decode cL_law 1454 = .ok (.iconst 1, 1) := dw_26 (pc9 (k := 1440) (j := 14) lDL_45 rfl)
theorem dL_law_1455 : decode cL_law 1455 = .ok (.iadd, 1) := dw_43 (pc9 (k := 1440) (j := 15) lDL_45 rfl)
theorem dL_law_1456 : decode cL_law 1456 = .ok (.iaload, 1) := dw_16 (pc9 (k := 1440) (j := 16) lDL_45 rfl)
theorem dL_law_1457 : decode cL_law 1457 = .ok (.aload_n 0, 1) := dw_0 (pc9 (k := 1440) (j := 17) lDL_45 rfl)
theorem dL_law_1458 : decode cL_law 1458 = .ok (.iload 5, 2) := dw_39 (pc9 (k := 1440) (j := 18) lDL_45 rfl)
theorem dL_law_1460 : decode cL_law 1460 = .ok (.iconst 2, 1) := dw_260 (pc9 (k := 1440) (j := 20) lDL_45 rfl)
theorem dL_law_1461 : decode cL_law 1461 = .ok (.iadd, 1) := dw_43 (pc9 (k := 1440) (j := 21) lDL_45 rfl)
theorem dL_law_1462 : decode cL_law 1462 = .ok (.iaload, 1) := dw_16 (pc9 (k := 1440) (j := 22) lDL_45 rfl)
theorem dL_law_1463 : decode cL_law 1463 = .ok (.aload_n 0, 1) := dw_0 (pc9 (k := 1440) (j := 23) lDL_45 rfl)
theorem dL_law_1464 : decode cL_law 1464 = .ok (.iload 5, 2) := dw_39 (pc9 (k := 1440) (j := 24) lDL_45 rfl)
theorem dL_law_1466 : decode cL_law 1466 = .ok (.iconst 3, 1) := dw_221 (pc9 (k := 1440) (j := 26) lDL_45 rfl)
theorem dL_law_1467 : decode cL_law 1467 = .ok (.iadd, 1) := dw_43 (pc9 (k := 1440) (j := 27) lDL_45 rfl)
theorem dL_law_1468 : decode cL_law 1468 = .ok (.iaload, 1) := dw_16 (pc9 (k := 1440) (j := 28) lDL_45 rfl)
theorem dL_law_1469 : decode cL_law 1469 = .ok (.aload_n 3, 1) := dw_119 (pc9 (k := 1440) (j := 29) lDL_45 rfl)
theorem dL_law_1470 : decode cL_law 1470 = .ok (.invokestatic 292, 3) := dw_873 (pc9 (k := 1440) (j := 30) lDL_45 rfl)
theorem dL_law_1473 : decode cL_law 1473 = .ok (.istore 6, 2) := dw_35 (pc9 (k := 1472) (j := 1) lDL_46 rfl)
theorem dL_law_1475 : decode cL_law 1475 = .ok (.aload_n 2, 1) := dw_52 (pc9 (k := 1472) (j := 3) lDL_46 rfl)
theorem dL_law_1476 : decode cL_law 1476 = .ok (.aload_n 0, 1) := dw_0 (pc9 (k := 1472) (j := 4) lDL_46 rfl)
theorem dL_law_1477 : decode cL_law 1477 = .ok (.iload 5, 2) := dw_39 (pc9 (k := 1472) (j := 5) lDL_46 rfl)
theorem dL_law_1479 : decode cL_law 1479 = .ok (.iconst 1, 1) := dw_26 (pc9 (k := 1472) (j := 7) lDL_46 rfl)
theorem dL_law_1480 : decode cL_law 1480 = .ok (.iadd, 1) := dw_43 (pc9 (k := 1472) (j := 8) lDL_46 rfl)
theorem dL_law_1481 : decode cL_law 1481 = .ok (.iaload, 1) := dw_16 (pc9 (k := 1472) (j := 9) lDL_46 rfl)
theorem dL_law_1482 : decode cL_law 1482 = .ok (.aload_n 0, 1) := dw_0 (pc9 (k := 1472) (j := 10) lDL_46 rfl)
theorem dL_law_1483 : decode cL_law 1483 = .ok (.iload 5, 2) := dw_39 (pc9 (k := 1472) (j := 11) lDL_46 rfl)
theorem dL_law_1485 : decode cL_law 1485 = .ok (.iconst 2, 1) := dw_260 (pc9 (k := 1472) (j := 13) lDL_46 rfl)
theorem dL_law_1486 : decode cL_law 1486 = .ok (.iadd, 1) := dw_43 (pc9 (k := 1472) (j := 14) lDL_46 rfl)
theorem dL_law_1487 : decode cL_law 1487 = .ok (.iaload, 1) := dw_16 (pc9 (k := 1472) (j := 15) lDL_46 rfl)
theorem dL_law_1488 : decode cL_law 1488 = .ok (.aload_n 0, 1) := dw_0 (pc9 (k := 1472) (j := 16) lDL_46 rfl)
theorem dL_law_1489 : decode cL_law 1489 = .ok (.iload 5, 2) := dw_39 (pc9 (k := 1472) (j := 17) lDL_46 rfl)
theorem dL_law_1491 : decode cL_law 1491 = .ok (.iconst 3, 1) := dw_221 (pc9 (k := 1472) (j := 19) lDL_46 rfl)
theorem dL_law_1492 : decode cL_law 1492 = .ok (.iadd, 1) := dw_43 (pc9 (k := 1472) (j := 20) lDL_46 rfl)
theorem dL_law_1493 : decode cL_law 1493 = .ok (.iaload, 1) := dw_16 (pc9 (k := 1472) (j := 21) lDL_46 rfl)
theorem dL_law_1494 : decode cL_law 1494 = .ok (.invokevirtual 294, 3) := dw_690 (pc9 (k := 1472) (j := 22) lDL_46 rfl)
theorem dL_law_1497 : decode cL_law 1497 = .ok (.istore 7, 2) := dw_58 (pc9 (k := 1472) (j := 25) lDL_46 rfl)
theorem dL_law_1499 : decode cL_law 1499 = .ok (.goto 1253, 3) := dw_874 (pc9 (k := 1472) (j := 27) lDL_46 rfl)
theorem dL_law_1502 : decode cL_law 1502 = .ok (.aload_n 1, 1) := dw_5 (pc9 (k := 1472) (j := 30) lDL_46 rfl)
theorem dL_law_1503 : decode cL_law 1503 = .ok (.aload_n 0, 1) := dw_0 (pc9 (k := 1472) (j := 31) lDL_46 rfl)
theorem dL_law_1504 : decode cL_law 1504 = .ok (.iload 5, 2) := dw_39 (pc9 (k := 1504) (j := 0) lDL_47 rfl)
theorem dL_law_1506 : decode cL_law 1506 = .ok (.iconst 1, 1) := dw_26 (pc9 (k := 1504) (j := 2) lDL_47 rfl)
theorem dL_law_1507 : decode cL_law 1507 = .ok (.iadd, 1) := dw_43 (pc9 (k := 1504) (j := 3) lDL_47 rfl)
theorem dL_law_1508 : decode cL_law 1508 = .ok (.iaload, 1) := dw_16 (pc9 (k := 1504) (j := 4) lDL_47 rfl)
theorem dL_law_1509 : decode cL_law 1509 = .ok (.aload_n 3, 1) := dw_119 (pc9 (k := 1504) (j := 5) lDL_47 rfl)
theorem dL_law_1510 : decode cL_law 1510 = .ok (.invokestatic 295, 3) := dw_875 (pc9 (k := 1504) (j := 6) lDL_47 rfl)
theorem dL_law_1513 : decode cL_law 1513 = .ok (.istore 6, 2) := dw_35 (pc9 (k := 1504) (j := 9) lDL_47 rfl)
theorem dL_law_1515 : decode cL_law 1515 = .ok (.aload_n 2, 1) := dw_52 (pc9 (k := 1504) (j := 11) lDL_47 rfl)
theorem dL_law_1516 : decode cL_law 1516 = .ok (.aload_n 0, 1) := dw_0 (pc9 (k := 1504) (j := 12) lDL_47 rfl)
theorem dL_law_1517 : decode cL_law 1517 = .ok (.iload 5, 2) := dw_39 (pc9 (k := 1504) (j := 13) lDL_47 rfl)
theorem dL_law_1519 : decode cL_law 1519 = .ok (.iconst 1, 1) := dw_26 (pc9 (k := 1504) (j := 15) lDL_47 rfl)
theorem dL_law_1520 : decode cL_law 1520 = .ok (.iadd, 1) := dw_43 (pc9 (k := 1504) (j := 16) lDL_47 rfl)
theorem dL_law_1521 : decode cL_law 1521 = .ok (.iaload, 1) := dw_16 (pc9 (k := 1504) (j := 17) lDL_47 rfl)
theorem dL_law_1522 : decode cL_law 1522 = .ok (.invokevirtual 297, 3) := dw_876 (pc9 (k := 1504) (j := 18) lDL_47 rfl)
theorem dL_law_1525 : decode cL_law 1525 = .ok (.istore 7, 2) := dw_58 (pc9 (k := 1504) (j := 21) lDL_47 rfl)
theorem dL_law_1527 : decode cL_law 1527 = .ok (.goto 1225, 3) := dw_877 (pc9 (k := 1504) (j := 23) lDL_47 rfl)
theorem dL_law_1530 : decode cL_law 1530 = .ok (.aload_n 1, 1) := dw_5 (pc9 (k := 1504) (j := 26) lDL_47 rfl)
theorem dL_law_1531 : decode cL_law 1531 = .ok (.aload_n 0, 1) := dw_0 (pc9 (k := 1504) (j := 27) lDL_47 rfl)
theorem dL_law_1532 : decode cL_law 1532 = .ok (.iload 5, 2) := dw_39 (pc9 (k := 1504) (j := 28) lDL_47 rfl)
theorem dL_law_1534 : decode cL_law 1534 = .ok (.iconst 1, 1) := dw_26 (pc9 (k := 1504) (j := 30) lDL_47 rfl)
theorem dL_law_1535 : decode cL_law 1535 = .ok (.iadd, 1) := dw_43 (pc9 (k := 1504) (j := 31) lDL_47 rfl)
theorem dL_law_1536 : decode cL_law 1536 = .ok (.iaload, 1) := dw_16 (pc9 (k := 1536) (j := 0) lDL_48 rfl)
theorem dL_law_1537 : decode cL_law 1537 = .ok (.aload_n 3, 1) := dw_119 (pc9 (k := 1536) (j := 1) lDL_48 rfl)
theorem dL_law_1538 : decode cL_law 1538 = .ok (.invokestatic 298, 3) := dw_878 (pc9 (k := 1536) (j := 2) lDL_48 rfl)
theorem dL_law_1541 : decode cL_law 1541 = .ok (.istore 6, 2) := dw_35 (pc9 (k := 1536) (j := 5) lDL_48 rfl)
theorem dL_law_1543 : decode cL_law 1543 = .ok (.aload_n 2, 1) := dw_52 (pc9 (k := 1536) (j := 7) lDL_48 rfl)
theorem dL_law_1544 : decode cL_law 1544 = .ok (.aload_n 0, 1) := dw_0 (pc9 (k := 1536) (j := 8) lDL_48 rfl)
theorem dL_law_1545 : decode cL_law 1545 = .ok (.iload 5, 2) := dw_39 (pc9 (k := 1536) (j := 9) lDL_48 rfl)
theorem dL_law_1547 : decode cL_law 1547 = .ok (.iconst 1, 1) := dw_26 (pc9 (k := 1536) (j := 11) lDL_48 rfl)
theorem dL_law_1548 : decode cL_law 1548 = .ok (.iadd, 1) := dw_43 (pc9 (k := 1536) (j := 12) lDL_48 rfl)
theorem dL_law_1549 : decode cL_law 1549 = .ok (.iaload, 1) := dw_16 (pc9 (k := 1536) (j := 13) lDL_48 rfl)
theorem dL_law_1550 : decode cL_law 1550 = .ok (.invokevirtual 300, 3) := dw_709 (pc9 (k := 1536) (j := 14) lDL_48 rfl)
theorem dL_law_1553 : decode cL_law 1553 = .ok (.istore 7, 2) := dw_58 (pc9 (k := 1536) (j := 17) lDL_48 rfl)
theorem dL_law_1555 : decode cL_law 1555 = .ok (.goto 1197, 3) := dw_879 (pc9 (k := 1536) (j := 19) lDL_48 rfl)
theorem dL_law_1558 : decode cL_law 1558 = .ok (.aload_n 1, 1) := dw_5 (pc9 (k := 1536) (j := 22) lDL_48 rfl)
theorem dL_law_1559 : decode cL_law 1559 = .ok (.aload_n 0, 1) := dw_0 (pc9 (k := 1536) (j := 23) lDL_48 rfl)
theorem dL_law_1560 : decode cL_law 1560 = .ok (.iload 5, 2) := dw_39 (pc9 (k := 1536) (j := 24) lDL_48 rfl)
theorem dL_law_1562 : decode cL_law 1562 = .ok (.iconst 1, 1) := dw_26 (pc9 (k := 1536) (j := 26) lDL_48 rfl)
theorem dL_law_1563 : decode cL_law 1563 = .ok (.iadd, 1) := dw_43 (pc9 (k := 1536) (j := 27) lDL_48 rfl)
theorem dL_law_1564 : decode cL_law 1564 = .ok (.iaload, 1) := dw_16 (pc9 (k := 1536) (j := 28) lDL_48 rfl)
theorem dL_law_1565 : decode cL_law 1565 = .ok (.aload_n 3, 1) := dw_119 (pc9 (k := 1536) (j := 29) lDL_48 rfl)
theorem dL_law_1566 : decode cL_law 1566 = .ok (.invokestatic 301, 3) := dw_880 (pc9 (k := 1536) (j := 30) lDL_48 rfl)
theorem dL_law_1569 : decode cL_law 1569 = .ok (.istore 6, 2) := dw_35 (pc9 (k := 1568) (j := 1) lDL_49 rfl)
theorem dL_law_1571 : decode cL_law 1571 = .ok (.aload_n 2, 1) := dw_52 (pc9 (k := 1568) (j := 3) lDL_49 rfl)
theorem dL_law_1572 : decode cL_law 1572 = .ok (.aload_n 0, 1) := dw_0 (pc9 (k := 1568) (j := 4) lDL_49 rfl)
theorem dL_law_1573 : decode cL_law 1573 = .ok (.iload 5, 2) := dw_39 (pc9 (k := 1568) (j := 5) lDL_49 rfl)
theorem dL_law_1575 : decode cL_law 1575 = .ok (.iconst 1, 1) := dw_26 (pc9 (k := 1568) (j := 7) lDL_49 rfl)
theorem dL_law_1576 : decode cL_law 1576 = .ok (.iadd, 1) := dw_43 (pc9 (k := 1568) (j := 8) lDL_49 rfl)
theorem dL_law_1577 : decode cL_law 1577 = .ok (.iaload, 1) := dw_16 (pc9 (k := 1568) (j := 9) lDL_49 rfl)
theorem dL_law_1578 : decode cL_law 1578 = .ok (.invokevirtual 303, 3) := dw_715 (pc9 (k := 1568) (j := 10) lDL_49 rfl)
theorem dL_law_1581 : decode cL_law 1581 = .ok (.istore 7, 2) := dw_58 (pc9 (k := 1568) (j := 13) lDL_49 rfl)
theorem dL_law_1583 : decode cL_law 1583 = .ok (.goto 1169, 3) := dw_881 (pc9 (k := 1568) (j := 15) lDL_49 rfl)
theorem dL_law_1586 : decode cL_law 1586 = .ok (.aload_n 1, 1) := dw_5 (pc9 (k := 1568) (j := 18) lDL_49 rfl)
theorem dL_law_1587 : decode cL_law 1587 = .ok (.aload_n 0, 1) := dw_0 (pc9 (k := 1568) (j := 19) lDL_49 rfl)
theorem dL_law_1588 : decode cL_law 1588 = .ok (.iload 5, 2) := dw_39 (pc9 (k := 1568) (j := 20) lDL_49 rfl)
theorem dL_law_1590 : decode cL_law 1590 = .ok (.iconst 1, 1) := dw_26 (pc9 (k := 1568) (j := 22) lDL_49 rfl)
theorem dL_law_1591 : decode cL_law 1591 = .ok (.iadd, 1) := dw_43 (pc9 (k := 1568) (j := 23) lDL_49 rfl)
theorem dL_law_1592 : decode cL_law 1592 = .ok (.iaload, 1) := dw_16 (pc9 (k := 1568) (j := 24) lDL_49 rfl)
theorem dL_law_1593 : decode cL_law 1593 = .ok (.aload_n 3, 1) := dw_119 (pc9 (k := 1568) (j := 25) lDL_49 rfl)
theorem dL_law_1594 : decode cL_law 1594 = .ok (.invokestatic 304, 3) := dw_882 (pc9 (k := 1568) (j := 26) lDL_49 rfl)
theorem dL_law_1597 : decode cL_law 1597 = .ok (.istore 6, 2) := dw_35 (pc9 (k := 1568) (j := 29) lDL_49 rfl)
theorem dL_law_1599 : decode cL_law 1599 = .ok (.aload_n 2, 1) := dw_52 (pc9 (k := 1568) (j := 31) lDL_49 rfl)
theorem dL_law_1600 : decode cL_law 1600 = .ok (.aload_n 0, 1) := dw_0 (pc9 (k := 1600) (j := 0) lDL_50 rfl)
theorem dL_law_1601 : decode cL_law 1601 = .ok (.iload 5, 2) := dw_39 (pc9 (k := 1600) (j := 1) lDL_50 rfl)
theorem dL_law_1603 : decode cL_law 1603 = .ok (.iconst 1, 1) := dw_26 (pc9 (k := 1600) (j := 3) lDL_50 rfl)
theorem dL_law_1604 : decode cL_law 1604 = .ok (.iadd, 1) := dw_43 (pc9 (k := 1600) (j := 4) lDL_50 rfl)
theorem dL_law_1605 : decode cL_law 1605 = .ok (.iaload, 1) := dw_16 (pc9 (k := 1600) (j := 5) lDL_50 rfl)
theorem dL_law_1606 : decode cL_law 1606 = .ok (.invokevirtual 306, 3) := dw_883 (pc9 (k := 1600) (j := 6) lDL_50 rfl)
theorem dL_law_1609 : decode cL_law 1609 = .ok (.istore 7, 2) := dw_58 (pc9 (k := 1600) (j := 9) lDL_50 rfl)
theorem dL_law_1611 : decode cL_law 1611 = .ok (.goto 1141, 3) := dw_884 (pc9 (k := 1600) (j := 11) lDL_50 rfl)
theorem dL_law_1614 : decode cL_law 1614 = .ok (.aload_n 1, 1) := dw_5 (pc9 (k := 1600) (j := 14) lDL_50 rfl)
theorem dL_law_1615 : decode cL_law 1615 = .ok (.aload_n 0, 1) := dw_0 (pc9 (k := 1600) (j := 15) lDL_50 rfl)
theorem dL_law_1616 : decode cL_law 1616 = .ok (.iload 5, 2) := dw_39 (pc9 (k := 1600) (j := 16) lDL_50 rfl)
theorem dL_law_1618 : decode cL_law 1618 = .ok (.iconst 1, 1) := dw_26 (pc9 (k := 1600) (j := 18) lDL_50 rfl)
theorem dL_law_1619 : decode cL_law 1619 = .ok (.iadd, 1) := dw_43 (pc9 (k := 1600) (j := 19) lDL_50 rfl)
theorem dL_law_1620 : decode cL_law 1620 = .ok (.iaload, 1) := dw_16 (pc9 (k := 1600) (j := 20) lDL_50 rfl)
theorem dL_law_1621 : decode cL_law 1621 = .ok (.aload_n 0, 1) := dw_0 (pc9 (k := 1600) (j := 21) lDL_50 rfl)
theorem dL_law_1622 : decode cL_law 1622 = .ok (.iload 5, 2) := dw_39 (pc9 (k := 1600) (j := 22) lDL_50 rfl)
theorem dL_law_1624 : decode cL_law 1624 = .ok (.iconst 2, 1) := dw_260 (pc9 (k := 1600) (j := 24) lDL_50 rfl)
theorem dL_law_1625 : decode cL_law 1625 = .ok (.iadd, 1) := dw_43 (pc9 (k := 1600) (j := 25) lDL_50 rfl)
theorem dL_law_1626 : decode cL_law 1626 = .ok (.iaload, 1) := dw_16 (pc9 (k := 1600) (j := 26) lDL_50 rfl)
theorem dL_law_1627 : decode cL_law 1627 = .ok (.i2l, 1) := dw_498 (pc9 (k := 1600) (j := 27) lDL_50 rfl)
theorem dL_law_1628 : decode cL_law 1628 = .ok (.bipush 32, 2) := dw_2 (pc9 (k := 1600) (j := 28) lDL_50 rfl)
theorem dL_law_1630 : decode cL_law 1630 = .ok (.lshl, 1) := dw_535 (pc9 (k := 1600) (j := 30) lDL_50 rfl)
theorem dL_law_1631 : decode cL_law 1631 = .ok (.aload_n 0, 1) := dw_0 (pc9 (k := 1600) (j := 31) lDL_50 rfl)
theorem dL_law_1632 : decode cL_law 1632 = .ok (.iload 5, 2) := dw_39 (pc9 (k := 1632) (j := 0) lDL_51 rfl)
theorem dL_law_1634 : decode cL_law 1634 = .ok (.iconst 3, 1) := dw_221 (pc9 (k := 1632) (j := 2) lDL_51 rfl)
theorem dL_law_1635 : decode cL_law 1635 = .ok (.iadd, 1) := dw_43 (pc9 (k := 1632) (j := 3) lDL_51 rfl)
theorem dL_law_1636 : decode cL_law 1636 = .ok (.iaload, 1) := dw_16 (pc9 (k := 1632) (j := 4) lDL_51 rfl)
theorem dL_law_1637 : decode cL_law 1637 = .ok (.i2l, 1) := dw_498 (pc9 (k := 1632) (j := 5) lDL_51 rfl)
theorem dL_law_1638 : decode cL_law 1638 = .ok (.ldc2_w 186, 3) := dw_797 (pc9 (k := 1632) (j := 6) lDL_51 rfl)
theorem dL_law_1641 : decode cL_law 1641 = .ok (.land, 1) := dw_161 (pc9 (k := 1632) (j := 9) lDL_51 rfl)
theorem dL_law_1642 : decode cL_law 1642 = .ok (.lor, 1) := dw_572 (pc9 (k := 1632) (j := 10) lDL_51 rfl)
theorem dL_law_1643 : decode cL_law 1643 = .ok (.aload_n 3, 1) := dw_119 (pc9 (k := 1632) (j := 11) lDL_51 rfl)
theorem dL_law_1644 : decode cL_law 1644 = .ok (.invokestatic 307, 3) := dw_885 (pc9 (k := 1632) (j := 12) lDL_51 rfl)
theorem dL_law_1647 : decode cL_law 1647 = .ok (.istore 6, 2) := dw_35 (pc9 (k := 1632) (j := 15) lDL_51 rfl)
theorem dL_law_1649 : decode cL_law 1649 = .ok (.aload_n 2, 1) := dw_52 (pc9 (k := 1632) (j := 17) lDL_51 rfl)
theorem dL_law_1650 : decode cL_law 1650 = .ok (.aload_n 0, 1) := dw_0 (pc9 (k := 1632) (j := 18) lDL_51 rfl)
theorem dL_law_1651 : decode cL_law 1651 = .ok (.iload 5, 2) := dw_39 (pc9 (k := 1632) (j := 19) lDL_51 rfl)
theorem dL_law_1653 : decode cL_law 1653 = .ok (.iconst 1, 1) := dw_26 (pc9 (k := 1632) (j := 21) lDL_51 rfl)
theorem dL_law_1654 : decode cL_law 1654 = .ok (.iadd, 1) := dw_43 (pc9 (k := 1632) (j := 22) lDL_51 rfl)
theorem dL_law_1655 : decode cL_law 1655 = .ok (.iaload, 1) := dw_16 (pc9 (k := 1632) (j := 23) lDL_51 rfl)
theorem dL_law_1656 : decode cL_law 1656 = .ok (.aload_n 0, 1) := dw_0 (pc9 (k := 1632) (j := 24) lDL_51 rfl)
theorem dL_law_1657 : decode cL_law 1657 = .ok (.iload 5, 2) := dw_39 (pc9 (k := 1632) (j := 25) lDL_51 rfl)
theorem dL_law_1659 : decode cL_law 1659 = .ok (.iconst 2, 1) := dw_260 (pc9 (k := 1632) (j := 27) lDL_51 rfl)
theorem dL_law_1660 : decode cL_law 1660 = .ok (.iadd, 1) := dw_43 (pc9 (k := 1632) (j := 28) lDL_51 rfl)
theorem dL_law_1661 : decode cL_law 1661 = .ok (.iaload, 1) := dw_16 (pc9 (k := 1632) (j := 29) lDL_51 rfl)
theorem dL_law_1662 : decode cL_law 1662 = .ok (.i2l, 1) := dw_498 (pc9 (k := 1632) (j := 30) lDL_51 rfl)
theorem dL_law_1663 : decode cL_law 1663 = .ok (.bipush 32, 2) := dw_2 (pc9 (k := 1632) (j := 31) lDL_51 rfl)
theorem dL_law_1665 : decode cL_law 1665 = .ok (.lshl, 1) := dw_535 (pc9 (k := 1664) (j := 1) lDL_52 rfl)
theorem dL_law_1666 : decode cL_law 1666 = .ok (.aload_n 0, 1) := dw_0 (pc9 (k := 1664) (j := 2) lDL_52 rfl)
theorem dL_law_1667 : decode cL_law 1667 = .ok (.iload 5, 2) := dw_39 (pc9 (k := 1664) (j := 3) lDL_52 rfl)
theorem dL_law_1669 : decode cL_law 1669 = .ok (.iconst 3, 1) := dw_221 (pc9 (k := 1664) (j := 5) lDL_52 rfl)
theorem dL_law_1670 : decode cL_law 1670 = .ok (.iadd, 1) := dw_43 (pc9 (k := 1664) (j := 6) lDL_52 rfl)
theorem dL_law_1671 : decode cL_law 1671 = .ok (.iaload, 1) := dw_16 (pc9 (k := 1664) (j := 7) lDL_52 rfl)
theorem dL_law_1672 : decode cL_law 1672 = .ok (.i2l, 1) := dw_498 (pc9 (k := 1664) (j := 8) lDL_52 rfl)
theorem dL_law_1673 : decode cL_law 1673 = .ok (.ldc2_w 186, 3) := dw_797 (pc9 (k := 1664) (j := 9) lDL_52 rfl)
theorem dL_law_1676 : decode cL_law 1676 = .ok (.land, 1) := dw_161 (pc9 (k := 1664) (j := 12) lDL_52 rfl)
theorem dL_law_1677 : decode cL_law 1677 = .ok (.lor, 1) := dw_572 (pc9 (k := 1664) (j := 13) lDL_52 rfl)
theorem dL_law_1678 : decode cL_law 1678 = .ok (.invokevirtual 309, 3) := dw_886 (pc9 (k := 1664) (j := 14) lDL_52 rfl)
theorem dL_law_1681 : decode cL_law 1681 = .ok (.lstore 7, 2) := dw_737 (pc9 (k := 1664) (j := 17) lDL_52 rfl)
theorem dL_law_1683 : decode cL_law 1683 = .ok (.goto 1069, 3) := dw_887 (pc9 (k := 1664) (j := 19) lDL_52 rfl)
theorem dL_law_1686 : decode cL_law 1686 = .ok (.aload_n 1, 1) := dw_5 (pc9 (k := 1664) (j := 22) lDL_52 rfl)
theorem dL_law_1687 : decode cL_law 1687 = .ok (.aload_n 0, 1) := dw_0 (pc9 (k := 1664) (j := 23) lDL_52 rfl)
theorem dL_law_1688 : decode cL_law 1688 = .ok (.iload 5, 2) := dw_39 (pc9 (k := 1664) (j := 24) lDL_52 rfl)
theorem dL_law_1690 : decode cL_law 1690 = .ok (.iconst 1, 1) := dw_26 (pc9 (k := 1664) (j := 26) lDL_52 rfl)
theorem dL_law_1691 : decode cL_law 1691 = .ok (.iadd, 1) := dw_43 (pc9 (k := 1664) (j := 27) lDL_52 rfl)
theorem dL_law_1692 : decode cL_law 1692 = .ok (.iaload, 1) := dw_16 (pc9 (k := 1664) (j := 28) lDL_52 rfl)
theorem dL_law_1693 : decode cL_law 1693 = .ok (.aload_n 0, 1) := dw_0 (pc9 (k := 1664) (j := 29) lDL_52 rfl)
theorem dL_law_1694 : decode cL_law 1694 = .ok (.iload 5, 2) := dw_39 (pc9 (k := 1664) (j := 30) lDL_52 rfl)
theorem dL_law_1696 : decode cL_law 1696 = .ok (.iconst 2, 1) := dw_260 (pc9 (k := 1696) (j := 0) lDL_53 rfl)
theorem dL_law_1697 : decode cL_law 1697 = .ok (.iadd, 1) := dw_43 (pc9 (k := 1696) (j := 1) lDL_53 rfl)
theorem dL_law_1698 : decode cL_law 1698 = .ok (.iaload, 1) := dw_16 (pc9 (k := 1696) (j := 2) lDL_53 rfl)
theorem dL_law_1699 : decode cL_law 1699 = .ok (.i2l, 1) := dw_498 (pc9 (k := 1696) (j := 3) lDL_53 rfl)
theorem dL_law_1700 : decode cL_law 1700 = .ok (.bipush 32, 2) := dw_2 (pc9 (k := 1696) (j := 4) lDL_53 rfl)
theorem dL_law_1702 : decode cL_law 1702 = .ok (.lshl, 1) := dw_535 (pc9 (k := 1696) (j := 6) lDL_53 rfl)
theorem dL_law_1703 : decode cL_law 1703 = .ok (.aload_n 0, 1) := dw_0 (pc9 (k := 1696) (j := 7) lDL_53 rfl)
theorem dL_law_1704 : decode cL_law 1704 = .ok (.iload 5, 2) := dw_39 (pc9 (k := 1696) (j := 8) lDL_53 rfl)
theorem dL_law_1706 : decode cL_law 1706 = .ok (.iconst 3, 1) := dw_221 (pc9 (k := 1696) (j := 10) lDL_53 rfl)
theorem dL_law_1707 : decode cL_law 1707 = .ok (.iadd, 1) := dw_43 (pc9 (k := 1696) (j := 11) lDL_53 rfl)
theorem dL_law_1708 : decode cL_law 1708 = .ok (.iaload, 1) := dw_16 (pc9 (k := 1696) (j := 12) lDL_53 rfl)
theorem dL_law_1709 : decode cL_law 1709 = .ok (.i2l, 1) := dw_498 (pc9 (k := 1696) (j := 13) lDL_53 rfl)
theorem dL_law_1710 : decode cL_law 1710 = .ok (.ldc2_w 186, 3) := dw_797 (pc9 (k := 1696) (j := 14) lDL_53 rfl)
theorem dL_law_1713 : decode cL_law 1713 = .ok (.land, 1) := dw_161 (pc9 (k := 1696) (j := 17) lDL_53 rfl)
theorem dL_law_1714 : decode cL_law 1714 = .ok (.lor, 1) := dw_572 (pc9 (k := 1696) (j := 18) lDL_53 rfl)
theorem dL_law_1715 : decode cL_law 1715 = .ok (.aload_n 3, 1) := dw_119 (pc9 (k := 1696) (j := 19) lDL_53 rfl)
theorem dL_law_1716 : decode cL_law 1716 = .ok (.invokestatic 310, 3) := dw_888 (pc9 (k := 1696) (j := 20) lDL_53 rfl)
theorem dL_law_1719 : decode cL_law 1719 = .ok (.istore 6, 2) := dw_35 (pc9 (k := 1696) (j := 23) lDL_53 rfl)
theorem dL_law_1721 : decode cL_law 1721 = .ok (.aload_n 2, 1) := dw_52 (pc9 (k := 1696) (j := 25) lDL_53 rfl)
theorem dL_law_1722 : decode cL_law 1722 = .ok (.aload_n 0, 1) := dw_0 (pc9 (k := 1696) (j := 26) lDL_53 rfl)
theorem dL_law_1723 : decode cL_law 1723 = .ok (.iload 5, 2) := dw_39 (pc9 (k := 1696) (j := 27) lDL_53 rfl)
theorem dL_law_1725 : decode cL_law 1725 = .ok (.iconst 1, 1) := dw_26 (pc9 (k := 1696) (j := 29) lDL_53 rfl)
theorem dL_law_1726 : decode cL_law 1726 = .ok (.iadd, 1) := dw_43 (pc9 (k := 1696) (j := 30) lDL_53 rfl)
theorem dL_law_1727 : decode cL_law 1727 = .ok (.iaload, 1) := dw_16 (pc9 (k := 1696) (j := 31) lDL_53 rfl)
theorem dL_law_1728 : decode cL_law 1728 = .ok (.aload_n 0, 1) := dw_0 (pc9 (k := 1728) (j := 0) lDL_54 rfl)
theorem dL_law_1729 : decode cL_law 1729 = .ok (.iload 5, 2) := dw_39 (pc9 (k := 1728) (j := 1) lDL_54 rfl)
theorem dL_law_1731 : decode cL_law 1731 = .ok (.iconst 2, 1) := dw_260 (pc9 (k := 1728) (j := 3) lDL_54 rfl)
theorem dL_law_1732 : decode cL_law 1732 = .ok (.iadd, 1) := dw_43 (pc9 (k := 1728) (j := 4) lDL_54 rfl)
theorem dL_law_1733 : decode cL_law 1733 = .ok (.iaload, 1) := dw_16 (pc9 (k := 1728) (j := 5) lDL_54 rfl)
theorem dL_law_1734 : decode cL_law 1734 = .ok (.i2l, 1) := dw_498 (pc9 (k := 1728) (j := 6) lDL_54 rfl)
theorem dL_law_1735 : decode cL_law 1735 = .ok (.bipush 32, 2) := dw_2 (pc9 (k := 1728) (j := 7) lDL_54 rfl)
theorem dL_law_1737 : decode cL_law 1737 = .ok (.lshl, 1) := dw_535 (pc9 (k := 1728) (j := 9) lDL_54 rfl)
theorem dL_law_1738 : decode cL_law 1738 = .ok (.aload_n 0, 1) := dw_0 (pc9 (k := 1728) (j := 10) lDL_54 rfl)
theorem dL_law_1739 : decode cL_law 1739 = .ok (.iload 5, 2) := dw_39 (pc9 (k := 1728) (j := 11) lDL_54 rfl)
theorem dL_law_1741 : decode cL_law 1741 = .ok (.iconst 3, 1) := dw_221 (pc9 (k := 1728) (j := 13) lDL_54 rfl)
theorem dL_law_1742 : decode cL_law 1742 = .ok (.iadd, 1) := dw_43 (pc9 (k := 1728) (j := 14) lDL_54 rfl)
theorem dL_law_1743 : decode cL_law 1743 = .ok (.iaload, 1) := dw_16 (pc9 (k := 1728) (j := 15) lDL_54 rfl)
theorem dL_law_1744 : decode cL_law 1744 = .ok (.i2l, 1) := dw_498 (pc9 (k := 1728) (j := 16) lDL_54 rfl)
theorem dL_law_1745 : decode cL_law 1745 = .ok (.ldc2_w 186, 3) := dw_797 (pc9 (k := 1728) (j := 17) lDL_54 rfl)
theorem dL_law_1748 : decode cL_law 1748 = .ok (.land, 1) := dw_161 (pc9 (k := 1728) (j := 20) lDL_54 rfl)
theorem dL_law_1749 : decode cL_law 1749 = .ok (.lor, 1) := dw_572 (pc9 (k := 1728) (j := 21) lDL_54 rfl)
theorem dL_law_1750 : decode cL_law 1750 = .ok (.invokevirtual 312, 3) := dw_726 (pc9 (k := 1728) (j := 22) lDL_54 rfl)
theorem dL_law_1753 : decode cL_law 1753 = .ok (.istore 7, 2) := dw_58 (pc9 (k := 1728) (j := 25) lDL_54 rfl)
theorem dL_law_1755 : decode cL_law 1755 = .ok (.goto 997, 3) := dw_889 (pc9 (k := 1728) (j := 27) lDL_54 rfl)
theorem dL_law_1758 : decode cL_law 1758 = .ok (.aload_n 1, 1) := dw_5 (pc9 (k := 1728) (j := 30) lDL_54 rfl)
theorem dL_law_1759 : decode cL_law 1759 = .ok (.aload_n 0, 1) := dw_0 (pc9 (k := 1728) (j := 31) lDL_54 rfl)
theorem dL_law_1760 : decode cL_law 1760 = .ok (.iload 5, 2) := dw_39 (pc9 (k := 1760) (j := 0) lDL_55 rfl)
theorem dL_law_1762 : decode cL_law 1762 = .ok (.iconst 1, 1) := dw_26 (pc9 (k := 1760) (j := 2) lDL_55 rfl)
theorem dL_law_1763 : decode cL_law 1763 = .ok (.iadd, 1) := dw_43 (pc9 (k := 1760) (j := 3) lDL_55 rfl)
theorem dL_law_1764 : decode cL_law 1764 = .ok (.iaload, 1) := dw_16 (pc9 (k := 1760) (j := 4) lDL_55 rfl)
theorem dL_law_1765 : decode cL_law 1765 = .ok (.aload_n 0, 1) := dw_0 (pc9 (k := 1760) (j := 5) lDL_55 rfl)
theorem dL_law_1766 : decode cL_law 1766 = .ok (.iload 5, 2) := dw_39 (pc9 (k := 1760) (j := 6) lDL_55 rfl)
theorem dL_law_1768 : decode cL_law 1768 = .ok (.iconst 2, 1) := dw_260 (pc9 (k := 1760) (j := 8) lDL_55 rfl)
theorem dL_law_1769 : decode cL_law 1769 = .ok (.iadd, 1) := dw_43 (pc9 (k := 1760) (j := 9) lDL_55 rfl)
theorem dL_law_1770 : decode cL_law 1770 = .ok (.iaload, 1) := dw_16 (pc9 (k := 1760) (j := 10) lDL_55 rfl)
theorem dL_law_1771 : decode cL_law 1771 = .ok (.aload_n 3, 1) := dw_119 (pc9 (k := 1760) (j := 11) lDL_55 rfl)
theorem dL_law_1772 : decode cL_law 1772 = .ok (.invokestatic 313, 3) := dw_890 (pc9 (k := 1760) (j := 12) lDL_55 rfl)
theorem dL_law_1775 : decode cL_law 1775 = .ok (.istore 6, 2) := dw_35 (pc9 (k := 1760) (j := 15) lDL_55 rfl)
theorem dL_law_1777 : decode cL_law 1777 = .ok (.aload_n 2, 1) := dw_52 (pc9 (k := 1760) (j := 17) lDL_55 rfl)
theorem dL_law_1778 : decode cL_law 1778 = .ok (.aload_n 0, 1) := dw_0 (pc9 (k := 1760) (j := 18) lDL_55 rfl)
theorem dL_law_1779 : decode cL_law 1779 = .ok (.iload 5, 2) := dw_39 (pc9 (k := 1760) (j := 19) lDL_55 rfl)
theorem dL_law_1781 : decode cL_law 1781 = .ok (.iconst 1, 1) := dw_26 (pc9 (k := 1760) (j := 21) lDL_55 rfl)
theorem dL_law_1782 : decode cL_law 1782 = .ok (.iadd, 1) := dw_43 (pc9 (k := 1760) (j := 22) lDL_55 rfl)
theorem dL_law_1783 : decode cL_law 1783 = .ok (.iaload, 1) := dw_16 (pc9 (k := 1760) (j := 23) lDL_55 rfl)
theorem dL_law_1784 : decode cL_law 1784 = .ok (.aload_n 0, 1) := dw_0 (pc9 (k := 1760) (j := 24) lDL_55 rfl)
theorem dL_law_1785 : decode cL_law 1785 = .ok (.iload 5, 2) := dw_39 (pc9 (k := 1760) (j := 25) lDL_55 rfl)
theorem dL_law_1787 : decode cL_law 1787 = .ok (.iconst 2, 1) := dw_260 (pc9 (k := 1760) (j := 27) lDL_55 rfl)
theorem dL_law_1788 : decode cL_law 1788 = .ok (.iadd, 1) := dw_43 (pc9 (k := 1760) (j := 28) lDL_55 rfl)
theorem dL_law_1789 : decode cL_law 1789 = .ok (.iaload, 1) := dw_16 (pc9 (k := 1760) (j := 29) lDL_55 rfl)
theorem dL_law_1790 : decode cL_law 1790 = .ok (.invokevirtual 315, 3) := dw_728 (pc9 (k := 1760) (j := 30) lDL_55 rfl)
theorem dL_law_1793 : decode cL_law 1793 = .ok (.istore 7, 2) := dw_58 (pc9 (k := 1792) (j := 1) lDL_56 rfl)
theorem dL_law_1795 : decode cL_law 1795 = .ok (.goto 957, 3) := dw_891 (pc9 (k := 1792) (j := 3) lDL_56 rfl)
theorem dL_law_1798 : decode cL_law 1798 = .ok (.aload_n 1, 1) := dw_5 (pc9 (k := 1792) (j := 6) lDL_56 rfl)
theorem dL_law_1799 : decode cL_law 1799 = .ok (.aload_n 0, 1) := dw_0 (pc9 (k := 1792) (j := 7) lDL_56 rfl)
theorem dL_law_1800 : decode cL_law 1800 = .ok (.iload 5, 2) := dw_39 (pc9 (k := 1792) (j := 8) lDL_56 rfl)
theorem dL_law_1802 : decode cL_law 1802 = .ok (.iconst 1, 1) := dw_26 (pc9 (k := 1792) (j := 10) lDL_56 rfl)
theorem dL_law_1803 : decode cL_law 1803 = .ok (.iadd, 1) := dw_43 (pc9 (k := 1792) (j := 11) lDL_56 rfl)
theorem dL_law_1804 : decode cL_law 1804 = .ok (.iaload, 1) := dw_16 (pc9 (k := 1792) (j := 12) lDL_56 rfl)
theorem dL_law_1805 : decode cL_law 1805 = .ok (.aload_n 0, 1) := dw_0 (pc9 (k := 1792) (j := 13) lDL_56 rfl)
theorem dL_law_1806 : decode cL_law 1806 = .ok (.iload 5, 2) := dw_39 (pc9 (k := 1792) (j := 14) lDL_56 rfl)
theorem dL_law_1808 : decode cL_law 1808 = .ok (.iconst 2, 1) := dw_260 (pc9 (k := 1792) (j := 16) lDL_56 rfl)
theorem dL_law_1809 : decode cL_law 1809 = .ok (.iadd, 1) := dw_43 (pc9 (k := 1792) (j := 17) lDL_56 rfl)
theorem dL_law_1810 : decode cL_law 1810 = .ok (.iaload, 1) := dw_16 (pc9 (k := 1792) (j := 18) lDL_56 rfl)
theorem dL_law_1811 : decode cL_law 1811 = .ok (.aload_n 0, 1) := dw_0 (pc9 (k := 1792) (j := 19) lDL_56 rfl)
theorem dL_law_1812 : decode cL_law 1812 = .ok (.iload 5, 2) := dw_39 (pc9 (k := 1792) (j := 20) lDL_56 rfl)
theorem dL_law_1814 : decode cL_law 1814 = .ok (.iconst 3, 1) := dw_221 (pc9 (k := 1792) (j := 22) lDL_56 rfl)
theorem dL_law_1815 : decode cL_law 1815 = .ok (.iadd, 1) := dw_43 (pc9 (k := 1792) (j := 23) lDL_56 rfl)
theorem dL_law_1816 : decode cL_law 1816 = .ok (.iaload, 1) := dw_16 (pc9 (k := 1792) (j := 24) lDL_56 rfl)
theorem dL_law_1817 : decode cL_law 1817 = .ok (.aload_n 0, 1) := dw_0 (pc9 (k := 1792) (j := 25) lDL_56 rfl)
theorem dL_law_1818 : decode cL_law 1818 = .ok (.iload 5, 2) := dw_39 (pc9 (k := 1792) (j := 26) lDL_56 rfl)
theorem dL_law_1820 : decode cL_law 1820 = .ok (.iconst 4, 1) := dw_280 (pc9 (k := 1792) (j := 28) lDL_56 rfl)
theorem dL_law_1821 : decode cL_law 1821 = .ok (.iadd, 1) := dw_43 (pc9 (k := 1792) (j := 29) lDL_56 rfl)
theorem dL_law_1822 : decode cL_law 1822 = .ok (.iaload, 1) := dw_16 (pc9 (k := 1792) (j := 30) lDL_56 rfl)
theorem dL_law_1823 : decode cL_law 1823 = .ok (.ifCond .eq 7, 3) := dw_227 (pc9 (k := 1792) (j := 31) lDL_56 rfl)
theorem dL_law_1826 : decode cL_law 1826 = .ok (.iconst 1, 1) := dw_26 (pc9 (k := 1824) (j := 2) lDL_57 rfl)
theorem dL_law_1827 : decode cL_law 1827 = .ok (.goto 4, 3) := dw_84 (pc9 (k := 1824) (j := 3) lDL_57 rfl)
theorem dL_law_1830 : decode cL_law 1830 = .ok (.iconst 0, 1) := dw_6 (pc9 (k := 1824) (j := 6) lDL_57 rfl)
theorem dL_law_1831 : decode cL_law 1831 = .ok (.aload_n 3, 1) := dw_119 (pc9 (k := 1824) (j := 7) lDL_57 rfl)
theorem dL_law_1832 : decode cL_law 1832 = .ok (.invokestatic 316, 3) := dw_892 (pc9 (k := 1824) (j := 8) lDL_57 rfl)
theorem dL_law_1835 : decode cL_law 1835 = .ok (.istore 6, 2) := dw_35 (pc9 (k := 1824) (j := 11) lDL_57 rfl)
theorem dL_law_1837 : decode cL_law 1837 = .ok (.aload_n 2, 1) := dw_52 (pc9 (k := 1824) (j := 13) lDL_57 rfl)
theorem dL_law_1838 : decode cL_law 1838 = .ok (.aload_n 0, 1) := dw_0 (pc9 (k := 1824) (j := 14) lDL_57 rfl)
theorem dL_law_1839 : decode cL_law 1839 = .ok (.iload 5, 2) := dw_39 (pc9 (k := 1824) (j := 15) lDL_57 rfl)
theorem dL_law_1841 : decode cL_law 1841 = .ok (.iconst 1, 1) := dw_26 (pc9 (k := 1824) (j := 17) lDL_57 rfl)
theorem dL_law_1842 : decode cL_law 1842 = .ok (.iadd, 1) := dw_43 (pc9 (k := 1824) (j := 18) lDL_57 rfl)
theorem dL_law_1843 : decode cL_law 1843 = .ok (.iaload, 1) := dw_16 (pc9 (k := 1824) (j := 19) lDL_57 rfl)
theorem dL_law_1844 : decode cL_law 1844 = .ok (.aload_n 0, 1) := dw_0 (pc9 (k := 1824) (j := 20) lDL_57 rfl)
theorem dL_law_1845 : decode cL_law 1845 = .ok (.iload 5, 2) := dw_39 (pc9 (k := 1824) (j := 21) lDL_57 rfl)
theorem dL_law_1847 : decode cL_law 1847 = .ok (.iconst 2, 1) := dw_260 (pc9 (k := 1824) (j := 23) lDL_57 rfl)
theorem dL_law_1848 : decode cL_law 1848 = .ok (.iadd, 1) := dw_43 (pc9 (k := 1824) (j := 24) lDL_57 rfl)
theorem dL_law_1849 : decode cL_law 1849 = .ok (.iaload, 1) := dw_16 (pc9 (k := 1824) (j := 25) lDL_57 rfl)
theorem dL_law_1850 : decode cL_law 1850 = .ok (.aload_n 0, 1) := dw_0 (pc9 (k := 1824) (j := 26) lDL_57 rfl)
theorem dL_law_1851 : decode cL_law 1851 = .ok (.iload 5, 2) := dw_39 (pc9 (k := 1824) (j := 27) lDL_57 rfl)
theorem dL_law_1853 : decode cL_law 1853 = .ok (.iconst 3, 1) := dw_221 (pc9 (k := 1824) (j := 29) lDL_57 rfl)
theorem dL_law_1854 : decode cL_law 1854 = .ok (.iadd, 1) := dw_43 (pc9 (k := 1824) (j := 30) lDL_57 rfl)
theorem dL_law_1855 : decode cL_law 1855 = .ok (.iaload, 1) := dw_16 (pc9 (k := 1824) (j := 31) lDL_57 rfl)
theorem dL_law_1856 : decode cL_law 1856 = .ok (.aload_n 0, 1) := dw_0 (pc9 (k := 1856) (j := 0) lDL_58 rfl)
theorem dL_law_1857 : decode cL_law 1857 = .ok (.iload 5, 2) := dw_39 (pc9 (k := 1856) (j := 1) lDL_58 rfl)
theorem dL_law_1859 : decode cL_law 1859 = .ok (.iconst 4, 1) := dw_280 (pc9 (k := 1856) (j := 3) lDL_58 rfl)
theorem dL_law_1860 : decode cL_law 1860 = .ok (.iadd, 1) := dw_43 (pc9 (k := 1856) (j := 4) lDL_58 rfl)
theorem dL_law_1861 : decode cL_law 1861 = .ok (.iaload, 1) := dw_16 (pc9 (k := 1856) (j := 5) lDL_58 rfl)
theorem dL_law_1862 : decode cL_law 1862 = .ok (.ifCond .eq 7, 3) := dw_227 (pc9 (k := 1856) (j := 6) lDL_58 rfl)
theorem dL_law_1865 : decode cL_law 1865 = .ok (.iconst 1, 1) := dw_26 (pc9 (k := 1856) (j := 9) lDL_58 rfl)
theorem dL_law_1866 : decode cL_law 1866 = .ok (.goto 4, 3) := dw_84 (pc9 (k := 1856) (j := 10) lDL_58 rfl)
theorem dL_law_1869 : decode cL_law 1869 = .ok (.iconst 0, 1) := dw_6 (pc9 (k := 1856) (j := 13) lDL_58 rfl)
theorem dL_law_1870 : decode cL_law 1870 = .ok (.invokevirtual 319, 3) := dw_893 (pc9 (k := 1856) (j := 14) lDL_58 rfl)
theorem dL_law_1873 : decode cL_law 1873 = .ok (.istore 7, 2) := dw_58 (pc9 (k := 1856) (j := 17) lDL_58 rfl)
theorem dL_law_1875 : decode cL_law 1875 = .ok (.goto 877, 3) := dw_894 (pc9 (k := 1856) (j := 19) lDL_58 rfl)
theorem dL_law_1878 : decode cL_law 1878 = .ok (.aload_n 1, 1) := dw_5 (pc9 (k := 1856) (j := 22) lDL_58 rfl)
theorem dL_law_1879 : decode cL_law 1879 = .ok (.aload_n 0, 1) := dw_0 (pc9 (k := 1856) (j := 23) lDL_58 rfl)
theorem dL_law_1880 : decode cL_law 1880 = .ok (.iload 5, 2) := dw_39 (pc9 (k := 1856) (j := 24) lDL_58 rfl)
theorem dL_law_1882 : decode cL_law 1882 = .ok (.iconst 1, 1) := dw_26 (pc9 (k := 1856) (j := 26) lDL_58 rfl)
theorem dL_law_1883 : decode cL_law 1883 = .ok (.iadd, 1) := dw_43 (pc9 (k := 1856) (j := 27) lDL_58 rfl)
theorem dL_law_1884 : decode cL_law 1884 = .ok (.iaload, 1) := dw_16 (pc9 (k := 1856) (j := 28) lDL_58 rfl)
theorem dL_law_1885 : decode cL_law 1885 = .ok (.aload_n 0, 1) := dw_0 (pc9 (k := 1856) (j := 29) lDL_58 rfl)
theorem dL_law_1886 : decode cL_law 1886 = .ok (.iload 5, 2) := dw_39 (pc9 (k := 1856) (j := 30) lDL_58 rfl)
theorem dL_law_1888 : decode cL_law 1888 = .ok (.iconst 2, 1) := dw_260 (pc9 (k := 1888) (j := 0) lDL_59 rfl)
theorem dL_law_1889 : decode cL_law 1889 = .ok (.iadd, 1) := dw_43 (pc9 (k := 1888) (j := 1) lDL_59 rfl)
theorem dL_law_1890 : decode cL_law 1890 = .ok (.iaload, 1) := dw_16 (pc9 (k := 1888) (j := 2) lDL_59 rfl)
theorem dL_law_1891 : decode cL_law 1891 = .ok (.aload_n 0, 1) := dw_0 (pc9 (k := 1888) (j := 3) lDL_59 rfl)
theorem dL_law_1892 : decode cL_law 1892 = .ok (.iload 5, 2) := dw_39 (pc9 (k := 1888) (j := 4) lDL_59 rfl)
theorem dL_law_1894 : decode cL_law 1894 = .ok (.iconst 3, 1) := dw_221 (pc9 (k := 1888) (j := 6) lDL_59 rfl)
theorem dL_law_1895 : decode cL_law 1895 = .ok (.iadd, 1) := dw_43 (pc9 (k := 1888) (j := 7) lDL_59 rfl)
theorem dL_law_1896 : decode cL_law 1896 = .ok (.iaload, 1) := dw_16 (pc9 (k := 1888) (j := 8) lDL_59 rfl)
theorem dL_law_1897 : decode cL_law 1897 = .ok (.i2l, 1) := dw_498 (pc9 (k := 1888) (j := 9) lDL_59 rfl)
theorem dL_law_1898 : decode cL_law 1898 = .ok (.bipush 32, 2) := dw_2 (pc9 (k := 1888) (j := 10) lDL_59 rfl)
theorem dL_law_1900 : decode cL_law 1900 = .ok (.lshl, 1) := dw_535 (pc9 (k := 1888) (j := 12) lDL_59 rfl)
theorem dL_law_1901 : decode cL_law 1901 = .ok (.aload_n 0, 1) := dw_0 (pc9 (k := 1888) (j := 13) lDL_59 rfl)
theorem dL_law_1902 : decode cL_law 1902 = .ok (.iload 5, 2) := dw_39 (pc9 (k := 1888) (j := 14) lDL_59 rfl)
theorem dL_law_1904 : decode cL_law 1904 = .ok (.iconst 4, 1) := dw_280 (pc9 (k := 1888) (j := 16) lDL_59 rfl)
theorem dL_law_1905 : decode cL_law 1905 = .ok (.iadd, 1) := dw_43 (pc9 (k := 1888) (j := 17) lDL_59 rfl)
theorem dL_law_1906 : decode cL_law 1906 = .ok (.iaload, 1) := dw_16 (pc9 (k := 1888) (j := 18) lDL_59 rfl)
theorem dL_law_1907 : decode cL_law 1907 = .ok (.i2l, 1) := dw_498 (pc9 (k := 1888) (j := 19) lDL_59 rfl)
theorem dL_law_1908 : decode cL_law 1908 = .ok (.ldc2_w 186, 3) := dw_797 (pc9 (k := 1888) (j := 20) lDL_59 rfl)
theorem dL_law_1911 : decode cL_law 1911 = .ok (.land, 1) := dw_161 (pc9 (k := 1888) (j := 23) lDL_59 rfl)
theorem dL_law_1912 : decode cL_law 1912 = .ok (.lor, 1) := dw_572 (pc9 (k := 1888) (j := 24) lDL_59 rfl)
theorem dL_law_1913 : decode cL_law 1913 = .ok (.aload_n 3, 1) := dw_119 (pc9 (k := 1888) (j := 25) lDL_59 rfl)
theorem dL_law_1914 : decode cL_law 1914 = .ok (.invokestatic 320, 3) := dw_895 (pc9 (k := 1888) (j := 26) lDL_59 rfl)
theorem dL_law_1917 : decode cL_law 1917 = .ok (.istore 6, 2) := dw_35 (pc9 (k := 1888) (j := 29) lDL_59 rfl)
theorem dL_law_1919 : decode cL_law 1919 = .ok (.aload_n 2, 1) := dw_52 (pc9 (k := 1888) (j := 31) lDL_59 rfl)
theorem dL_law_1920 : decode cL_law 1920 = .ok (.aload_n 0, 1) := dw_0 (pc9 (k := 1920) (j := 0) lDL_60 rfl)
theorem dL_law_1921 : decode cL_law 1921 = .ok (.iload 5, 2) := dw_39 (pc9 (k := 1920) (j := 1) lDL_60 rfl)
theorem dL_law_1923 : decode cL_law 1923 = .ok (.iconst 1, 1) := dw_26 (pc9 (k := 1920) (j := 3) lDL_60 rfl)
theorem dL_law_1924 : decode cL_law 1924 = .ok (.iadd, 1) := dw_43 (pc9 (k := 1920) (j := 4) lDL_60 rfl)
theorem dL_law_1925 : decode cL_law 1925 = .ok (.iaload, 1) := dw_16 (pc9 (k := 1920) (j := 5) lDL_60 rfl)
theorem dL_law_1926 : decode cL_law 1926 = .ok (.aload_n 0, 1) := dw_0 (pc9 (k := 1920) (j := 6) lDL_60 rfl)
theorem dL_law_1927 : decode cL_law 1927 = .ok (.iload 5, 2) := dw_39 (pc9 (k := 1920) (j := 7) lDL_60 rfl)
theorem dL_law_1929 : decode cL_law 1929 = .ok (.iconst 2, 1) := dw_260 (pc9 (k := 1920) (j := 9) lDL_60 rfl)
theorem dL_law_1930 : decode cL_law 1930 = .ok (.iadd, 1) := dw_43 (pc9 (k := 1920) (j := 10) lDL_60 rfl)
theorem dL_law_1931 : decode cL_law 1931 = .ok (.iaload, 1) := dw_16 (pc9 (k := 1920) (j := 11) lDL_60 rfl)
theorem dL_law_1932 : decode cL_law 1932 = .ok (.aload_n 0, 1) := dw_0 (pc9 (k := 1920) (j := 12) lDL_60 rfl)
theorem dL_law_1933 : decode cL_law 1933 = .ok (.iload 5, 2) := dw_39 (pc9 (k := 1920) (j := 13) lDL_60 rfl)
theorem dL_law_1935 : decode cL_law 1935 = .ok (.iconst 3, 1) := dw_221 (pc9 (k := 1920) (j := 15) lDL_60 rfl)
theorem dL_law_1936 : decode cL_law 1936 = .ok (.iadd, 1) := dw_43 (pc9 (k := 1920) (j := 16) lDL_60 rfl)
theorem dL_law_1937 : decode cL_law 1937 = .ok (.iaload, 1) := dw_16 (pc9 (k := 1920) (j := 17) lDL_60 rfl)
theorem dL_law_1938 : decode cL_law 1938 = .ok (.i2l, 1) := dw_498 (pc9 (k := 1920) (j := 18) lDL_60 rfl)
theorem dL_law_1939 : decode cL_law 1939 = .ok (.bipush 32, 2) := dw_2 (pc9 (k := 1920) (j := 19) lDL_60 rfl)
theorem dL_law_1941 : decode cL_law 1941 = .ok (.lshl, 1) := dw_535 (pc9 (k := 1920) (j := 21) lDL_60 rfl)
theorem dL_law_1942 : decode cL_law 1942 = .ok (.aload_n 0, 1) := dw_0 (pc9 (k := 1920) (j := 22) lDL_60 rfl)
theorem dL_law_1943 : decode cL_law 1943 = .ok (.iload 5, 2) := dw_39 (pc9 (k := 1920) (j := 23) lDL_60 rfl)
theorem dL_law_1945 : decode cL_law 1945 = .ok (.iconst 4, 1) := dw_280 (pc9 (k := 1920) (j := 25) lDL_60 rfl)
theorem dL_law_1946 : decode cL_law 1946 = .ok (.iadd, 1) := dw_43 (pc9 (k := 1920) (j := 26) lDL_60 rfl)
theorem dL_law_1947 : decode cL_law 1947 = .ok (.iaload, 1) := dw_16 (pc9 (k := 1920) (j := 27) lDL_60 rfl)
theorem dL_law_1948 : decode cL_law 1948 = .ok (.i2l, 1) := dw_498 (pc9 (k := 1920) (j := 28) lDL_60 rfl)
theorem dL_law_1949 : decode cL_law 1949 = .ok (.ldc2_w 186, 3) := dw_797 (pc9 (k := 1920) (j := 29) lDL_60 rfl)
theorem dL_law_1952 : decode cL_law 1952 = .ok (.land, 1) := dw_161 (pc9 (k := 1952) (j := 0) lDL_61 rfl)
theorem dL_law_1953 : decode cL_law 1953 = .ok (.lor, 1) := dw_572 (pc9 (k := 1952) (j := 1) lDL_61 rfl)
theorem dL_law_1954 : decode cL_law 1954 = .ok (.invokevirtual 323, 3) := dw_896 (pc9 (k := 1952) (j := 2) lDL_61 rfl)
theorem dL_law_1957 : decode cL_law 1957 = .ok (.istore 7, 2) := dw_58 (pc9 (k := 1952) (j := 5) lDL_61 rfl)
theorem dL_law_1959 : decode cL_law 1959 = .ok (.goto 793, 3) := dw_897 (pc9 (k := 1952) (j := 7) lDL_61 rfl)
theorem dL_law_1962 : decode cL_law 1962 = .ok (.aload_n 1, 1) := dw_5 (pc9 (k := 1952) (j := 10) lDL_61 rfl)
theorem dL_law_1963 : decode cL_law 1963 = .ok (.aload_n 0, 1) := dw_0 (pc9 (k := 1952) (j := 11) lDL_61 rfl)
theorem dL_law_1964 : decode cL_law 1964 = .ok (.iload 5, 2) := dw_39 (pc9 (k := 1952) (j := 12) lDL_61 rfl)
theorem dL_law_1966 : decode cL_law 1966 = .ok (.iconst 1, 1) := dw_26 (pc9 (k := 1952) (j := 14) lDL_61 rfl)
theorem dL_law_1967 : decode cL_law 1967 = .ok (.iadd, 1) := dw_43 (pc9 (k := 1952) (j := 15) lDL_61 rfl)
theorem dL_law_1968 : decode cL_law 1968 = .ok (.iaload, 1) := dw_16 (pc9 (k := 1952) (j := 16) lDL_61 rfl)
theorem dL_law_1969 : decode cL_law 1969 = .ok (.aload_n 0, 1) := dw_0 (pc9 (k := 1952) (j := 17) lDL_61 rfl)
theorem dL_law_1970 : decode cL_law 1970 = .ok (.iload 5, 2) := dw_39 (pc9 (k := 1952) (j := 18) lDL_61 rfl)
theorem dL_law_1972 : decode cL_law 1972 = .ok (.iconst 2, 1) := dw_260 (pc9 (k := 1952) (j := 20) lDL_61 rfl)
theorem dL_law_1973 : decode cL_law 1973 = .ok (.iadd, 1) := dw_43 (pc9 (k := 1952) (j := 21) lDL_61 rfl)
theorem dL_law_1974 : decode cL_law 1974 = .ok (.iaload, 1) := dw_16 (pc9 (k := 1952) (j := 22) lDL_61 rfl)
theorem dL_law_1975 : decode cL_law 1975 = .ok (.aload_n 3, 1) := dw_119 (pc9 (k := 1952) (j := 23) lDL_61 rfl)
theorem dL_law_1976 : decode cL_law 1976 = .ok (.invokestatic 324, 3) := dw_898 (pc9 (k := 1952) (j := 24) lDL_61 rfl)
theorem dL_law_1979 : decode cL_law 1979 = .ok (.istore 6, 2) := dw_35 (pc9 (k := 1952) (j := 27) lDL_61 rfl)
theorem dL_law_1981 : decode cL_law 1981 = .ok (.aload_n 2, 1) := dw_52 (pc9 (k := 1952) (j := 29) lDL_61 rfl)
theorem dL_law_1982 : decode cL_law 1982 = .ok (.aload_n 0, 1) := dw_0 (pc9 (k := 1952) (j := 30) lDL_61 rfl)
theorem dL_law_1983 : decode cL_law 1983 = .ok (.iload 5, 2) := dw_39 (pc9 (k := 1952) (j := 31) lDL_61 rfl)
theorem dL_law_1985 : decode cL_law 1985 = .ok (.iconst 1, 1) := dw_26 (pc9 (k := 1984) (j := 1) lDL_62 rfl)
theorem dL_law_1986 : decode cL_law 1986 = .ok (.iadd, 1) := dw_43 (pc9 (k := 1984) (j := 2) lDL_62 rfl)
theorem dL_law_1987 : decode cL_law 1987 = .ok (.iaload, 1) := dw_16 (pc9 (k := 1984) (j := 3) lDL_62 rfl)
theorem dL_law_1988 : decode cL_law 1988 = .ok (.aload_n 0, 1) := dw_0 (pc9 (k := 1984) (j := 4) lDL_62 rfl)
theorem dL_law_1989 : decode cL_law 1989 = .ok (.iload 5, 2) := dw_39 (pc9 (k := 1984) (j := 5) lDL_62 rfl)
theorem dL_law_1991 : decode cL_law 1991 = .ok (.iconst 2, 1) := dw_260 (pc9 (k := 1984) (j := 7) lDL_62 rfl)
theorem dL_law_1992 : decode cL_law 1992 = .ok (.iadd, 1) := dw_43 (pc9 (k := 1984) (j := 8) lDL_62 rfl)
theorem dL_law_1993 : decode cL_law 1993 = .ok (.iaload, 1) := dw_16 (pc9 (k := 1984) (j := 9) lDL_62 rfl)
theorem dL_law_1994 : decode cL_law 1994 = .ok (.invokevirtual 326, 3) := dw_899 (pc9 (k := 1984) (j := 10) lDL_62 rfl)
theorem dL_law_1997 : decode cL_law 1997 = .ok (.istore 7, 2) := dw_58 (pc9 (k := 1984) (j := 13) lDL_62 rfl)
theorem dL_law_1999 : decode cL_law 1999 = .ok (.goto 753, 3) := dw_900 (pc9 (k := 1984) (j := 15) lDL_62 rfl)
theorem dL_law_2002 : decode cL_law 2002 = .ok (.aload_n 1, 1) := dw_5 (pc9 (k := 1984) (j := 18) lDL_62 rfl)
theorem dL_law_2003 : decode cL_law 2003 = .ok (.aload_n 0, 1) := dw_0 (pc9 (k := 1984) (j := 19) lDL_62 rfl)
theorem dL_law_2004 : decode cL_law 2004 = .ok (.iload 5, 2) := dw_39 (pc9 (k := 1984) (j := 20) lDL_62 rfl)
theorem dL_law_2006 : decode cL_law 2006 = .ok (.iconst 1, 1) := dw_26 (pc9 (k := 1984) (j := 22) lDL_62 rfl)
theorem dL_law_2007 : decode cL_law 2007 = .ok (.iadd, 1) := dw_43 (pc9 (k := 1984) (j := 23) lDL_62 rfl)
theorem dL_law_2008 : decode cL_law 2008 = .ok (.iaload, 1) := dw_16 (pc9 (k := 1984) (j := 24) lDL_62 rfl)
theorem dL_law_2009 : decode cL_law 2009 = .ok (.aload_n 0, 1) := dw_0 (pc9 (k := 1984) (j := 25) lDL_62 rfl)
theorem dL_law_2010 : decode cL_law 2010 = .ok (.iload 5, 2) := dw_39 (pc9 (k := 1984) (j := 26) lDL_62 rfl)
theorem dL_law_2012 : decode cL_law 2012 = .ok (.iconst 2, 1) := dw_260 (pc9 (k := 1984) (j := 28) lDL_62 rfl)
theorem dL_law_2013 : decode cL_law 2013 = .ok (.iadd, 1) := dw_43 (pc9 (k := 1984) (j := 29) lDL_62 rfl)
theorem dL_law_2014 : decode cL_law 2014 = .ok (.iaload, 1) := dw_16 (pc9 (k := 1984) (j := 30) lDL_62 rfl)
theorem dL_law_2015 : decode cL_law 2015 = .ok (.aload_n 3, 1) := dw_119 (pc9 (k := 1984) (j := 31) lDL_62 rfl)
theorem dL_law_2016 : decode cL_law 2016 = .ok (.invokestatic 327, 3) := dw_901 (pc9 (k := 2016) (j := 0) lDL_63 rfl)
theorem dL_law_2019 : decode cL_law 2019 = .ok (.istore 6, 2) := dw_35 (pc9 (k := 2016) (j := 3) lDL_63 rfl)
theorem dL_law_2021 : decode cL_law 2021 = .ok (.aload_n 2, 1) := dw_52 (pc9 (k := 2016) (j := 5) lDL_63 rfl)
theorem dL_law_2022 : decode cL_law 2022 = .ok (.aload_n 0, 1) := dw_0 (pc9 (k := 2016) (j := 6) lDL_63 rfl)
theorem dL_law_2023 : decode cL_law 2023 = .ok (.iload 5, 2) := dw_39 (pc9 (k := 2016) (j := 7) lDL_63 rfl)
theorem dL_law_2025 : decode cL_law 2025 = .ok (.iconst 1, 1) := dw_26 (pc9 (k := 2016) (j := 9) lDL_63 rfl)
theorem dL_law_2026 : decode cL_law 2026 = .ok (.iadd, 1) := dw_43 (pc9 (k := 2016) (j := 10) lDL_63 rfl)
theorem dL_law_2027 : decode cL_law 2027 = .ok (.iaload, 1) := dw_16 (pc9 (k := 2016) (j := 11) lDL_63 rfl)
theorem dL_law_2028 : decode cL_law 2028 = .ok (.aload_n 0, 1) := dw_0 (pc9 (k := 2016) (j := 12) lDL_63 rfl)
theorem dL_law_2029 : decode cL_law 2029 = .ok (.iload 5, 2) := dw_39 (pc9 (k := 2016) (j := 13) lDL_63 rfl)
theorem dL_law_2031 : decode cL_law 2031 = .ok (.iconst 2, 1) := dw_260 (pc9 (k := 2016) (j := 15) lDL_63 rfl)
theorem dL_law_2032 : decode cL_law 2032 = .ok (.iadd, 1) := dw_43 (pc9 (k := 2016) (j := 16) lDL_63 rfl)
theorem dL_law_2033 : decode cL_law 2033 = .ok (.iaload, 1) := dw_16 (pc9 (k := 2016) (j := 17) lDL_63 rfl)
theorem dL_law_2034 : decode cL_law 2034 = .ok (.invokevirtual 329, 3) := dw_902 (pc9 (k := 2016) (j := 18) lDL_63 rfl)
theorem dL_law_2037 : decode cL_law 2037 = .ok (.istore 7, 2) := dw_58 (pc9 (k := 2016) (j := 21) lDL_63 rfl)
theorem dL_law_2039 : decode cL_law 2039 = .ok (.goto 713, 3) := dw_903 (pc9 (k := 2016) (j := 23) lDL_63 rfl)
theorem dL_law_2042 : decode cL_law 2042 = .ok (.aload_n 1, 1) := dw_5 (pc9 (k := 2016) (j := 26) lDL_63 rfl)
theorem dL_law_2043 : decode cL_law 2043 = .ok (.aload_n 0, 1) := dw_0 (pc9 (k := 2016) (j := 27) lDL_63 rfl)
theorem dL_law_2044 : decode cL_law 2044 = .ok (.iload 5, 2) := dw_39 (pc9 (k := 2016) (j := 28) lDL_63 rfl)
theorem dL_law_2046 : decode cL_law 2046 = .ok (.iconst 1, 1) := dw_26 (pc9 (k := 2016) (j := 30) lDL_63 rfl)
theorem dL_law_2047 : decode cL_law 2047 = .ok (.iadd, 1) := dw_43 (pc9 (k := 2016) (j := 31) lDL_63 rfl)
theorem dL_law_2048 : decode cL_law 2048 = .ok (.iaload, 1) := dw_16 (pc9 (k := 2048) (j := 0) lDL_64 rfl)
theorem dL_law_2049 : decode cL_law 2049 = .ok (.aload_n 0, 1) := dw_0 (pc9 (k := 2048) (j := 1) lDL_64 rfl)
theorem dL_law_2050 : decode cL_law 2050 = .ok (.iload 5, 2) := dw_39 (pc9 (k := 2048) (j := 2) lDL_64 rfl)
theorem dL_law_2052 : decode cL_law 2052 = .ok (.iconst 2, 1) := dw_260 (pc9 (k := 2048) (j := 4) lDL_64 rfl)
theorem dL_law_2053 : decode cL_law 2053 = .ok (.iadd, 1) := dw_43 (pc9 (k := 2048) (j := 5) lDL_64 rfl)
theorem dL_law_2054 : decode cL_law 2054 = .ok (.iaload, 1) := dw_16 (pc9 (k := 2048) (j := 6) lDL_64 rfl)
theorem dL_law_2055 : decode cL_law 2055 = .ok (.aload_n 0, 1) := dw_0 (pc9 (k := 2048) (j := 7) lDL_64 rfl)
theorem dL_law_2056 : decode cL_law 2056 = .ok (.iload 5, 2) := dw_39 (pc9 (k := 2048) (j := 8) lDL_64 rfl)
theorem dL_law_2058 : decode cL_law 2058 = .ok (.iconst 3, 1) := dw_221 (pc9 (k := 2048) (j := 10) lDL_64 rfl)
theorem dL_law_2059 : decode cL_law 2059 = .ok (.iadd, 1) := dw_43 (pc9 (k := 2048) (j := 11) lDL_64 rfl)
theorem dL_law_2060 : decode cL_law 2060 = .ok (.iaload, 1) := dw_16 (pc9 (k := 2048) (j := 12) lDL_64 rfl)
theorem dL_law_2061 : decode cL_law 2061 = .ok (.aload_n 0, 1) := dw_0 (pc9 (k := 2048) (j := 13) lDL_64 rfl)
theorem dL_law_2062 : decode cL_law 2062 = .ok (.iload 5, 2) := dw_39 (pc9 (k := 2048) (j := 14) lDL_64 rfl)
theorem dL_law_2064 : decode cL_law 2064 = .ok (.iconst 4, 1) := dw_280 (pc9 (k := 2048) (j := 16) lDL_64 rfl)
theorem dL_law_2065 : decode cL_law 2065 = .ok (.iadd, 1) := dw_43 (pc9 (k := 2048) (j := 17) lDL_64 rfl)
theorem dL_law_2066 : decode cL_law 2066 = .ok (.iaload, 1) := dw_16 (pc9 (k := 2048) (j := 18) lDL_64 rfl)
theorem dL_law_2067 : decode cL_law 2067 = .ok (.aload_n 3, 1) := dw_119 (pc9 (k := 2048) (j := 19) lDL_64 rfl)
theorem dL_law_2068 : decode cL_law 2068 = .ok (.invokestatic 330, 3) := dw_904 (pc9 (k := 2048) (j := 20) lDL_64 rfl)
theorem dL_law_2071 : decode cL_law 2071 = .ok (.istore 6, 2) := dw_35 (pc9 (k := 2048) (j := 23) lDL_64 rfl)
theorem dL_law_2073 : decode cL_law 2073 = .ok (.aload_n 2, 1) := dw_52 (pc9 (k := 2048) (j := 25) lDL_64 rfl)
theorem dL_law_2074 : decode cL_law 2074 = .ok (.aload_n 0, 1) := dw_0 (pc9 (k := 2048) (j := 26) lDL_64 rfl)
theorem dL_law_2075 : decode cL_law 2075 = .ok (.iload 5, 2) := dw_39 (pc9 (k := 2048) (j := 27) lDL_64 rfl)
theorem dL_law_2077 : decode cL_law 2077 = .ok (.iconst 1, 1) := dw_26 (pc9 (k := 2048) (j := 29) lDL_64 rfl)
theorem dL_law_2078 : decode cL_law 2078 = .ok (.iadd, 1) := dw_43 (pc9 (k := 2048) (j := 30) lDL_64 rfl)
theorem dL_law_2079 : decode cL_law 2079 = .ok (.iaload, 1) := dw_16 (pc9 (k := 2048) (j := 31) lDL_64 rfl)
theorem dL_law_2080 : decode cL_law 2080 = .ok (.aload_n 0, 1) := dw_0 (pc9 (k := 2080) (j := 0) lDL_65 rfl)
theorem dL_law_2081 : decode cL_law 2081 = .ok (.iload 5, 2) := dw_39 (pc9 (k := 2080) (j := 1) lDL_65 rfl)
theorem dL_law_2083 : decode cL_law 2083 = .ok (.iconst 2, 1) := dw_260 (pc9 (k := 2080) (j := 3) lDL_65 rfl)
theorem dL_law_2084 : decode cL_law 2084 = .ok (.iadd, 1) := dw_43 (pc9 (k := 2080) (j := 4) lDL_65 rfl)
theorem dL_law_2085 : decode cL_law 2085 = .ok (.iaload, 1) := dw_16 (pc9 (k := 2080) (j := 5) lDL_65 rfl)
theorem dL_law_2086 : decode cL_law 2086 = .ok (.aload_n 0, 1) := dw_0 (pc9 (k := 2080) (j := 6) lDL_65 rfl)
theorem dL_law_2087 : decode cL_law 2087 = .ok (.iload 5, 2) := dw_39 (pc9 (k := 2080) (j := 7) lDL_65 rfl)
theorem dL_law_2089 : decode cL_law 2089 = .ok (.iconst 3, 1) := dw_221 (pc9 (k := 2080) (j := 9) lDL_65 rfl)
theorem dL_law_2090 : decode cL_law 2090 = .ok (.iadd, 1) := dw_43 (pc9 (k := 2080) (j := 10) lDL_65 rfl)
theorem dL_law_2091 : decode cL_law 2091 = .ok (.iaload, 1) := dw_16 (pc9 (k := 2080) (j := 11) lDL_65 rfl)
theorem dL_law_2092 : decode cL_law 2092 = .ok (.aload_n 0, 1) := dw_0 (pc9 (k := 2080) (j := 12) lDL_65 rfl)
theorem dL_law_2093 : decode cL_law 2093 = .ok (.iload 5, 2) := dw_39 (pc9 (k := 2080) (j := 13) lDL_65 rfl)
theorem dL_law_2095 : decode cL_law 2095 = .ok (.iconst 4, 1) := dw_280 (pc9 (k := 2080) (j := 15) lDL_65 rfl)
theorem dL_law_2096 : decode cL_law 2096 = .ok (.iadd, 1) := dw_43 (pc9 (k := 2080) (j := 16) lDL_65 rfl)
theorem dL_law_2097 : decode cL_law 2097 = .ok (.iaload, 1) := dw_16 (pc9 (k := 2080) (j := 17) lDL_65 rfl)
theorem dL_law_2098 : decode cL_law 2098 = .ok (.invokevirtual 332, 3) := dw_905 (pc9 (k := 2080) (j := 18) lDL_65 rfl)
theorem dL_law_2101 : decode cL_law 2101 = .ok (.istore 7, 2) := dw_58 (pc9 (k := 2080) (j := 21) lDL_65 rfl)
theorem dL_law_2103 : decode cL_law 2103 = .ok (.goto 649, 3) := dw_906 (pc9 (k := 2080) (j := 23) lDL_65 rfl)
theorem dL_law_2106 : decode cL_law 2106 = .ok (.aload_n 1, 1) := dw_5 (pc9 (k := 2080) (j := 26) lDL_65 rfl)
theorem dL_law_2107 : decode cL_law 2107 = .ok (.aload_n 0, 1) := dw_0 (pc9 (k := 2080) (j := 27) lDL_65 rfl)
theorem dL_law_2108 : decode cL_law 2108 = .ok (.iload 5, 2) := dw_39 (pc9 (k := 2080) (j := 28) lDL_65 rfl)
theorem dL_law_2110 : decode cL_law 2110 = .ok (.iconst 1, 1) := dw_26 (pc9 (k := 2080) (j := 30) lDL_65 rfl)
theorem dL_law_2111 : decode cL_law 2111 = .ok (.iadd, 1) := dw_43 (pc9 (k := 2080) (j := 31) lDL_65 rfl)
theorem dL_law_2112 : decode cL_law 2112 = .ok (.iaload, 1) := dw_16 (pc9 (k := 2112) (j := 0) lDL_66 rfl)
theorem dL_law_2113 : decode cL_law 2113 = .ok (.aload_n 0, 1) := dw_0 (pc9 (k := 2112) (j := 1) lDL_66 rfl)
theorem dL_law_2114 : decode cL_law 2114 = .ok (.iload 5, 2) := dw_39 (pc9 (k := 2112) (j := 2) lDL_66 rfl)
theorem dL_law_2116 : decode cL_law 2116 = .ok (.iconst 2, 1) := dw_260 (pc9 (k := 2112) (j := 4) lDL_66 rfl)
theorem dL_law_2117 : decode cL_law 2117 = .ok (.iadd, 1) := dw_43 (pc9 (k := 2112) (j := 5) lDL_66 rfl)
theorem dL_law_2118 : decode cL_law 2118 = .ok (.iaload, 1) := dw_16 (pc9 (k := 2112) (j := 6) lDL_66 rfl)
theorem dL_law_2119 : decode cL_law 2119 = .ok (.aload_n 0, 1) := dw_0 (pc9 (k := 2112) (j := 7) lDL_66 rfl)
theorem dL_law_2120 : decode cL_law 2120 = .ok (.iload 5, 2) := dw_39 (pc9 (k := 2112) (j := 8) lDL_66 rfl)
theorem dL_law_2122 : decode cL_law 2122 = .ok (.iconst 3, 1) := dw_221 (pc9 (k := 2112) (j := 10) lDL_66 rfl)
theorem dL_law_2123 : decode cL_law 2123 = .ok (.iadd, 1) := dw_43 (pc9 (k := 2112) (j := 11) lDL_66 rfl)
theorem dL_law_2124 : decode cL_law 2124 = .ok (.iaload, 1) := dw_16 (pc9 (k := 2112) (j := 12) lDL_66 rfl)
theorem dL_law_2125 : decode cL_law 2125 = .ok (.aload_n 0, 1) := dw_0 (pc9 (k := 2112) (j := 13) lDL_66 rfl)
theorem dL_law_2126 : decode cL_law 2126 = .ok (.iload 5, 2) := dw_39 (pc9 (k := 2112) (j := 14) lDL_66 rfl)
theorem dL_law_2128 : decode cL_law 2128 = .ok (.iconst 4, 1) := dw_280 (pc9 (k := 2112) (j := 16) lDL_66 rfl)
theorem dL_law_2129 : decode cL_law 2129 = .ok (.iadd, 1) := dw_43 (pc9 (k := 2112) (j := 17) lDL_66 rfl)
theorem dL_law_2130 : decode cL_law 2130 = .ok (.iaload, 1) := dw_16 (pc9 (k := 2112) (j := 18) lDL_66 rfl)
theorem dL_law_2131 : decode cL_law 2131 = .ok (.ifCond .eq 7, 3) := dw_227 (pc9 (k := 2112) (j := 19) lDL_66 rfl)
theorem dL_law_2134 : decode cL_law 2134 = .ok (.iconst 1, 1) := dw_26 (pc9 (k := 2112) (j := 22) lDL_66 rfl)
theorem dL_law_2135 : decode cL_law 2135 = .ok (.goto 4, 3) := dw_84 (pc9 (k := 2112) (j := 23) lDL_66 rfl)
theorem dL_law_2138 : decode cL_law 2138 = .ok (.iconst 0, 1) := dw_6 (pc9 (k := 2112) (j := 26) lDL_66 rfl)
theorem dL_law_2139 : decode cL_law 2139 = .ok (.aload_n 3, 1) := dw_119 (pc9 (k := 2112) (j := 27) lDL_66 rfl)
theorem dL_law_2140 : decode cL_law 2140 = .ok (.invokestatic 333, 3) := dw_907 (pc9 (k := 2112) (j := 28) lDL_66 rfl)
theorem dL_law_2143 : decode cL_law 2143 = .ok (.istore 6, 2) := dw_35 (pc9 (k := 2112) (j := 31) lDL_66 rfl)
theorem dL_law_2145 : decode cL_law 2145 = .ok (.aload_n 2, 1) := dw_52 (pc9 (k := 2144) (j := 1) lDL_67 rfl)
theorem dL_law_2146 : decode cL_law 2146 = .ok (.aload_n 0, 1) := dw_0 (pc9 (k := 2144) (j := 2) lDL_67 rfl)
theorem dL_law_2147 : decode cL_law 2147 = .ok (.iload 5, 2) := dw_39 (pc9 (k := 2144) (j := 3) lDL_67 rfl)
theorem dL_law_2149 : decode cL_law 2149 = .ok (.iconst 1, 1) := dw_26 (pc9 (k := 2144) (j := 5) lDL_67 rfl)
theorem dL_law_2150 : decode cL_law 2150 = .ok (.iadd, 1) := dw_43 (pc9 (k := 2144) (j := 6) lDL_67 rfl)
theorem dL_law_2151 : decode cL_law 2151 = .ok (.iaload, 1) := dw_16 (pc9 (k := 2144) (j := 7) lDL_67 rfl)
theorem dL_law_2152 : decode cL_law 2152 = .ok (.aload_n 0, 1) := dw_0 (pc9 (k := 2144) (j := 8) lDL_67 rfl)
theorem dL_law_2153 : decode cL_law 2153 = .ok (.iload 5, 2) := dw_39 (pc9 (k := 2144) (j := 9) lDL_67 rfl)
theorem dL_law_2155 : decode cL_law 2155 = .ok (.iconst 2, 1) := dw_260 (pc9 (k := 2144) (j := 11) lDL_67 rfl)
theorem dL_law_2156 : decode cL_law 2156 = .ok (.iadd, 1) := dw_43 (pc9 (k := 2144) (j := 12) lDL_67 rfl)
theorem dL_law_2157 : decode cL_law 2157 = .ok (.iaload, 1) := dw_16 (pc9 (k := 2144) (j := 13) lDL_67 rfl)
theorem dL_law_2158 : decode cL_law 2158 = .ok (.aload_n 0, 1) := dw_0 (pc9 (k := 2144) (j := 14) lDL_67 rfl)
theorem dL_law_2159 : decode cL_law 2159 = .ok (.iload 5, 2) := dw_39 (pc9 (k := 2144) (j := 15) lDL_67 rfl)
theorem dL_law_2161 : decode cL_law 2161 = .ok (.iconst 3, 1) := dw_221 (pc9 (k := 2144) (j := 17) lDL_67 rfl)
theorem dL_law_2162 : decode cL_law 2162 = .ok (.iadd, 1) := dw_43 (pc9 (k := 2144) (j := 18) lDL_67 rfl)
theorem dL_law_2163 : decode cL_law 2163 = .ok (.iaload, 1) := dw_16 (pc9 (k := 2144) (j := 19) lDL_67 rfl)
theorem dL_law_2164 : decode cL_law 2164 = .ok (.aload_n 0, 1) := dw_0 (pc9 (k := 2144) (j := 20) lDL_67 rfl)
theorem dL_law_2165 : decode cL_law 2165 = .ok (.iload 5, 2) := dw_39 (pc9 (k := 2144) (j := 21) lDL_67 rfl)
theorem dL_law_2167 : decode cL_law 2167 = .ok (.iconst 4, 1) := dw_280 (pc9 (k := 2144) (j := 23) lDL_67 rfl)
theorem dL_law_2168 : decode cL_law 2168 = .ok (.iadd, 1) := dw_43 (pc9 (k := 2144) (j := 24) lDL_67 rfl)
theorem dL_law_2169 : decode cL_law 2169 = .ok (.iaload, 1) := dw_16 (pc9 (k := 2144) (j := 25) lDL_67 rfl)
theorem dL_law_2170 : decode cL_law 2170 = .ok (.ifCond .eq 7, 3) := dw_227 (pc9 (k := 2144) (j := 26) lDL_67 rfl)
theorem dL_law_2173 : decode cL_law 2173 = .ok (.iconst 1, 1) := dw_26 (pc9 (k := 2144) (j := 29) lDL_67 rfl)
theorem dL_law_2174 : decode cL_law 2174 = .ok (.goto 4, 3) := dw_84 (pc9 (k := 2144) (j := 30) lDL_67 rfl)
theorem dL_law_2177 : decode cL_law 2177 = .ok (.iconst 0, 1) := dw_6 (pc9 (k := 2176) (j := 1) lDL_68 rfl)
theorem dL_law_2178 : decode cL_law 2178 = .ok (.invokevirtual 335, 3) := dw_768 (pc9 (k := 2176) (j := 2) lDL_68 rfl)
theorem dL_law_2181 : decode cL_law 2181 = .ok (.istore 7, 2) := dw_58 (pc9 (k := 2176) (j := 5) lDL_68 rfl)
theorem dL_law_2183 : decode cL_law 2183 = .ok (.goto 569, 3) := dw_908 (pc9 (k := 2176) (j := 7) lDL_68 rfl)
theorem dL_law_2186 : decode cL_law 2186 = .ok (.aload_n 1, 1) := dw_5 (pc9 (k := 2176) (j := 10) lDL_68 rfl)
theorem dL_law_2187 : decode cL_law 2187 = .ok (.aload_n 0, 1) := dw_0 (pc9 (k := 2176) (j := 11) lDL_68 rfl)
theorem dL_law_2188 : decode cL_law 2188 = .ok (.iload 5, 2) := dw_39 (pc9 (k := 2176) (j := 12) lDL_68 rfl)
theorem dL_law_2190 : decode cL_law 2190 = .ok (.iconst 1, 1) := dw_26 (pc9 (k := 2176) (j := 14) lDL_68 rfl)
theorem dL_law_2191 : decode cL_law 2191 = .ok (.iadd, 1) := dw_43 (pc9 (k := 2176) (j := 15) lDL_68 rfl)
theorem dL_law_2192 : decode cL_law 2192 = .ok (.iaload, 1) := dw_16 (pc9 (k := 2176) (j := 16) lDL_68 rfl)
theorem dL_law_2193 : decode cL_law 2193 = .ok (.aload_n 0, 1) := dw_0 (pc9 (k := 2176) (j := 17) lDL_68 rfl)
theorem dL_law_2194 : decode cL_law 2194 = .ok (.iload 5, 2) := dw_39 (pc9 (k := 2176) (j := 18) lDL_68 rfl)
theorem dL_law_2196 : decode cL_law 2196 = .ok (.iconst 2, 1) := dw_260 (pc9 (k := 2176) (j := 20) lDL_68 rfl)
theorem dL_law_2197 : decode cL_law 2197 = .ok (.iadd, 1) := dw_43 (pc9 (k := 2176) (j := 21) lDL_68 rfl)
theorem dL_law_2198 : decode cL_law 2198 = .ok (.iaload, 1) := dw_16 (pc9 (k := 2176) (j := 22) lDL_68 rfl)
theorem dL_law_2199 : decode cL_law 2199 = .ok (.aload_n 0, 1) := dw_0 (pc9 (k := 2176) (j := 23) lDL_68 rfl)
theorem dL_law_2200 : decode cL_law 2200 = .ok (.iload 5, 2) := dw_39 (pc9 (k := 2176) (j := 24) lDL_68 rfl)
theorem dL_law_2202 : decode cL_law 2202 = .ok (.iconst 3, 1) := dw_221 (pc9 (k := 2176) (j := 26) lDL_68 rfl)
theorem dL_law_2203 : decode cL_law 2203 = .ok (.iadd, 1) := dw_43 (pc9 (k := 2176) (j := 27) lDL_68 rfl)
theorem dL_law_2204 : decode cL_law 2204 = .ok (.iaload, 1) := dw_16 (pc9 (k := 2176) (j := 28) lDL_68 rfl)
theorem dL_law_2205 : decode cL_law 2205 = .ok (.aload_n 0, 1) := dw_0 (pc9 (k := 2176) (j := 29) lDL_68 rfl)
theorem dL_law_2206 : decode cL_law 2206 = .ok (.iload 5, 2) := dw_39 (pc9 (k := 2176) (j := 30) lDL_68 rfl)
theorem dL_law_2208 : decode cL_law 2208 = .ok (.iconst 4, 1) := dw_280 (pc9 (k := 2208) (j := 0) lDL_69 rfl)
theorem dL_law_2209 : decode cL_law 2209 = .ok (.iadd, 1) := dw_43 (pc9 (k := 2208) (j := 1) lDL_69 rfl)
theorem dL_law_2210 : decode cL_law 2210 = .ok (.iaload, 1) := dw_16 (pc9 (k := 2208) (j := 2) lDL_69 rfl)
theorem dL_law_2211 : decode cL_law 2211 = .ok (.ifCond .eq 7, 3) := dw_227 (pc9 (k := 2208) (j := 3) lDL_69 rfl)
theorem dL_law_2214 : decode cL_law 2214 = .ok (.iconst 1, 1) := dw_26 (pc9 (k := 2208) (j := 6) lDL_69 rfl)
theorem dL_law_2215 : decode cL_law 2215 = .ok (.goto 4, 3) := dw_84 (pc9 (k := 2208) (j := 7) lDL_69 rfl)
theorem dL_law_2218 : decode cL_law 2218 = .ok (.iconst 0, 1) := dw_6 (pc9 (k := 2208) (j := 10) lDL_69 rfl)
theorem dL_law_2219 : decode cL_law 2219 = .ok (.aload_n 3, 1) := dw_119 (pc9 (k := 2208) (j := 11) lDL_69 rfl)
theorem dL_law_2220 : decode cL_law 2220 = .ok (.invokestatic 336, 3) := dw_476 (pc9 (k := 2208) (j := 12) lDL_69 rfl)
theorem dL_law_2223 : decode cL_law 2223 = .ok (.istore 6, 2) := dw_35 (pc9 (k := 2208) (j := 15) lDL_69 rfl)
theorem dL_law_2225 : decode cL_law 2225 = .ok (.aload_n 2, 1) := dw_52 (pc9 (k := 2208) (j := 17) lDL_69 rfl)
theorem dL_law_2226 : decode cL_law 2226 = .ok (.aload_n 0, 1) := dw_0 (pc9 (k := 2208) (j := 18) lDL_69 rfl)
theorem dL_law_2227 : decode cL_law 2227 = .ok (.iload 5, 2) := dw_39 (pc9 (k := 2208) (j := 19) lDL_69 rfl)
theorem dL_law_2229 : decode cL_law 2229 = .ok (.iconst 1, 1) := dw_26 (pc9 (k := 2208) (j := 21) lDL_69 rfl)
theorem dL_law_2230 : decode cL_law 2230 = .ok (.iadd, 1) := dw_43 (pc9 (k := 2208) (j := 22) lDL_69 rfl)
theorem dL_law_2231 : decode cL_law 2231 = .ok (.iaload, 1) := dw_16 (pc9 (k := 2208) (j := 23) lDL_69 rfl)
theorem dL_law_2232 : decode cL_law 2232 = .ok (.aload_n 0, 1) := dw_0 (pc9 (k := 2208) (j := 24) lDL_69 rfl)
theorem dL_law_2233 : decode cL_law 2233 = .ok (.iload 5, 2) := dw_39 (pc9 (k := 2208) (j := 25) lDL_69 rfl)
theorem dL_law_2235 : decode cL_law 2235 = .ok (.iconst 2, 1) := dw_260 (pc9 (k := 2208) (j := 27) lDL_69 rfl)
theorem dL_law_2236 : decode cL_law 2236 = .ok (.iadd, 1) := dw_43 (pc9 (k := 2208) (j := 28) lDL_69 rfl)
theorem dL_law_2237 : decode cL_law 2237 = .ok (.iaload, 1) := dw_16 (pc9 (k := 2208) (j := 29) lDL_69 rfl)
theorem dL_law_2238 : decode cL_law 2238 = .ok (.aload_n 0, 1) := dw_0 (pc9 (k := 2208) (j := 30) lDL_69 rfl)
theorem dL_law_2239 : decode cL_law 2239 = .ok (.iload 5, 2) := dw_39 (pc9 (k := 2208) (j := 31) lDL_69 rfl)
theorem dL_law_2241 : decode cL_law 2241 = .ok (.iconst 3, 1) := dw_221 (pc9 (k := 2240) (j := 1) lDL_70 rfl)
theorem dL_law_2242 : decode cL_law 2242 = .ok (.iadd, 1) := dw_43 (pc9 (k := 2240) (j := 2) lDL_70 rfl)
theorem dL_law_2243 : decode cL_law 2243 = .ok (.iaload, 1) := dw_16 (pc9 (k := 2240) (j := 3) lDL_70 rfl)
theorem dL_law_2244 : decode cL_law 2244 = .ok (.aload_n 0, 1) := dw_0 (pc9 (k := 2240) (j := 4) lDL_70 rfl)
theorem dL_law_2245 : decode cL_law 2245 = .ok (.iload 5, 2) := dw_39 (pc9 (k := 2240) (j := 5) lDL_70 rfl)
theorem dL_law_2247 : decode cL_law 2247 = .ok (.iconst 4, 1) := dw_280 (pc9 (k := 2240) (j := 7) lDL_70 rfl)
theorem dL_law_2248 : decode cL_law 2248 = .ok (.iadd, 1) := dw_43 (pc9 (k := 2240) (j := 8) lDL_70 rfl)
theorem dL_law_2249 : decode cL_law 2249 = .ok (.iaload, 1) := dw_16 (pc9 (k := 2240) (j := 9) lDL_70 rfl)
theorem dL_law_2250 : decode cL_law 2250 = .ok (.ifCond .eq 7, 3) := dw_227 (pc9 (k := 2240) (j := 10) lDL_70 rfl)
theorem dL_law_2253 : decode cL_law 2253 = .ok (.iconst 1, 1) := dw_26 (pc9 (k := 2240) (j := 13) lDL_70 rfl)
theorem dL_law_2254 : decode cL_law 2254 = .ok (.goto 4, 3) := dw_84 (pc9 (k := 2240) (j := 14) lDL_70 rfl)
theorem dL_law_2257 : decode cL_law 2257 = .ok (.iconst 0, 1) := dw_6 (pc9 (k := 2240) (j := 17) lDL_70 rfl)
theorem dL_law_2258 : decode cL_law 2258 = .ok (.invokevirtual 338, 3) := dw_909 (pc9 (k := 2240) (j := 18) lDL_70 rfl)
theorem dL_law_2261 : decode cL_law 2261 = .ok (.istore 7, 2) := dw_58 (pc9 (k := 2240) (j := 21) lDL_70 rfl)
theorem dL_law_2263 : decode cL_law 2263 = .ok (.goto 489, 3) := dw_910 (pc9 (k := 2240) (j := 23) lDL_70 rfl)
theorem dL_law_2266 : decode cL_law 2266 = .ok (.aload_n 1, 1) := dw_5 (pc9 (k := 2240) (j := 26) lDL_70 rfl)
theorem dL_law_2267 : decode cL_law 2267 = .ok (.aload_n 0, 1) := dw_0 (pc9 (k := 2240) (j := 27) lDL_70 rfl)
theorem dL_law_2268 : decode cL_law 2268 = .ok (.iload 5, 2) := dw_39 (pc9 (k := 2240) (j := 28) lDL_70 rfl)
theorem dL_law_2270 : decode cL_law 2270 = .ok (.iconst 1, 1) := dw_26 (pc9 (k := 2240) (j := 30) lDL_70 rfl)
theorem dL_law_2271 : decode cL_law 2271 = .ok (.iadd, 1) := dw_43 (pc9 (k := 2240) (j := 31) lDL_70 rfl)
theorem dL_law_2272 : decode cL_law 2272 = .ok (.iaload, 1) := dw_16 (pc9 (k := 2272) (j := 0) lDL_71 rfl)
theorem dL_law_2273 : decode cL_law 2273 = .ok (.aload_n 0, 1) := dw_0 (pc9 (k := 2272) (j := 1) lDL_71 rfl)
theorem dL_law_2274 : decode cL_law 2274 = .ok (.iload 5, 2) := dw_39 (pc9 (k := 2272) (j := 2) lDL_71 rfl)
theorem dL_law_2276 : decode cL_law 2276 = .ok (.iconst 2, 1) := dw_260 (pc9 (k := 2272) (j := 4) lDL_71 rfl)
theorem dL_law_2277 : decode cL_law 2277 = .ok (.iadd, 1) := dw_43 (pc9 (k := 2272) (j := 5) lDL_71 rfl)
theorem dL_law_2278 : decode cL_law 2278 = .ok (.iaload, 1) := dw_16 (pc9 (k := 2272) (j := 6) lDL_71 rfl)
theorem dL_law_2279 : decode cL_law 2279 = .ok (.aload_n 3, 1) := dw_119 (pc9 (k := 2272) (j := 7) lDL_71 rfl)
theorem dL_law_2280 : decode cL_law 2280 = .ok (.invokestatic 339, 3) := dw_911 (pc9 (k := 2272) (j := 8) lDL_71 rfl)
theorem dL_law_2283 : decode cL_law 2283 = .ok (.istore 6, 2) := dw_35 (pc9 (k := 2272) (j := 11) lDL_71 rfl)
theorem dL_law_2285 : decode cL_law 2285 = .ok (.aload_n 2, 1) := dw_52 (pc9 (k := 2272) (j := 13) lDL_71 rfl)
theorem dL_law_2286 : decode cL_law 2286 = .ok (.aload_n 0, 1) := dw_0 (pc9 (k := 2272) (j := 14) lDL_71 rfl)
theorem dL_law_2287 : decode cL_law 2287 = .ok (.iload 5, 2) := dw_39 (pc9 (k := 2272) (j := 15) lDL_71 rfl)
theorem dL_law_2289 : decode cL_law 2289 = .ok (.iconst 1, 1) := dw_26 (pc9 (k := 2272) (j := 17) lDL_71 rfl)
theorem dL_law_2290 : decode cL_law 2290 = .ok (.iadd, 1) := dw_43 (pc9 (k := 2272) (j := 18) lDL_71 rfl)
theorem dL_law_2291 : decode cL_law 2291 = .ok (.iaload, 1) := dw_16 (pc9 (k := 2272) (j := 19) lDL_71 rfl)
theorem dL_law_2292 : decode cL_law 2292 = .ok (.aload_n 0, 1) := dw_0 (pc9 (k := 2272) (j := 20) lDL_71 rfl)
theorem dL_law_2293 : decode cL_law 2293 = .ok (.iload 5, 2) := dw_39 (pc9 (k := 2272) (j := 21) lDL_71 rfl)
theorem dL_law_2295 : decode cL_law 2295 = .ok (.iconst 2, 1) := dw_260 (pc9 (k := 2272) (j := 23) lDL_71 rfl)
theorem dL_law_2296 : decode cL_law 2296 = .ok (.iadd, 1) := dw_43 (pc9 (k := 2272) (j := 24) lDL_71 rfl)
theorem dL_law_2297 : decode cL_law 2297 = .ok (.iaload, 1) := dw_16 (pc9 (k := 2272) (j := 25) lDL_71 rfl)
theorem dL_law_2298 : decode cL_law 2298 = .ok (.invokevirtual 341, 3) := dw_912 (pc9 (k := 2272) (j := 26) lDL_71 rfl)
theorem dL_law_2301 : decode cL_law 2301 = .ok (.istore 7, 2) := dw_58 (pc9 (k := 2272) (j := 29) lDL_71 rfl)
theorem dL_law_2303 : decode cL_law 2303 = .ok (.goto 449, 3) := dw_913 (pc9 (k := 2272) (j := 31) lDL_71 rfl)
theorem dL_law_2306 : decode cL_law 2306 = .ok (.aload_n 1, 1) := dw_5 (pc9 (k := 2304) (j := 2) lDL_72 rfl)
theorem dL_law_2307 : decode cL_law 2307 = .ok (.aload_n 0, 1) := dw_0 (pc9 (k := 2304) (j := 3) lDL_72 rfl)
theorem dL_law_2308 : decode cL_law 2308 = .ok (.iload 5, 2) := dw_39 (pc9 (k := 2304) (j := 4) lDL_72 rfl)
theorem dL_law_2310 : decode cL_law 2310 = .ok (.iconst 1, 1) := dw_26 (pc9 (k := 2304) (j := 6) lDL_72 rfl)
theorem dL_law_2311 : decode cL_law 2311 = .ok (.iadd, 1) := dw_43 (pc9 (k := 2304) (j := 7) lDL_72 rfl)
theorem dL_law_2312 : decode cL_law 2312 = .ok (.iaload, 1) := dw_16 (pc9 (k := 2304) (j := 8) lDL_72 rfl)
theorem dL_law_2313 : decode cL_law 2313 = .ok (.aload_n 0, 1) := dw_0 (pc9 (k := 2304) (j := 9) lDL_72 rfl)
theorem dL_law_2314 : decode cL_law 2314 = .ok (.iload 5, 2) := dw_39 (pc9 (k := 2304) (j := 10) lDL_72 rfl)
theorem dL_law_2316 : decode cL_law 2316 = .ok (.iconst 2, 1) := dw_260 (pc9 (k := 2304) (j := 12) lDL_72 rfl)
theorem dL_law_2317 : decode cL_law 2317 = .ok (.iadd, 1) := dw_43 (pc9 (k := 2304) (j := 13) lDL_72 rfl)
theorem dL_law_2318 : decode cL_law 2318 = .ok (.iaload, 1) := dw_16 (pc9 (k := 2304) (j := 14) lDL_72 rfl)
theorem dL_law_2319 : decode cL_law 2319 = .ok (.aload_n 3, 1) := dw_119 (pc9 (k := 2304) (j := 15) lDL_72 rfl)
theorem dL_law_2320 : decode cL_law 2320 = .ok (.invokestatic 342, 3) := dw_914 (pc9 (k := 2304) (j := 16) lDL_72 rfl)
theorem dL_law_2323 : decode cL_law 2323 = .ok (.istore 6, 2) := dw_35 (pc9 (k := 2304) (j := 19) lDL_72 rfl)
theorem dL_law_2325 : decode cL_law 2325 = .ok (.aload_n 2, 1) := dw_52 (pc9 (k := 2304) (j := 21) lDL_72 rfl)
theorem dL_law_2326 : decode cL_law 2326 = .ok (.aload_n 0, 1) := dw_0 (pc9 (k := 2304) (j := 22) lDL_72 rfl)
theorem dL_law_2327 : decode cL_law 2327 = .ok (.iload 5, 2) := dw_39 (pc9 (k := 2304) (j := 23) lDL_72 rfl)
theorem dL_law_2329 : decode cL_law 2329 = .ok (.iconst 1, 1) := dw_26 (pc9 (k := 2304) (j := 25) lDL_72 rfl)
theorem dL_law_2330 : decode cL_law 2330 = .ok (.iadd, 1) := dw_43 (pc9 (k := 2304) (j := 26) lDL_72 rfl)
theorem dL_law_2331 : decode cL_law 2331 = .ok (.iaload, 1) := dw_16 (pc9 (k := 2304) (j := 27) lDL_72 rfl)
theorem dL_law_2332 : decode cL_law 2332 = .ok (.aload_n 0, 1) := dw_0 (pc9 (k := 2304) (j := 28) lDL_72 rfl)
theorem dL_law_2333 : decode cL_law 2333 = .ok (.iload 5, 2) := dw_39 (pc9 (k := 2304) (j := 29) lDL_72 rfl)
theorem dL_law_2335 : decode cL_law 2335 = .ok (.iconst 2, 1) := dw_260 (pc9 (k := 2304) (j := 31) lDL_72 rfl)
theorem dL_law_2336 : decode cL_law 2336 = .ok (.iadd, 1) := dw_43 (pc9 (k := 2336) (j := 0) lDL_73 rfl)
theorem dL_law_2337 : decode cL_law 2337 = .ok (.iaload, 1) := dw_16 (pc9 (k := 2336) (j := 1) lDL_73 rfl)
theorem dL_law_2338 : decode cL_law 2338 = .ok (.invokevirtual 344, 3) := dw_481 (pc9 (k := 2336) (j := 2) lDL_73 rfl)
theorem dL_law_2341 : decode cL_law 2341 = .ok (.istore 7, 2) := dw_58 (pc9 (k := 2336) (j := 5) lDL_73 rfl)
theorem dL_law_2343 : decode cL_law 2343 = .ok (.goto 409, 3) := dw_915 (pc9 (k := 2336) (j := 7) lDL_73 rfl)
theorem dL_law_2346 : decode cL_law 2346 = .ok (.aload_n 1, 1) := dw_5 (pc9 (k := 2336) (j := 10) lDL_73 rfl)
theorem dL_law_2347 : decode cL_law 2347 = .ok (.aload_n 0, 1) := dw_0 (pc9 (k := 2336) (j := 11) lDL_73 rfl)
theorem dL_law_2348 : decode cL_law 2348 = .ok (.iload 5, 2) := dw_39 (pc9 (k := 2336) (j := 12) lDL_73 rfl)
theorem dL_law_2350 : decode cL_law 2350 = .ok (.iconst 1, 1) := dw_26 (pc9 (k := 2336) (j := 14) lDL_73 rfl)
theorem dL_law_2351 : decode cL_law 2351 = .ok (.iadd, 1) := dw_43 (pc9 (k := 2336) (j := 15) lDL_73 rfl)
theorem dL_law_2352 : decode cL_law 2352 = .ok (.iaload, 1) := dw_16 (pc9 (k := 2336) (j := 16) lDL_73 rfl)
theorem dL_law_2353 : decode cL_law 2353 = .ok (.aload_n 0, 1) := dw_0 (pc9 (k := 2336) (j := 17) lDL_73 rfl)
theorem dL_law_2354 : decode cL_law 2354 = .ok (.iload 5, 2) := dw_39 (pc9 (k := 2336) (j := 18) lDL_73 rfl)
theorem dL_law_2356 : decode cL_law 2356 = .ok (.iconst 2, 1) := dw_260 (pc9 (k := 2336) (j := 20) lDL_73 rfl)
theorem dL_law_2357 : decode cL_law 2357 = .ok (.iadd, 1) := dw_43 (pc9 (k := 2336) (j := 21) lDL_73 rfl)
theorem dL_law_2358 : decode cL_law 2358 = .ok (.iaload, 1) := dw_16 (pc9 (k := 2336) (j := 22) lDL_73 rfl)
theorem dL_law_2359 : decode cL_law 2359 = .ok (.aload_n 3, 1) := dw_119 (pc9 (k := 2336) (j := 23) lDL_73 rfl)
theorem dL_law_2360 : decode cL_law 2360 = .ok (.invokestatic 345, 3) := dw_916 (pc9 (k := 2336) (j := 24) lDL_73 rfl)
theorem dL_law_2363 : decode cL_law 2363 = .ok (.istore 6, 2) := dw_35 (pc9 (k := 2336) (j := 27) lDL_73 rfl)
theorem dL_law_2365 : decode cL_law 2365 = .ok (.aload_n 2, 1) := dw_52 (pc9 (k := 2336) (j := 29) lDL_73 rfl)
theorem dL_law_2366 : decode cL_law 2366 = .ok (.aload_n 0, 1) := dw_0 (pc9 (k := 2336) (j := 30) lDL_73 rfl)
theorem dL_law_2367 : decode cL_law 2367 = .ok (.iload 5, 2) := dw_39 (pc9 (k := 2336) (j := 31) lDL_73 rfl)
theorem dL_law_2369 : decode cL_law 2369 = .ok (.iconst 1, 1) := dw_26 (pc9 (k := 2368) (j := 1) lDL_74 rfl)
theorem dL_law_2370 : decode cL_law 2370 = .ok (.iadd, 1) := dw_43 (pc9 (k := 2368) (j := 2) lDL_74 rfl)
theorem dL_law_2371 : decode cL_law 2371 = .ok (.iaload, 1) := dw_16 (pc9 (k := 2368) (j := 3) lDL_74 rfl)
theorem dL_law_2372 : decode cL_law 2372 = .ok (.aload_n 0, 1) := dw_0 (pc9 (k := 2368) (j := 4) lDL_74 rfl)
theorem dL_law_2373 : decode cL_law 2373 = .ok (.iload 5, 2) := dw_39 (pc9 (k := 2368) (j := 5) lDL_74 rfl)
theorem dL_law_2375 : decode cL_law 2375 = .ok (.iconst 2, 1) := dw_260 (pc9 (k := 2368) (j := 7) lDL_74 rfl)
theorem dL_law_2376 : decode cL_law 2376 = .ok (.iadd, 1) := dw_43 (pc9 (k := 2368) (j := 8) lDL_74 rfl)
theorem dL_law_2377 : decode cL_law 2377 = .ok (.iaload, 1) := dw_16 (pc9 (k := 2368) (j := 9) lDL_74 rfl)
theorem dL_law_2378 : decode cL_law 2378 = .ok (.invokevirtual 347, 3) := dw_917 (pc9 (k := 2368) (j := 10) lDL_74 rfl)
theorem dL_law_2381 : decode cL_law 2381 = .ok (.istore 7, 2) := dw_58 (pc9 (k := 2368) (j := 13) lDL_74 rfl)
theorem dL_law_2383 : decode cL_law 2383 = .ok (.goto 369, 3) := dw_918 (pc9 (k := 2368) (j := 15) lDL_74 rfl)
theorem dL_law_2386 : decode cL_law 2386 = .ok (.aload_n 1, 1) := dw_5 (pc9 (k := 2368) (j := 18) lDL_74 rfl)
theorem dL_law_2387 : decode cL_law 2387 = .ok (.aload_n 0, 1) := dw_0 (pc9 (k := 2368) (j := 19) lDL_74 rfl)
theorem dL_law_2388 : decode cL_law 2388 = .ok (.iload 5, 2) := dw_39 (pc9 (k := 2368) (j := 20) lDL_74 rfl)
theorem dL_law_2390 : decode cL_law 2390 = .ok (.iconst 1, 1) := dw_26 (pc9 (k := 2368) (j := 22) lDL_74 rfl)
theorem dL_law_2391 : decode cL_law 2391 = .ok (.iadd, 1) := dw_43 (pc9 (k := 2368) (j := 23) lDL_74 rfl)
theorem dL_law_2392 : decode cL_law 2392 = .ok (.iaload, 1) := dw_16 (pc9 (k := 2368) (j := 24) lDL_74 rfl)
theorem dL_law_2393 : decode cL_law 2393 = .ok (.aload_n 0, 1) := dw_0 (pc9 (k := 2368) (j := 25) lDL_74 rfl)
theorem dL_law_2394 : decode cL_law 2394 = .ok (.iload 5, 2) := dw_39 (pc9 (k := 2368) (j := 26) lDL_74 rfl)
theorem dL_law_2396 : decode cL_law 2396 = .ok (.iconst 2, 1) := dw_260 (pc9 (k := 2368) (j := 28) lDL_74 rfl)
theorem dL_law_2397 : decode cL_law 2397 = .ok (.iadd, 1) := dw_43 (pc9 (k := 2368) (j := 29) lDL_74 rfl)
theorem dL_law_2398 : decode cL_law 2398 = .ok (.iaload, 1) := dw_16 (pc9 (k := 2368) (j := 30) lDL_74 rfl)
theorem dL_law_2399 : decode cL_law 2399 = .ok (.aload_n 0, 1) := dw_0 (pc9 (k := 2368) (j := 31) lDL_74 rfl)
theorem dL_law_2400 : decode cL_law 2400 = .ok (.iload 5, 2) := dw_39 (pc9 (k := 2400) (j := 0) lDL_75 rfl)
theorem dL_law_2402 : decode cL_law 2402 = .ok (.iconst 3, 1) := dw_221 (pc9 (k := 2400) (j := 2) lDL_75 rfl)
theorem dL_law_2403 : decode cL_law 2403 = .ok (.iadd, 1) := dw_43 (pc9 (k := 2400) (j := 3) lDL_75 rfl)
theorem dL_law_2404 : decode cL_law 2404 = .ok (.iaload, 1) := dw_16 (pc9 (k := 2400) (j := 4) lDL_75 rfl)
theorem dL_law_2405 : decode cL_law 2405 = .ok (.aload_n 3, 1) := dw_119 (pc9 (k := 2400) (j := 5) lDL_75 rfl)
theorem dL_law_2406 : decode cL_law 2406 = .ok (.invokestatic 348, 3) := dw_919 (pc9 (k := 2400) (j := 6) lDL_75 rfl)
theorem dL_law_2409 : decode cL_law 2409 = .ok (.istore 6, 2) := dw_35 (pc9 (k := 2400) (j := 9) lDL_75 rfl)
theorem dL_law_2411 : decode cL_law 2411 = .ok (.aload_n 2, 1) := dw_52 (pc9 (k := 2400) (j := 11) lDL_75 rfl)
theorem dL_law_2412 : decode cL_law 2412 = .ok (.aload_n 0, 1) := dw_0 (pc9 (k := 2400) (j := 12) lDL_75 rfl)
theorem dL_law_2413 : decode cL_law 2413 = .ok (.iload 5, 2) := dw_39 (pc9 (k := 2400) (j := 13) lDL_75 rfl)
theorem dL_law_2415 : decode cL_law 2415 = .ok (.iconst 1, 1) := dw_26 (pc9 (k := 2400) (j := 15) lDL_75 rfl)
theorem dL_law_2416 : decode cL_law 2416 = .ok (.iadd, 1) := dw_43 (pc9 (k := 2400) (j := 16) lDL_75 rfl)
theorem dL_law_2417 : decode cL_law 2417 = .ok (.iaload, 1) := dw_16 (pc9 (k := 2400) (j := 17) lDL_75 rfl)
theorem dL_law_2418 : decode cL_law 2418 = .ok (.aload_n 0, 1) := dw_0 (pc9 (k := 2400) (j := 18) lDL_75 rfl)
theorem dL_law_2419 : decode cL_law 2419 = .ok (.iload 5, 2) := dw_39 (pc9 (k := 2400) (j := 19) lDL_75 rfl)
theorem dL_law_2421 : decode cL_law 2421 = .ok (.iconst 2, 1) := dw_260 (pc9 (k := 2400) (j := 21) lDL_75 rfl)
theorem dL_law_2422 : decode cL_law 2422 = .ok (.iadd, 1) := dw_43 (pc9 (k := 2400) (j := 22) lDL_75 rfl)
theorem dL_law_2423 : decode cL_law 2423 = .ok (.iaload, 1) := dw_16 (pc9 (k := 2400) (j := 23) lDL_75 rfl)
theorem dL_law_2424 : decode cL_law 2424 = .ok (.aload_n 0, 1) := dw_0 (pc9 (k := 2400) (j := 24) lDL_75 rfl)
theorem dL_law_2425 : decode cL_law 2425 = .ok (.iload 5, 2) := dw_39 (pc9 (k := 2400) (j := 25) lDL_75 rfl)
theorem dL_law_2427 : decode cL_law 2427 = .ok (.iconst 3, 1) := dw_221 (pc9 (k := 2400) (j := 27) lDL_75 rfl)
theorem dL_law_2428 : decode cL_law 2428 = .ok (.iadd, 1) := dw_43 (pc9 (k := 2400) (j := 28) lDL_75 rfl)
theorem dL_law_2429 : decode cL_law 2429 = .ok (.iaload, 1) := dw_16 (pc9 (k := 2400) (j := 29) lDL_75 rfl)
theorem dL_law_2430 : decode cL_law 2430 = .ok (.invokevirtual 350, 3) := dw_920 (pc9 (k := 2400) (j := 30) lDL_75 rfl)
theorem dL_law_2433 : decode cL_law 2433 = .ok (.istore 7, 2) := dw_58 (pc9 (k := 2432) (j := 1) lDL_76 rfl)
theorem dL_law_2435 : decode cL_law 2435 = .ok (.goto 317, 3) := dw_921 (pc9 (k := 2432) (j := 3) lDL_76 rfl)
theorem dL_law_2438 : decode cL_law 2438 = .ok (.aload_n 1, 1) := dw_5 (pc9 (k := 2432) (j := 6) lDL_76 rfl)
theorem dL_law_2439 : decode cL_law 2439 = .ok (.aload_n 0, 1) := dw_0 (pc9 (k := 2432) (j := 7) lDL_76 rfl)
theorem dL_law_2440 : decode cL_law 2440 = .ok (.iload 5, 2) := dw_39 (pc9 (k := 2432) (j := 8) lDL_76 rfl)
theorem dL_law_2442 : decode cL_law 2442 = .ok (.iconst 1, 1) := dw_26 (pc9 (k := 2432) (j := 10) lDL_76 rfl)
theorem dL_law_2443 : decode cL_law 2443 = .ok (.iadd, 1) := dw_43 (pc9 (k := 2432) (j := 11) lDL_76 rfl)
theorem dL_law_2444 : decode cL_law 2444 = .ok (.iaload, 1) := dw_16 (pc9 (k := 2432) (j := 12) lDL_76 rfl)
theorem dL_law_2445 : decode cL_law 2445 = .ok (.aload_n 0, 1) := dw_0 (pc9 (k := 2432) (j := 13) lDL_76 rfl)
theorem dL_law_2446 : decode cL_law 2446 = .ok (.iload 5, 2) := dw_39 (pc9 (k := 2432) (j := 14) lDL_76 rfl)
theorem dL_law_2448 : decode cL_law 2448 = .ok (.iconst 2, 1) := dw_260 (pc9 (k := 2432) (j := 16) lDL_76 rfl)
theorem dL_law_2449 : decode cL_law 2449 = .ok (.iadd, 1) := dw_43 (pc9 (k := 2432) (j := 17) lDL_76 rfl)
theorem dL_law_2450 : decode cL_law 2450 = .ok (.iaload, 1) := dw_16 (pc9 (k := 2432) (j := 18) lDL_76 rfl)
theorem dL_law_2451 : decode cL_law 2451 = .ok (.ifCond .eq 7, 3) := dw_227 (pc9 (k := 2432) (j := 19) lDL_76 rfl)
theorem dL_law_2454 : decode cL_law 2454 = .ok (.iconst 1, 1) := dw_26 (pc9 (k := 2432) (j := 22) lDL_76 rfl)
theorem dL_law_2455 : decode cL_law 2455 = .ok (.goto 4, 3) := dw_84 (pc9 (k := 2432) (j := 23) lDL_76 rfl)
theorem dL_law_2458 : decode cL_law 2458 = .ok (.iconst 0, 1) := dw_6 (pc9 (k := 2432) (j := 26) lDL_76 rfl)
theorem dL_law_2459 : decode cL_law 2459 = .ok (.aload_n 3, 1) := dw_119 (pc9 (k := 2432) (j := 27) lDL_76 rfl)
theorem dL_law_2460 : decode cL_law 2460 = .ok (.invokestatic 351, 3) := dw_922 (pc9 (k := 2432) (j := 28) lDL_76 rfl)
theorem dL_law_2463 : decode cL_law 2463 = .ok (.istore 6, 2) := dw_35 (pc9 (k := 2432) (j := 31) lDL_76 rfl)
theorem dL_law_2465 : decode cL_law 2465 = .ok (.aload_n 2, 1) := dw_52 (pc9 (k := 2464) (j := 1) lDL_77 rfl)
theorem dL_law_2466 : decode cL_law 2466 = .ok (.aload_n 0, 1) := dw_0 (pc9 (k := 2464) (j := 2) lDL_77 rfl)
theorem dL_law_2467 : decode cL_law 2467 = .ok (.iload 5, 2) := dw_39 (pc9 (k := 2464) (j := 3) lDL_77 rfl)
theorem dL_law_2469 : decode cL_law 2469 = .ok (.iconst 1, 1) := dw_26 (pc9 (k := 2464) (j := 5) lDL_77 rfl)
theorem dL_law_2470 : decode cL_law 2470 = .ok (.iadd, 1) := dw_43 (pc9 (k := 2464) (j := 6) lDL_77 rfl)
theorem dL_law_2471 : decode cL_law 2471 = .ok (.iaload, 1) := dw_16 (pc9 (k := 2464) (j := 7) lDL_77 rfl)
theorem dL_law_2472 : decode cL_law 2472 = .ok (.aload_n 0, 1) := dw_0 (pc9 (k := 2464) (j := 8) lDL_77 rfl)
theorem dL_law_2473 : decode cL_law 2473 = .ok (.iload 5, 2) := dw_39 (pc9 (k := 2464) (j := 9) lDL_77 rfl)
theorem dL_law_2475 : decode cL_law 2475 = .ok (.iconst 2, 1) := dw_260 (pc9 (k := 2464) (j := 11) lDL_77 rfl)
theorem dL_law_2476 : decode cL_law 2476 = .ok (.iadd, 1) := dw_43 (pc9 (k := 2464) (j := 12) lDL_77 rfl)
theorem dL_law_2477 : decode cL_law 2477 = .ok (.iaload, 1) := dw_16 (pc9 (k := 2464) (j := 13) lDL_77 rfl)
theorem dL_law_2478 : decode cL_law 2478 = .ok (.ifCond .eq 7, 3) := dw_227 (pc9 (k := 2464) (j := 14) lDL_77 rfl)
theorem dL_law_2481 : decode cL_law 2481 = .ok (.iconst 1, 1) := dw_26 (pc9 (k := 2464) (j := 17) lDL_77 rfl)
theorem dL_law_2482 : decode cL_law 2482 = .ok (.goto 4, 3) := dw_84 (pc9 (k := 2464) (j := 18) lDL_77 rfl)
theorem dL_law_2485 : decode cL_law 2485 = .ok (.iconst 0, 1) := dw_6 (pc9 (k := 2464) (j := 21) lDL_77 rfl)
theorem dL_law_2486 : decode cL_law 2486 = .ok (.invokevirtual 354, 3) := dw_923 (pc9 (k := 2464) (j := 22) lDL_77 rfl)
theorem dL_law_2489 : decode cL_law 2489 = .ok (.istore 7, 2) := dw_58 (pc9 (k := 2464) (j := 25) lDL_77 rfl)
theorem dL_law_2491 : decode cL_law 2491 = .ok (.goto 261, 3) := dw_924 (pc9 (k := 2464) (j := 27) lDL_77 rfl)
theorem dL_law_2494 : decode cL_law 2494 = .ok (.aload_n 1, 1) := dw_5 (pc9 (k := 2464) (j := 30) lDL_77 rfl)
theorem dL_law_2495 : decode cL_law 2495 = .ok (.aload_n 0, 1) := dw_0 (pc9 (k := 2464) (j := 31) lDL_77 rfl)
theorem dL_law_2496 : decode cL_law 2496 = .ok (.iload 5, 2) := dw_39 (pc9 (k := 2496) (j := 0) lDL_78 rfl)
theorem dL_law_2498 : decode cL_law 2498 = .ok (.iconst 1, 1) := dw_26 (pc9 (k := 2496) (j := 2) lDL_78 rfl)
theorem dL_law_2499 : decode cL_law 2499 = .ok (.iadd, 1) := dw_43 (pc9 (k := 2496) (j := 3) lDL_78 rfl)
theorem dL_law_2500 : decode cL_law 2500 = .ok (.iaload, 1) := dw_16 (pc9 (k := 2496) (j := 4) lDL_78 rfl)
theorem dL_law_2501 : decode cL_law 2501 = .ok (.aload_n 3, 1) := dw_119 (pc9 (k := 2496) (j := 5) lDL_78 rfl)
theorem dL_law_2502 : decode cL_law 2502 = .ok (.invokestatic 355, 3) := dw_925 (pc9 (k := 2496) (j := 6) lDL_78 rfl)
theorem dL_law_2505 : decode cL_law 2505 = .ok (.istore 6, 2) := dw_35 (pc9 (k := 2496) (j := 9) lDL_78 rfl)
theorem dL_law_2507 : decode cL_law 2507 = .ok (.aload_n 2, 1) := dw_52 (pc9 (k := 2496) (j := 11) lDL_78 rfl)
theorem dL_law_2508 : decode cL_law 2508 = .ok (.aload_n 0, 1) := dw_0 (pc9 (k := 2496) (j := 12) lDL_78 rfl)
theorem dL_law_2509 : decode cL_law 2509 = .ok (.iload 5, 2) := dw_39 (pc9 (k := 2496) (j := 13) lDL_78 rfl)
theorem dL_law_2511 : decode cL_law 2511 = .ok (.iconst 1, 1) := dw_26 (pc9 (k := 2496) (j := 15) lDL_78 rfl)
theorem dL_law_2512 : decode cL_law 2512 = .ok (.iadd, 1) := dw_43 (pc9 (k := 2496) (j := 16) lDL_78 rfl)
theorem dL_law_2513 : decode cL_law 2513 = .ok (.iaload, 1) := dw_16 (pc9 (k := 2496) (j := 17) lDL_78 rfl)
theorem dL_law_2514 : decode cL_law 2514 = .ok (.invokevirtual 357, 3) := dw_926 (pc9 (k := 2496) (j := 18) lDL_78 rfl)
theorem dL_law_2517 : decode cL_law 2517 = .ok (.istore 7, 2) := dw_58 (pc9 (k := 2496) (j := 21) lDL_78 rfl)
theorem dL_law_2519 : decode cL_law 2519 = .ok (.goto 233, 3) := dw_927 (pc9 (k := 2496) (j := 23) lDL_78 rfl)
theorem dL_law_2522 : decode cL_law 2522 = .ok (.aload_n 1, 1) := dw_5 (pc9 (k := 2496) (j := 26) lDL_78 rfl)
theorem dL_law_2523 : decode cL_law 2523 = .ok (.aload_n 0, 1) := dw_0 (pc9 (k := 2496) (j := 27) lDL_78 rfl)
theorem dL_law_2524 : decode cL_law 2524 = .ok (.iload 5, 2) := dw_39 (pc9 (k := 2496) (j := 28) lDL_78 rfl)
theorem dL_law_2526 : decode cL_law 2526 = .ok (.iconst 1, 1) := dw_26 (pc9 (k := 2496) (j := 30) lDL_78 rfl)
theorem dL_law_2527 : decode cL_law 2527 = .ok (.iadd, 1) := dw_43 (pc9 (k := 2496) (j := 31) lDL_78 rfl)
theorem dL_law_2528 : decode cL_law 2528 = .ok (.iaload, 1) := dw_16 (pc9 (k := 2528) (j := 0) lDL_79 rfl)
theorem dL_law_2529 : decode cL_law 2529 = .ok (.aload_n 0, 1) := dw_0 (pc9 (k := 2528) (j := 1) lDL_79 rfl)
theorem dL_law_2530 : decode cL_law 2530 = .ok (.iload 5, 2) := dw_39 (pc9 (k := 2528) (j := 2) lDL_79 rfl)
theorem dL_law_2532 : decode cL_law 2532 = .ok (.iconst 2, 1) := dw_260 (pc9 (k := 2528) (j := 4) lDL_79 rfl)
theorem dL_law_2533 : decode cL_law 2533 = .ok (.iadd, 1) := dw_43 (pc9 (k := 2528) (j := 5) lDL_79 rfl)
theorem dL_law_2534 : decode cL_law 2534 = .ok (.iaload, 1) := dw_16 (pc9 (k := 2528) (j := 6) lDL_79 rfl)
theorem dL_law_2535 : decode cL_law 2535 = .ok (.aload_n 3, 1) := dw_119 (pc9 (k := 2528) (j := 7) lDL_79 rfl)
theorem dL_law_2536 : decode cL_law 2536 = .ok (.invokestatic 358, 3) := dw_928 (pc9 (k := 2528) (j := 8) lDL_79 rfl)
theorem dL_law_2539 : decode cL_law 2539 = .ok (.istore 6, 2) := dw_35 (pc9 (k := 2528) (j := 11) lDL_79 rfl)
theorem dL_law_2541 : decode cL_law 2541 = .ok (.aload_n 2, 1) := dw_52 (pc9 (k := 2528) (j := 13) lDL_79 rfl)
theorem dL_law_2542 : decode cL_law 2542 = .ok (.aload_n 0, 1) := dw_0 (pc9 (k := 2528) (j := 14) lDL_79 rfl)
theorem dL_law_2543 : decode cL_law 2543 = .ok (.iload 5, 2) := dw_39 (pc9 (k := 2528) (j := 15) lDL_79 rfl)
theorem dL_law_2545 : decode cL_law 2545 = .ok (.iconst 1, 1) := dw_26 (pc9 (k := 2528) (j := 17) lDL_79 rfl)
theorem dL_law_2546 : decode cL_law 2546 = .ok (.iadd, 1) := dw_43 (pc9 (k := 2528) (j := 18) lDL_79 rfl)
theorem dL_law_2547 : decode cL_law 2547 = .ok (.iaload, 1) := dw_16 (pc9 (k := 2528) (j := 19) lDL_79 rfl)
theorem dL_law_2548 : decode cL_law 2548 = .ok (.aload_n 0, 1) := dw_0 (pc9 (k := 2528) (j := 20) lDL_79 rfl)
theorem dL_law_2549 : decode cL_law 2549 = .ok (.iload 5, 2) := dw_39 (pc9 (k := 2528) (j := 21) lDL_79 rfl)
theorem dL_law_2551 : decode cL_law 2551 = .ok (.iconst 2, 1) := dw_260 (pc9 (k := 2528) (j := 23) lDL_79 rfl)
theorem dL_law_2552 : decode cL_law 2552 = .ok (.iadd, 1) := dw_43 (pc9 (k := 2528) (j := 24) lDL_79 rfl)
theorem dL_law_2553 : decode cL_law 2553 = .ok (.iaload, 1) := dw_16 (pc9 (k := 2528) (j := 25) lDL_79 rfl)
theorem dL_law_2554 : decode cL_law 2554 = .ok (.invokevirtual 360, 3) := dw_929 (pc9 (k := 2528) (j := 26) lDL_79 rfl)
theorem dL_law_2557 : decode cL_law 2557 = .ok (.istore 7, 2) := dw_58 (pc9 (k := 2528) (j := 29) lDL_79 rfl)
theorem dL_law_2559 : decode cL_law 2559 = .ok (.goto 193, 3) := dw_930 (pc9 (k := 2528) (j := 31) lDL_79 rfl)
theorem dL_law_2562 : decode cL_law 2562 = .ok (.aload_n 1, 1) := dw_5 (pc9 (k := 2560) (j := 2) lDL_80 rfl)
theorem dL_law_2563 : decode cL_law 2563 = .ok (.aload_n 0, 1) := dw_0 (pc9 (k := 2560) (j := 3) lDL_80 rfl)
theorem dL_law_2564 : decode cL_law 2564 = .ok (.iload 5, 2) := dw_39 (pc9 (k := 2560) (j := 4) lDL_80 rfl)
theorem dL_law_2566 : decode cL_law 2566 = .ok (.iconst 1, 1) := dw_26 (pc9 (k := 2560) (j := 6) lDL_80 rfl)
theorem dL_law_2567 : decode cL_law 2567 = .ok (.iadd, 1) := dw_43 (pc9 (k := 2560) (j := 7) lDL_80 rfl)
theorem dL_law_2568 : decode cL_law 2568 = .ok (.iaload, 1) := dw_16 (pc9 (k := 2560) (j := 8) lDL_80 rfl)
theorem dL_law_2569 : decode cL_law 2569 = .ok (.aload_n 3, 1) := dw_119 (pc9 (k := 2560) (j := 9) lDL_80 rfl)
theorem dL_law_2570 : decode cL_law 2570 = .ok (.invokestatic 361, 3) := dw_931 (pc9 (k := 2560) (j := 10) lDL_80 rfl)
theorem dL_law_2573 : decode cL_law 2573 = .ok (.istore 6, 2) := dw_35 (pc9 (k := 2560) (j := 13) lDL_80 rfl)
theorem dL_law_2575 : decode cL_law 2575 = .ok (.aload_n 2, 1) := dw_52 (pc9 (k := 2560) (j := 15) lDL_80 rfl)
theorem dL_law_2576 : decode cL_law 2576 = .ok (.aload_n 0, 1) := dw_0 (pc9 (k := 2560) (j := 16) lDL_80 rfl)
theorem dL_law_2577 : decode cL_law 2577 = .ok (.iload 5, 2) := dw_39 (pc9 (k := 2560) (j := 17) lDL_80 rfl)
theorem dL_law_2579 : decode cL_law 2579 = .ok (.iconst 1, 1) := dw_26 (pc9 (k := 2560) (j := 19) lDL_80 rfl)
theorem dL_law_2580 : decode cL_law 2580 = .ok (.iadd, 1) := dw_43 (pc9 (k := 2560) (j := 20) lDL_80 rfl)
theorem dL_law_2581 : decode cL_law 2581 = .ok (.iaload, 1) := dw_16 (pc9 (k := 2560) (j := 21) lDL_80 rfl)
theorem dL_law_2582 : decode cL_law 2582 = .ok (.invokevirtual 363, 3) := dw_932 (pc9 (k := 2560) (j := 22) lDL_80 rfl)
theorem dL_law_2585 : decode cL_law 2585 = .ok (.istore 7, 2) := dw_58 (pc9 (k := 2560) (j := 25) lDL_80 rfl)
theorem dL_law_2587 : decode cL_law 2587 = .ok (.goto 165, 3) := dw_933 (pc9 (k := 2560) (j := 27) lDL_80 rfl)
theorem dL_law_2590 : decode cL_law 2590 = .ok (.aload_n 1, 1) := dw_5 (pc9 (k := 2560) (j := 30) lDL_80 rfl)
theorem dL_law_2591 : decode cL_law 2591 = .ok (.aload_n 0, 1) := dw_0 (pc9 (k := 2560) (j := 31) lDL_80 rfl)
theorem dL_law_2592 : decode cL_law 2592 = .ok (.iload 5, 2) := dw_39 (pc9 (k := 2592) (j := 0) lDL_81 rfl)
theorem dL_law_2594 : decode cL_law 2594 = .ok (.iconst 1, 1) := dw_26 (pc9 (k := 2592) (j := 2) lDL_81 rfl)
theorem dL_law_2595 : decode cL_law 2595 = .ok (.iadd, 1) := dw_43 (pc9 (k := 2592) (j := 3) lDL_81 rfl)
theorem dL_law_2596 : decode cL_law 2596 = .ok (.iaload, 1) := dw_16 (pc9 (k := 2592) (j := 4) lDL_81 rfl)
theorem dL_law_2597 : decode cL_law 2597 = .ok (.aload_n 0, 1) := dw_0 (pc9 (k := 2592) (j := 5) lDL_81 rfl)
theorem dL_law_2598 : decode cL_law 2598 = .ok (.iload 5, 2) := dw_39 (pc9 (k := 2592) (j := 6) lDL_81 rfl)
theorem dL_law_2600 : decode cL_law 2600 = .ok (.iconst 2, 1) := dw_260 (pc9 (k := 2592) (j := 8) lDL_81 rfl)
theorem dL_law_2601 : decode cL_law 2601 = .ok (.iadd, 1) := dw_43 (pc9 (k := 2592) (j := 9) lDL_81 rfl)
theorem dL_law_2602 : decode cL_law 2602 = .ok (.iaload, 1) := dw_16 (pc9 (k := 2592) (j := 10) lDL_81 rfl)
theorem dL_law_2603 : decode cL_law 2603 = .ok (.aload_n 3, 1) := dw_119 (pc9 (k := 2592) (j := 11) lDL_81 rfl)
theorem dL_law_2604 : decode cL_law 2604 = .ok (.invokestatic 364, 3) := dw_934 (pc9 (k := 2592) (j := 12) lDL_81 rfl)
theorem dL_law_2607 : decode cL_law 2607 = .ok (.istore 6, 2) := dw_35 (pc9 (k := 2592) (j := 15) lDL_81 rfl)
theorem dL_law_2609 : decode cL_law 2609 = .ok (.aload_n 2, 1) := dw_52 (pc9 (k := 2592) (j := 17) lDL_81 rfl)
theorem dL_law_2610 : decode cL_law 2610 = .ok (.aload_n 0, 1) := dw_0 (pc9 (k := 2592) (j := 18) lDL_81 rfl)
theorem dL_law_2611 : decode cL_law 2611 = .ok (.iload 5, 2) := dw_39 (pc9 (k := 2592) (j := 19) lDL_81 rfl)
theorem dL_law_2613 : decode cL_law 2613 = .ok (.iconst 1, 1) := dw_26 (pc9 (k := 2592) (j := 21) lDL_81 rfl)
theorem dL_law_2614 : decode cL_law 2614 = .ok (.iadd, 1) := dw_43 (pc9 (k := 2592) (j := 22) lDL_81 rfl)
theorem dL_law_2615 : decode cL_law 2615 = .ok (.iaload, 1) := dw_16 (pc9 (k := 2592) (j := 23) lDL_81 rfl)
theorem dL_law_2616 : decode cL_law 2616 = .ok (.aload_n 0, 1) := dw_0 (pc9 (k := 2592) (j := 24) lDL_81 rfl)
theorem dL_law_2617 : decode cL_law 2617 = .ok (.iload 5, 2) := dw_39 (pc9 (k := 2592) (j := 25) lDL_81 rfl)
theorem dL_law_2619 : decode cL_law 2619 = .ok (.iconst 2, 1) := dw_260 (pc9 (k := 2592) (j := 27) lDL_81 rfl)
theorem dL_law_2620 : decode cL_law 2620 = .ok (.iadd, 1) := dw_43 (pc9 (k := 2592) (j := 28) lDL_81 rfl)
theorem dL_law_2621 : decode cL_law 2621 = .ok (.iaload, 1) := dw_16 (pc9 (k := 2592) (j := 29) lDL_81 rfl)
theorem dL_law_2622 : decode cL_law 2622 = .ok (.invokevirtual 366, 3) := dw_935 (pc9 (k := 2592) (j := 30) lDL_81 rfl)
theorem dL_law_2625 : decode cL_law 2625 = .ok (.istore 7, 2) := dw_58 (pc9 (k := 2624) (j := 1) lDL_82 rfl)
theorem dL_law_2627 : decode cL_law 2627 = .ok (.goto 125, 3) := dw_936 (pc9 (k := 2624) (j := 3) lDL_82 rfl)
theorem dL_law_2630 : decode cL_law 2630 = .ok (.aload_n 1, 1) := dw_5 (pc9 (k := 2624) (j := 6) lDL_82 rfl)
theorem dL_law_2631 : decode cL_law 2631 = .ok (.aload_n 0, 1) := dw_0 (pc9 (k := 2624) (j := 7) lDL_82 rfl)
theorem dL_law_2632 : decode cL_law 2632 = .ok (.iload 5, 2) := dw_39 (pc9 (k := 2624) (j := 8) lDL_82 rfl)
theorem dL_law_2634 : decode cL_law 2634 = .ok (.iconst 1, 1) := dw_26 (pc9 (k := 2624) (j := 10) lDL_82 rfl)
theorem dL_law_2635 : decode cL_law 2635 = .ok (.iadd, 1) := dw_43 (pc9 (k := 2624) (j := 11) lDL_82 rfl)
theorem dL_law_2636 : decode cL_law 2636 = .ok (.iaload, 1) := dw_16 (pc9 (k := 2624) (j := 12) lDL_82 rfl)
theorem dL_law_2637 : decode cL_law 2637 = .ok (.invokevirtual 367, 3) := dw_937 (pc9 (k := 2624) (j := 13) lDL_82 rfl)
theorem dL_law_2640 : decode cL_law 2640 = .ok (.pop, 1) := dw_441 (pc9 (k := 2624) (j := 16) lDL_82 rfl)
theorem dL_law_2641 : decode cL_law 2641 = .ok (.aload_n 2, 1) := dw_52 (pc9 (k := 2624) (j := 17) lDL_82 rfl)
theorem dL_law_2642 : decode cL_law 2642 = .ok (.aload_n 0, 1) := dw_0 (pc9 (k := 2624) (j := 18) lDL_82 rfl)
theorem dL_law_2643 : decode cL_law 2643 = .ok (.iload 5, 2) := dw_39 (pc9 (k := 2624) (j := 19) lDL_82 rfl)
theorem dL_law_2645 : decode cL_law 2645 = .ok (.iconst 1, 1) := dw_26 (pc9 (k := 2624) (j := 21) lDL_82 rfl)
theorem dL_law_2646 : decode cL_law 2646 = .ok (.iadd, 1) := dw_43 (pc9 (k := 2624) (j := 22) lDL_82 rfl)
theorem dL_law_2647 : decode cL_law 2647 = .ok (.iaload, 1) := dw_16 (pc9 (k := 2624) (j := 23) lDL_82 rfl)
theorem dL_law_2648 : decode cL_law 2648 = .ok (.invokevirtual 370, 3) := dw_938 (pc9 (k := 2624) (j := 24) lDL_82 rfl)
theorem dL_law_2651 : decode cL_law 2651 = .ok (.pop, 1) := dw_441 (pc9 (k := 2624) (j := 27) lDL_82 rfl)
theorem dL_law_2652 : decode cL_law 2652 = .ok (.goto 100, 3) := dw_939 (pc9 (k := 2624) (j := 28) lDL_82 rfl)
theorem dL_law_2655 : decode cL_law 2655 = .ok (.aload_n 1, 1) := dw_5 (pc9 (k := 2624) (j := 31) lDL_82 rfl)
theorem dL_law_2656 : decode cL_law 2656 = .ok (.invokevirtual 371, 3) := dw_940 (pc9 (k := 2656) (j := 0) lDL_83 rfl)
theorem dL_law_2659 : decode cL_law 2659 = .ok (.pop, 1) := dw_441 (pc9 (k := 2656) (j := 3) lDL_83 rfl)
theorem dL_law_2660 : decode cL_law 2660 = .ok (.aload_n 2, 1) := dw_52 (pc9 (k := 2656) (j := 4) lDL_83 rfl)
theorem dL_law_2661 : decode cL_law 2661 = .ok (.invokevirtual 374, 3) := dw_941 (pc9 (k := 2656) (j := 5) lDL_83 rfl)
theorem dL_law_2664 : decode cL_law 2664 = .ok (.pop, 1) := dw_441 (pc9 (k := 2656) (j := 8) lDL_83 rfl)
theorem dL_law_2665 : decode cL_law 2665 = .ok (.goto 87, 3) := dw_942 (pc9 (k := 2656) (j := 9) lDL_83 rfl)
theorem dL_law_2668 : decode cL_law 2668 = .ok (.aload_n 1, 1) := dw_5 (pc9 (k := 2656) (j := 12) lDL_83 rfl)
theorem dL_law_2669 : decode cL_law 2669 = .ok (.aload_n 0, 1) := dw_0 (pc9 (k := 2656) (j := 13) lDL_83 rfl)
theorem dL_law_2670 : decode cL_law 2670 = .ok (.iload 5, 2) := dw_39 (pc9 (k := 2656) (j := 14) lDL_83 rfl)
theorem dL_law_2672 : decode cL_law 2672 = .ok (.iconst 1, 1) := dw_26 (pc9 (k := 2656) (j := 16) lDL_83 rfl)
theorem dL_law_2673 : decode cL_law 2673 = .ok (.iadd, 1) := dw_43 (pc9 (k := 2656) (j := 17) lDL_83 rfl)
theorem dL_law_2674 : decode cL_law 2674 = .ok (.iaload, 1) := dw_16 (pc9 (k := 2656) (j := 18) lDL_83 rfl)
theorem dL_law_2675 : decode cL_law 2675 = .ok (.aload_n 3, 1) := dw_119 (pc9 (k := 2656) (j := 19) lDL_83 rfl)
theorem dL_law_2676 : decode cL_law 2676 = .ok (.invokestatic 375, 3) := dw_943 (pc9 (k := 2656) (j := 20) lDL_83 rfl)
theorem dL_law_2679 : decode cL_law 2679 = .ok (.istore 6, 2) := dw_35 (pc9 (k := 2656) (j := 23) lDL_83 rfl)
theorem dL_law_2681 : decode cL_law 2681 = .ok (.aload_n 2, 1) := dw_52 (pc9 (k := 2656) (j := 25) lDL_83 rfl)
theorem dL_law_2682 : decode cL_law 2682 = .ok (.aload_n 0, 1) := dw_0 (pc9 (k := 2656) (j := 26) lDL_83 rfl)
theorem dL_law_2683 : decode cL_law 2683 = .ok (.iload 5, 2) := dw_39 (pc9 (k := 2656) (j := 27) lDL_83 rfl)
theorem dL_law_2685 : decode cL_law 2685 = .ok (.iconst 1, 1) := dw_26 (pc9 (k := 2656) (j := 29) lDL_83 rfl)
theorem dL_law_2686 : decode cL_law 2686 = .ok (.iadd, 1) := dw_43 (pc9 (k := 2656) (j := 30) lDL_83 rfl)
theorem dL_law_2687 : decode cL_law 2687 = .ok (.iaload, 1) := dw_16 (pc9 (k := 2656) (j := 31) lDL_83 rfl)
theorem dL_law_2688 : decode cL_law 2688 = .ok (.invokevirtual 377, 3) := dw_944 (pc9 (k := 2688) (j := 0) lDL_84 rfl)
theorem dL_law_2691 : decode cL_law 2691 = .ok (.istore 7, 2) := dw_58 (pc9 (k := 2688) (j := 3) lDL_84 rfl)
theorem dL_law_2693 : decode cL_law 2693 = .ok (.aload_n 2, 1) := dw_52 (pc9 (k := 2688) (j := 5) lDL_84 rfl)
theorem dL_law_2694 : decode cL_law 2694 = .ok (.invokevirtual 378, 3) := dw_945 (pc9 (k := 2688) (j := 6) lDL_84 rfl)
theorem dL_law_2697 : decode cL_law 2697 = .ok (.iload 6, 2) := dw_36 (pc9 (k := 2688) (j := 9) lDL_84 rfl)
theorem dL_law_2699 : decode cL_law 2699 = .ok (.if_icmp .eq 5, 3) := dw_270 (pc9 (k := 2688) (j := 11) lDL_84 rfl)
theorem dL_law_2702 : decode cL_law 2702 = .ok (.iconst 0, 1) := dw_6 (pc9 (k := 2688) (j := 14) lDL_84 rfl)
theorem dL_law_2703 : decode cL_law 2703 = .ok (.ireturn, 1) := dw_31 (pc9 (k := 2688) (j := 15) lDL_84 rfl)
theorem dL_law_2704 : decode cL_law 2704 = .ok (.iload 6, 2) := dw_36 (pc9 (k := 2688) (j := 16) lDL_84 rfl)
theorem dL_law_2706 : decode cL_law 2706 = .ok (.ifCond .ne 15, 3) := dw_946 (pc9 (k := 2688) (j := 18) lDL_84 rfl)
theorem dL_law_2709 : decode cL_law 2709 = .ok (.aload_n 3, 1) := dw_119 (pc9 (k := 2688) (j := 21) lDL_84 rfl)
theorem dL_law_2710 : decode cL_law 2710 = .ok (.iconst 0, 1) := dw_6 (pc9 (k := 2688) (j := 22) lDL_84 rfl)
theorem dL_law_2711 : decode cL_law 2711 = .ok (.laload, 1) := dw_521 (pc9 (k := 2688) (j := 23) lDL_84 rfl)
theorem dL_law_2712 : decode cL_law 2712 = .ok (.iload 7, 2) := dw_59 (pc9 (k := 2688) (j := 24) lDL_84 rfl)
theorem dL_law_2714 : decode cL_law 2714 = .ok (.i2l, 1) := dw_498 (pc9 (k := 2688) (j := 26) lDL_84 rfl)
theorem dL_law_2715 : decode cL_law 2715 = .ok (.lcmp, 1) := dw_163 (pc9 (k := 2688) (j := 27) lDL_84 rfl)
theorem dL_law_2716 : decode cL_law 2716 = .ok (.ifCond .eq 5, 3) := dw_56 (pc9 (k := 2688) (j := 28) lDL_84 rfl)
theorem dL_law_2719 : decode cL_law 2719 = .ok (.iconst 0, 1) := dw_6 (pc9 (k := 2688) (j := 31) lDL_84 rfl)
theorem dL_law_2720 : decode cL_law 2720 = .ok (.ireturn, 1) := dw_31 (pc9 (k := 2720) (j := 0) lDL_85 rfl)
theorem dL_law_2721 : decode cL_law 2721 = .ok (.goto 31, 3) := dw_947 (pc9 (k := 2720) (j := 1) lDL_85 rfl)
theorem dL_law_2724 : decode cL_law 2724 = .ok (.aload_n 1, 1) := dw_5 (pc9 (k := 2720) (j := 4) lDL_85 rfl)
theorem dL_law_2725 : decode cL_law 2725 = .ok (.aload_n 0, 1) := dw_0 (pc9 (k := 2720) (j := 5) lDL_85 rfl)
theorem dL_law_2726 : decode cL_law 2726 = .ok (.iload 5, 2) := dw_39 (pc9 (k := 2720) (j := 6) lDL_85 rfl)
theorem dL_law_2728 : decode cL_law 2728 = .ok (.iconst 1, 1) := dw_26 (pc9 (k := 2720) (j := 8) lDL_85 rfl)
theorem dL_law_2729 : decode cL_law 2729 = .ok (.iadd, 1) := dw_43 (pc9 (k := 2720) (j := 9) lDL_85 rfl)
theorem dL_law_2730 : decode cL_law 2730 = .ok (.iaload, 1) := dw_16 (pc9 (k := 2720) (j := 10) lDL_85 rfl)
theorem dL_law_2731 : decode cL_law 2731 = .ok (.aload_n 3, 1) := dw_119 (pc9 (k := 2720) (j := 11) lDL_85 rfl)
theorem dL_law_2732 : decode cL_law 2732 = .ok (.invokestatic 381, 3) := dw_948 (pc9 (k := 2720) (j := 12) lDL_85 rfl)
theorem dL_law_2735 : decode cL_law 2735 = .ok (.istore 6, 2) := dw_35 (pc9 (k := 2720) (j := 15) lDL_85 rfl)
theorem dL_law_2737 : decode cL_law 2737 = .ok (.aload_n 2, 1) := dw_52 (pc9 (k := 2720) (j := 17) lDL_85 rfl)
theorem dL_law_2738 : decode cL_law 2738 = .ok (.aload_n 0, 1) := dw_0 (pc9 (k := 2720) (j := 18) lDL_85 rfl)
theorem dL_law_2739 : decode cL_law 2739 = .ok (.iload 5, 2) := dw_39 (pc9 (k := 2720) (j := 19) lDL_85 rfl)
theorem dL_law_2741 : decode cL_law 2741 = .ok (.iconst 1, 1) := dw_26 (pc9 (k := 2720) (j := 21) lDL_85 rfl)
theorem dL_law_2742 : decode cL_law 2742 = .ok (.iadd, 1) := dw_43 (pc9 (k := 2720) (j := 22) lDL_85 rfl)
theorem dL_law_2743 : decode cL_law 2743 = .ok (.iaload, 1) := dw_16 (pc9 (k := 2720) (j := 23) lDL_85 rfl)
theorem dL_law_2744 : decode cL_law 2744 = .ok (.invokevirtual 383, 3) := dw_949 (pc9 (k := 2720) (j := 24) lDL_85 rfl)
theorem dL_law_2747 : decode cL_law 2747 = .ok (.istore 7, 2) := dw_58 (pc9 (k := 2720) (j := 27) lDL_85 rfl)
theorem dL_law_2749 : decode cL_law 2749 = .ok (.goto 3, 3) := dw_950 (pc9 (k := 2720) (j := 29) lDL_85 rfl)
theorem dL_law_2752 : decode cL_law 2752 = .ok (.iinc 5 5, 3) := dw_951 (pc9 (k := 2752) (j := 0) lDL_86 rfl)
theorem dL_law_2755 : decode cL_law 2755 = .ok (.goto (-2727), 3) := dw_952 (pc9 (k := 2752) (j := 3) lDL_86 rfl)
theorem dL_law_2758 : decode cL_law 2758 = .ok (.iconst 1, 1) := dw_26 (pc9 (k := 2752) (j := 6) lDL_86 rfl)
theorem dL_law_2759 : decode cL_law 2759 = .ok (.ireturn, 1) := dw_31 (pc9 (k := 2752) (j := 7) lDL_86 rfl)
