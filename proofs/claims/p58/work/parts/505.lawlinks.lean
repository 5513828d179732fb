abbrev jL_count : Jm := (yL_count, cL_count, 4, (some FieldType.int), [(0, 9, 12, 13)])
abbrev jL_bit : Jm := (yL_bit, cL_bit, 6, (some FieldType.int), [(0, 12, 15, 19)])
abbrev jL_row : Jm := (yL_row, cL_row, 5, (some FieldType.int), [(0, 9, 12, 19)])
abbrev jL_rank : Jm := (yL_rank, cL_rank, 6, (some FieldType.int), [(0, 12, 15, 19), (0, 12, 19, 13)])
abbrev jL_select : Jm := (yL_select, cL_select, 6, (some FieldType.int), [(0, 12, 15, 19)])
abbrev jL_ones : Jm := (yL_ones, cL_ones, 4, (some FieldType.int), [(0, 9, 12, 19)])
abbrev jL_columnOnes : Jm := (yL_columnOnes, cL_columnOnes, 5, (some FieldType.int), [(0, 10, 13, 19)])
abbrev jL_sameAs : Jm := (yL_sameAs, cL_sameAs, 5, (some FieldType.int), [(0, 10, 13, 19)])
abbrev jL_classes : Jm := (yL_classes, cL_classes, 4, (some FieldType.int), [(0, 9, 12, 19)])
abbrev jL_classOf : Jm := (yL_classOf, cL_classOf, 5, (some FieldType.int), [(0, 10, 13, 19)])
abbrev jL_find : Jm := (yL_find, cL_find, 6, (some FieldType.int), [(0, 11, 14, 19)])
abbrev jL_nearest : Jm := (yL_nearest, cL_nearest, 5, (some FieldType.int), [(0, 10, 13, 19)])
abbrev jL_density : Jm := (yL_density, cL_density, 4, (some FieldType.int), [(0, 8, 11, 19)])
abbrev jL_isSymmetric : Jm := (yL_isSymmetric, cL_isSymmetric, 4, (some FieldType.int), [(0, 16, 19, 19)])
abbrev jL_reaches : Jm := (yL_reaches, cL_reaches, 6, (some FieldType.int), [(0, 12, 15, 19)])
abbrev jL_reached : Jm := (yL_reached, cL_reached, 5, (some FieldType.int), [(0, 10, 13, 19)])
abbrev jL_pairs : Jm := (yL_pairs, cL_pairs, 4, (some FieldType.int), [(0, 9, 12, 19)])
abbrev jL_meanReach : Jm := (yL_meanReach, cL_meanReach, 4, (some FieldType.int), [(0, 9, 12, 19)])
abbrev jL_component : Jm := (yL_component, cL_component, 5, (some FieldType.int), [(0, 10, 13, 19)])
abbrev jL_components : Jm := (yL_components, cL_components, 4, (some FieldType.int), [(0, 9, 12, 19)])
abbrev jL_distance : Jm := (yL_distance, cL_distance, 6, (some FieldType.int), [(0, 12, 15, 19)])
abbrev jL_stepAt : Jm := (yL_stepAt, cL_stepAt, 7, (some FieldType.int), [(0, 14, 17, 19)])
abbrev jL_around : Jm := (yL_around, cL_around, 5, (some FieldType.int), [(0, 10, 13, 19)])
abbrev jL_girth : Jm := (yL_girth, cL_girth, 4, (some FieldType.int), [(0, 9, 12, 19)])
abbrev jL_order : Jm := (yL_order, cL_order, 5, (some FieldType.int), [(0, 10, 13, 19)])
abbrev jL_gained : Jm := (yL_gained, cL_gained, 6, (some FieldType.int), [(0, 12, 15, 19)])
abbrev jL_lost : Jm := (yL_lost, cL_lost, 6, (some FieldType.int), [(0, 12, 15, 19)])
abbrev jL_bestEdge : Jm := (yL_bestEdge, cL_bestEdge, 4, (some FieldType.int), [(0, 9, 12, 19)])
abbrev jL_weakest : Jm := (yL_weakest, cL_weakest, 4, (some FieldType.int), [(0, 9, 12, 19)])
abbrev jL_triangles : Jm := (yL_triangles, cL_triangles, 4, (some FieldType.int), [(0, 9, 12, 19)])
abbrev jL_fieldRank : Jm := (yL_fieldRank, cL_fieldRank, 4, (some FieldType.int), [(0, 9, 12, 19)])
abbrev jL_solve : Jm := (yL_solve, cL_solve, 6, (some FieldType.int), [(0, 10, 13, 19)])
abbrev jL_freedom : Jm := (yL_freedom, cL_freedom, 6, (some FieldType.int), [(0, 11, 14, 19)])
abbrev jL_pivot : Jm := (yL_pivot, cL_pivot, 5, (some FieldType.int), [(0, 10, 13, 19)])
abbrev jL_put : Jm := (yL_put, cL_put, 7, (some FieldType.int), [(0, 14, 17, 19)])
abbrev jL_setRow : Jm := (yL_setRow, cL_setRow, 7, (some FieldType.int), [(0, 12, 15, 19)])
abbrev jL_copy : Jm := (yL_copy, cL_copy, 5, (some FieldType.int), [(0, 10, 13, 19)])
abbrev jL_transpose : Jm := (yL_transpose, cL_transpose, 5, (some FieldType.int), [(0, 10, 13, 19)])
abbrev jL_combine : Jm := (yL_combine, cL_combine, 7, (some FieldType.int), [(0, 14, 17, 19), (0, 14, 21, 13)])
abbrev jL_product : Jm := (yL_product, cL_product, 7, (some FieldType.int), [(0, 14, 17, 19)])
abbrev jL_power : Jm := (yL_power, cL_power, 7, (some FieldType.int), [(0, 14, 17, 19), (0, 14, 21, 13)])
abbrev jL_invert : Jm := (yL_invert, cL_invert, 5, (some FieldType.int), [(0, 10, 13, 19)])
abbrev jL_close : Jm := (yL_close, cL_close, 5, (some FieldType.int), [(0, 10, 13, 19)])
abbrev jL_reduce : Jm := (yL_reduce, cL_reduce, 5, (some FieldType.int), [(0, 10, 13, 19)])
abbrev jL_exchange : Jm := (yL_exchange, cL_exchange, 6, (some FieldType.int), [(0, 12, 15, 19)])
abbrev jL_keep : Jm := (yL_keep, cL_keep, 5, (some FieldType.int), [(0, 10, 13, 19)])
abbrev jL_setBlock : Jm := (yL_setBlock, cL_setBlock, 4, (some FieldType.int), [(0, 9, 12, 13)])
abbrev jL_kept : Jm := (yL_kept, cL_kept, 5, (some FieldType.int), [(0, 10, 13, 19), (0, 10, 17, 13)])
abbrev jL_work : Jm := (yL_work, cL_work, 4, (some FieldType.int), [(0, 9, 12, 13)])
abbrev jL_writeRow : Jm := (yL_writeRow, cL_writeRow, 5, (some FieldType.int), [(0, 10, 13, 19)])
abbrev jL_saveSnapshot : Jm := (yL_saveSnapshot, cL_saveSnapshot, 4, (some FieldType.int), [(0, 9, 12, 13)])
abbrev jL_restoreSnapshot : Jm := (yL_restoreSnapshot, cL_restoreSnapshot, 4, (some FieldType.int), [(0, 9, 12, 13)])
abbrev jL_law : Jm := (⟨RL, "law", "([I)Z"⟩, code, maxLocals, ret, [])
theorem wd_539 : (Jvm.Cond.code ({ cls := "BitDesk", name := "count", desc := "(I)I" } : Jvm.MethodName) prog_1_method_6_code (2 : Nat) (Option.some Jvm.ClassFile.FieldType.int)) ∈ WS := ws_c2 205 rfl rfl
theorem wd_536 : (Jvm.Cond.methodLink "BitDeskLaw" (7 : Nat) ({ cls := "BitDesk", name := "count", desc := "(I)I" } : Jvm.MethodName)) ∈ WS := ws_c2 202 rfl rfl
theorem wd_537 : (Jvm.Cond.instanceMethod ({ cls := "BitDesk", name := "count", desc := "(I)I" } : Jvm.MethodName)) ∈ WS := ws_c2 203 rfl rfl
theorem wd_538 : (Jvm.Cond.selects "BitDesk" ({ cls := "BitDesk", name := "count", desc := "(I)I" } : Jvm.MethodName) ({ cls := "BitDesk", name := "count", desc := "(I)I" } : Jvm.MethodName)) ∈ WS := ws_c2 204 rfl rfl
theorem lk_L_7 : LkV RL 7 jX6_count 1 := ⟨⟨wd_536, ⟨rfl, (by rw [cwd_nil rfl]; exact wd_539)⟩, wd_95, ⟨by decide +kernel, by decide +kernel⟩, by decide +kernel⟩, wd_537, wd_538⟩
theorem wd_621 : (Jvm.Cond.code ({ cls := "BitDesk", name := "bit", desc := "(III)I" } : Jvm.MethodName) prog_1_method_7_code (4 : Nat) (Option.some Jvm.ClassFile.FieldType.int)) ∈ WS := ws_c3 47 rfl rfl
theorem wd_618 : (Jvm.Cond.methodLink "BitDeskLaw" (15 : Nat) ({ cls := "BitDesk", name := "bit", desc := "(III)I" } : Jvm.MethodName)) ∈ WS := ws_c3 44 rfl rfl
theorem wd_619 : (Jvm.Cond.instanceMethod ({ cls := "BitDesk", name := "bit", desc := "(III)I" } : Jvm.MethodName)) ∈ WS := ws_c3 45 rfl rfl
theorem wd_620 : (Jvm.Cond.selects "BitDesk" ({ cls := "BitDesk", name := "bit", desc := "(III)I" } : Jvm.MethodName) ({ cls := "BitDesk", name := "bit", desc := "(III)I" } : Jvm.MethodName)) ∈ WS := ws_c3 46 rfl rfl
theorem lk_L_15 : LkV RL 15 jX6_bit 3 := ⟨⟨wd_618, ⟨rfl, (by rw [cwd_nil rfl]; exact wd_621)⟩, wd_95, ⟨by decide +kernel, by decide +kernel⟩, by decide +kernel⟩, wd_619, wd_620⟩
theorem wd_668 : (Jvm.Cond.code ({ cls := "BitDesk", name := "row", desc := "(II)J" } : Jvm.MethodName) prog_1_method_8_code (3 : Nat) (Option.some Jvm.ClassFile.FieldType.long)) ∈ WS := ws_c3 94 rfl rfl
theorem wd_665 : (Jvm.Cond.methodLink "BitDeskLaw" (21 : Nat) ({ cls := "BitDesk", name := "row", desc := "(II)J" } : Jvm.MethodName)) ∈ WS := ws_c3 91 rfl rfl
theorem wd_666 : (Jvm.Cond.instanceMethod ({ cls := "BitDesk", name := "row", desc := "(II)J" } : Jvm.MethodName)) ∈ WS := ws_c3 92 rfl rfl
theorem wd_667 : (Jvm.Cond.selects "BitDesk" ({ cls := "BitDesk", name := "row", desc := "(II)J" } : Jvm.MethodName) ({ cls := "BitDesk", name := "row", desc := "(II)J" } : Jvm.MethodName)) ∈ WS := ws_c3 93 rfl rfl
theorem lk_L_21 : LkV RL 21 jX6_row 2 := ⟨⟨wd_665, ⟨rfl, (by rw [cwd_nil rfl]; exact wd_668)⟩, wd_95, ⟨by decide +kernel, by decide +kernel⟩, by decide +kernel⟩, wd_666, wd_667⟩
theorem wd_679 : (Jvm.Cond.code ({ cls := "BitDesk", name := "rank", desc := "(III)I" } : Jvm.MethodName) prog_1_method_9_code (4 : Nat) (Option.some Jvm.ClassFile.FieldType.int)) ∈ WS := ws_c3 105 rfl rfl
theorem wd_676 : (Jvm.Cond.methodLink "BitDeskLaw" (25 : Nat) ({ cls := "BitDesk", name := "rank", desc := "(III)I" } : Jvm.MethodName)) ∈ WS := ws_c3 102 rfl rfl
theorem wd_677 : (Jvm.Cond.instanceMethod ({ cls := "BitDesk", name := "rank", desc := "(III)I" } : Jvm.MethodName)) ∈ WS := ws_c3 103 rfl rfl
theorem wd_678 : (Jvm.Cond.selects "BitDesk" ({ cls := "BitDesk", name := "rank", desc := "(III)I" } : Jvm.MethodName) ({ cls := "BitDesk", name := "rank", desc := "(III)I" } : Jvm.MethodName)) ∈ WS := ws_c3 104 rfl rfl
theorem lk_L_25 : LkV RL 25 jX6_rank 3 := ⟨⟨wd_676, ⟨rfl, (by rw [cwd_nil rfl]; exact wd_679)⟩, wd_95, ⟨by decide +kernel, by decide +kernel⟩, by decide +kernel⟩, wd_677, wd_678⟩
theorem wd_693 : (Jvm.Cond.code ({ cls := "BitDesk", name := "select", desc := "(III)I" } : Jvm.MethodName) prog_1_method_10_code (4 : Nat) (Option.some Jvm.ClassFile.FieldType.int)) ∈ WS := ws_c3 119 rfl rfl
theorem wd_690 : (Jvm.Cond.methodLink "BitDeskLaw" (28 : Nat) ({ cls := "BitDesk", name := "select", desc := "(III)I" } : Jvm.MethodName)) ∈ WS := ws_c3 116 rfl rfl
theorem wd_691 : (Jvm.Cond.instanceMethod ({ cls := "BitDesk", name := "select", desc := "(III)I" } : Jvm.MethodName)) ∈ WS := ws_c3 117 rfl rfl
theorem wd_692 : (Jvm.Cond.selects "BitDesk" ({ cls := "BitDesk", name := "select", desc := "(III)I" } : Jvm.MethodName) ({ cls := "BitDesk", name := "select", desc := "(III)I" } : Jvm.MethodName)) ∈ WS := ws_c3 118 rfl rfl
theorem lk_L_28 : LkV RL 28 jX6_select 3 := ⟨⟨wd_690, ⟨rfl, (by rw [cwd_nil rfl]; exact wd_693)⟩, wd_95, ⟨by decide +kernel, by decide +kernel⟩, by decide +kernel⟩, wd_691, wd_692⟩
theorem wd_700 : (Jvm.Cond.methodLink "BitDeskLaw" (31 : Nat) ({ cls := "BitDesk", name := "ones", desc := "(I)I" } : Jvm.MethodName)) ∈ WS := ws_c3 126 rfl rfl
theorem lk_L_31 : LkV RL 31 jX6_ones 1 := ⟨⟨wd_700, ⟨rfl, (by rw [cwd_nil rfl]; exact wd_703)⟩, wd_95, ⟨by decide +kernel, by decide +kernel⟩, by decide +kernel⟩, wd_701, wd_702⟩
theorem wd_713 : (Jvm.Cond.code ({ cls := "BitDesk", name := "columnOnes", desc := "(II)I" } : Jvm.MethodName) prog_1_method_12_code (3 : Nat) (Option.some Jvm.ClassFile.FieldType.int)) ∈ WS := ws_c3 139 rfl rfl
theorem wd_710 : (Jvm.Cond.methodLink "BitDeskLaw" (34 : Nat) ({ cls := "BitDesk", name := "columnOnes", desc := "(II)I" } : Jvm.MethodName)) ∈ WS := ws_c3 136 rfl rfl
theorem wd_711 : (Jvm.Cond.instanceMethod ({ cls := "BitDesk", name := "columnOnes", desc := "(II)I" } : Jvm.MethodName)) ∈ WS := ws_c3 137 rfl rfl
theorem wd_712 : (Jvm.Cond.selects "BitDesk" ({ cls := "BitDesk", name := "columnOnes", desc := "(II)I" } : Jvm.MethodName) ({ cls := "BitDesk", name := "columnOnes", desc := "(II)I" } : Jvm.MethodName)) ∈ WS := ws_c3 138 rfl rfl
theorem lk_L_34 : LkV RL 34 jX6_columnOnes 2 := ⟨⟨wd_710, ⟨rfl, (by rw [cwd_nil rfl]; exact wd_713)⟩, wd_95, ⟨by decide +kernel, by decide +kernel⟩, by decide +kernel⟩, wd_711, wd_712⟩
theorem wd_723 : (Jvm.Cond.code ({ cls := "BitDesk", name := "sameAs", desc := "(II)I" } : Jvm.MethodName) prog_1_method_13_code (3 : Nat) (Option.some Jvm.ClassFile.FieldType.int)) ∈ WS := ws_c3 149 rfl rfl
theorem wd_720 : (Jvm.Cond.methodLink "BitDeskLaw" (38 : Nat) ({ cls := "BitDesk", name := "sameAs", desc := "(II)I" } : Jvm.MethodName)) ∈ WS := ws_c3 146 rfl rfl
theorem wd_721 : (Jvm.Cond.instanceMethod ({ cls := "BitDesk", name := "sameAs", desc := "(II)I" } : Jvm.MethodName)) ∈ WS := ws_c3 147 rfl rfl
theorem wd_722 : (Jvm.Cond.selects "BitDesk" ({ cls := "BitDesk", name := "sameAs", desc := "(II)I" } : Jvm.MethodName) ({ cls := "BitDesk", name := "sameAs", desc := "(II)I" } : Jvm.MethodName)) ∈ WS := ws_c3 148 rfl rfl
theorem lk_L_38 : LkV RL 38 jX6_sameAs 2 := ⟨⟨wd_720, ⟨rfl, (by rw [cwd_nil rfl]; exact wd_723)⟩, wd_95, ⟨by decide +kernel, by decide +kernel⟩, by decide +kernel⟩, wd_721, wd_722⟩
theorem wd_734 : (Jvm.Cond.code ({ cls := "BitDesk", name := "classes", desc := "(I)I" } : Jvm.MethodName) prog_1_method_14_code (2 : Nat) (Option.some Jvm.ClassFile.FieldType.int)) ∈ WS := ws_c3 160 rfl rfl
theorem wd_731 : (Jvm.Cond.methodLink "BitDeskLaw" (41 : Nat) ({ cls := "BitDesk", name := "classes", desc := "(I)I" } : Jvm.MethodName)) ∈ WS := ws_c3 157 rfl rfl
theorem wd_732 : (Jvm.Cond.instanceMethod ({ cls := "BitDesk", name := "classes", desc := "(I)I" } : Jvm.MethodName)) ∈ WS := ws_c3 158 rfl rfl
theorem wd_733 : (Jvm.Cond.selects "BitDesk" ({ cls := "BitDesk", name := "classes", desc := "(I)I" } : Jvm.MethodName) ({ cls := "BitDesk", name := "classes", desc := "(I)I" } : Jvm.MethodName)) ∈ WS := ws_c3 159 rfl rfl
theorem lk_L_41 : LkV RL 41 jX6_classes 1 := ⟨⟨wd_731, ⟨rfl, (by rw [cwd_nil rfl]; exact wd_734)⟩, wd_95, ⟨by decide +kernel, by decide +kernel⟩, by decide +kernel⟩, wd_732, wd_733⟩
theorem wd_745 : (Jvm.Cond.code ({ cls := "BitDesk", name := "classOf", desc := "(II)I" } : Jvm.MethodName) prog_1_method_15_code (4 : Nat) (Option.some Jvm.ClassFile.FieldType.int)) ∈ WS := ws_c3 171 rfl rfl
theorem wd_742 : (Jvm.Cond.methodLink "BitDeskLaw" (44 : Nat) ({ cls := "BitDesk", name := "classOf", desc := "(II)I" } : Jvm.MethodName)) ∈ WS := ws_c3 168 rfl rfl
theorem wd_743 : (Jvm.Cond.instanceMethod ({ cls := "BitDesk", name := "classOf", desc := "(II)I" } : Jvm.MethodName)) ∈ WS := ws_c3 169 rfl rfl
theorem wd_744 : (Jvm.Cond.selects "BitDesk" ({ cls := "BitDesk", name := "classOf", desc := "(II)I" } : Jvm.MethodName) ({ cls := "BitDesk", name := "classOf", desc := "(II)I" } : Jvm.MethodName)) ∈ WS := ws_c3 170 rfl rfl
theorem lk_L_44 : LkV RL 44 jX6_classOf 2 := ⟨⟨wd_742, ⟨rfl, (by rw [cwd_nil rfl]; exact wd_745)⟩, wd_95, ⟨by decide +kernel, by decide +kernel⟩, by decide +kernel⟩, wd_743, wd_744⟩
theorem wd_752 : (Jvm.Cond.code ({ cls := "BitDesk", name := "find", desc := "(IJ)I" } : Jvm.MethodName) prog_1_method_16_code (4 : Nat) (Option.some Jvm.ClassFile.FieldType.int)) ∈ WS := ws_c3 178 rfl rfl
theorem wd_749 : (Jvm.Cond.methodLink "BitDeskLaw" (47 : Nat) ({ cls := "BitDesk", name := "find", desc := "(IJ)I" } : Jvm.MethodName)) ∈ WS := ws_c3 175 rfl rfl
theorem wd_750 : (Jvm.Cond.instanceMethod ({ cls := "BitDesk", name := "find", desc := "(IJ)I" } : Jvm.MethodName)) ∈ WS := ws_c3 176 rfl rfl
theorem wd_751 : (Jvm.Cond.selects "BitDesk" ({ cls := "BitDesk", name := "find", desc := "(IJ)I" } : Jvm.MethodName) ({ cls := "BitDesk", name := "find", desc := "(IJ)I" } : Jvm.MethodName)) ∈ WS := ws_c3 177 rfl rfl
theorem lk_L_47 : LkV RL 47 jX6_find 2 := ⟨⟨wd_749, ⟨rfl, (by rw [cwd_nil rfl]; exact wd_752)⟩, wd_95, ⟨by decide +kernel, by decide +kernel⟩, by decide +kernel⟩, wd_750, wd_751⟩
theorem wd_759 : (Jvm.Cond.code ({ cls := "BitDesk", name := "nearest", desc := "(II)I" } : Jvm.MethodName) prog_1_method_17_code (8 : Nat) (Option.some Jvm.ClassFile.FieldType.int)) ∈ WS := ws_c3 185 rfl rfl
theorem wd_756 : (Jvm.Cond.methodLink "BitDeskLaw" (51 : Nat) ({ cls := "BitDesk", name := "nearest", desc := "(II)I" } : Jvm.MethodName)) ∈ WS := ws_c3 182 rfl rfl
theorem wd_757 : (Jvm.Cond.instanceMethod ({ cls := "BitDesk", name := "nearest", desc := "(II)I" } : Jvm.MethodName)) ∈ WS := ws_c3 183 rfl rfl
theorem wd_758 : (Jvm.Cond.selects "BitDesk" ({ cls := "BitDesk", name := "nearest", desc := "(II)I" } : Jvm.MethodName) ({ cls := "BitDesk", name := "nearest", desc := "(II)I" } : Jvm.MethodName)) ∈ WS := ws_c3 184 rfl rfl
theorem lk_L_51 : LkV RL 51 jX6_nearest 2 := ⟨⟨wd_756, ⟨rfl, (by rw [cwd_nil rfl]; exact wd_759)⟩, wd_95, ⟨by decide +kernel, by decide +kernel⟩, by decide +kernel⟩, wd_757, wd_758⟩
theorem wd_766 : (Jvm.Cond.code ({ cls := "BitDesk", name := "density", desc := "(I)D" } : Jvm.MethodName) prog_1_method_18_code (2 : Nat) (Option.some Jvm.ClassFile.FieldType.double)) ∈ WS := ws_c3 192 rfl rfl
theorem wd_763 : (Jvm.Cond.methodLink "BitDeskLaw" (54 : Nat) ({ cls := "BitDesk", name := "density", desc := "(I)D" } : Jvm.MethodName)) ∈ WS := ws_c3 189 rfl rfl
theorem wd_764 : (Jvm.Cond.instanceMethod ({ cls := "BitDesk", name := "density", desc := "(I)D" } : Jvm.MethodName)) ∈ WS := ws_c3 190 rfl rfl
theorem wd_765 : (Jvm.Cond.selects "BitDesk" ({ cls := "BitDesk", name := "density", desc := "(I)D" } : Jvm.MethodName) ({ cls := "BitDesk", name := "density", desc := "(I)D" } : Jvm.MethodName)) ∈ WS := ws_c3 191 rfl rfl
theorem lk_L_54 : LkV RL 54 jX6_density 1 := ⟨⟨wd_763, ⟨rfl, (by rw [cwd_nil rfl]; exact wd_766)⟩, wd_95, ⟨by decide +kernel, by decide +kernel⟩, by decide +kernel⟩, wd_764, wd_765⟩
theorem wd_774 : (Jvm.Cond.code ({ cls := "BitDesk", name := "isSymmetric", desc := "(I)Z" } : Jvm.MethodName) prog_1_method_19_code (4 : Nat) (Option.some Jvm.ClassFile.FieldType.boolean)) ∈ WS := ws_c3 200 rfl rfl
theorem wd_771 : (Jvm.Cond.methodLink "BitDeskLaw" (58 : Nat) ({ cls := "BitDesk", name := "isSymmetric", desc := "(I)Z" } : Jvm.MethodName)) ∈ WS := ws_c3 197 rfl rfl
theorem wd_772 : (Jvm.Cond.instanceMethod ({ cls := "BitDesk", name := "isSymmetric", desc := "(I)Z" } : Jvm.MethodName)) ∈ WS := ws_c3 198 rfl rfl
theorem wd_773 : (Jvm.Cond.selects "BitDesk" ({ cls := "BitDesk", name := "isSymmetric", desc := "(I)Z" } : Jvm.MethodName) ({ cls := "BitDesk", name := "isSymmetric", desc := "(I)Z" } : Jvm.MethodName)) ∈ WS := ws_c3 199 rfl rfl
theorem lk_L_58 : LkV RL 58 jX6_isSymmetric 1 := ⟨⟨wd_771, ⟨rfl, (by rw [cwd_nil rfl]; exact wd_774)⟩, wd_95, ⟨by decide +kernel, by decide +kernel⟩, by decide +kernel⟩, wd_772, wd_773⟩
theorem wd_781 : (Jvm.Cond.code ({ cls := "BitDesk", name := "reaches", desc := "(III)I" } : Jvm.MethodName) prog_1_method_20_code (4 : Nat) (Option.some Jvm.ClassFile.FieldType.int)) ∈ WS := ws_c3 207 rfl rfl
theorem wd_778 : (Jvm.Cond.methodLink "BitDeskLaw" (62 : Nat) ({ cls := "BitDesk", name := "reaches", desc := "(III)I" } : Jvm.MethodName)) ∈ WS := ws_c3 204 rfl rfl
theorem wd_779 : (Jvm.Cond.instanceMethod ({ cls := "BitDesk", name := "reaches", desc := "(III)I" } : Jvm.MethodName)) ∈ WS := ws_c3 205 rfl rfl
theorem wd_780 : (Jvm.Cond.selects "BitDesk" ({ cls := "BitDesk", name := "reaches", desc := "(III)I" } : Jvm.MethodName) ({ cls := "BitDesk", name := "reaches", desc := "(III)I" } : Jvm.MethodName)) ∈ WS := ws_c3 206 rfl rfl
theorem lk_L_62 : LkV RL 62 jX6_reaches 3 := ⟨⟨wd_778, ⟨rfl, (by rw [cwd_nil rfl]; exact wd_781)⟩, wd_95, ⟨by decide +kernel, by decide +kernel⟩, by decide +kernel⟩, wd_779, wd_780⟩
theorem wd_798 : (Jvm.Cond.code ({ cls := "BitDesk", name := "reached", desc := "(II)I" } : Jvm.MethodName) prog_1_method_21_code (3 : Nat) (Option.some Jvm.ClassFile.FieldType.int)) ∈ WS := ws_c3 224 rfl rfl
theorem wd_795 : (Jvm.Cond.methodLink "BitDeskLaw" (65 : Nat) ({ cls := "BitDesk", name := "reached", desc := "(II)I" } : Jvm.MethodName)) ∈ WS := ws_c3 221 rfl rfl
theorem wd_796 : (Jvm.Cond.instanceMethod ({ cls := "BitDesk", name := "reached", desc := "(II)I" } : Jvm.MethodName)) ∈ WS := ws_c3 222 rfl rfl
theorem wd_797 : (Jvm.Cond.selects "BitDesk" ({ cls := "BitDesk", name := "reached", desc := "(II)I" } : Jvm.MethodName) ({ cls := "BitDesk", name := "reached", desc := "(II)I" } : Jvm.MethodName)) ∈ WS := ws_c3 223 rfl rfl
theorem lk_L_65 : LkV RL 65 jX6_reached 2 := ⟨⟨wd_795, ⟨rfl, (by rw [cwd_nil rfl]; exact wd_798)⟩, wd_95, ⟨by decide +kernel, by decide +kernel⟩, by decide +kernel⟩, wd_796, wd_797⟩
theorem wd_802 : (Jvm.Cond.methodLink "BitDeskLaw" (68 : Nat) ({ cls := "BitDesk", name := "pairs", desc := "(I)I" } : Jvm.MethodName)) ∈ WS := ws_c3 228 rfl rfl
theorem lk_L_68 : LkV RL 68 jX6_pairs 1 := ⟨⟨wd_802, ⟨rfl, (by rw [cwd_nil rfl]; exact wd_805)⟩, wd_95, ⟨by decide +kernel, by decide +kernel⟩, by decide +kernel⟩, wd_803, wd_804⟩
theorem wd_812 : (Jvm.Cond.code ({ cls := "BitDesk", name := "meanReach", desc := "(I)F" } : Jvm.MethodName) prog_1_method_23_code (2 : Nat) (Option.some Jvm.ClassFile.FieldType.float)) ∈ WS := ws_c3 238 rfl rfl
theorem wd_809 : (Jvm.Cond.methodLink "BitDeskLaw" (71 : Nat) ({ cls := "BitDesk", name := "meanReach", desc := "(I)F" } : Jvm.MethodName)) ∈ WS := ws_c3 235 rfl rfl
theorem wd_810 : (Jvm.Cond.instanceMethod ({ cls := "BitDesk", name := "meanReach", desc := "(I)F" } : Jvm.MethodName)) ∈ WS := ws_c3 236 rfl rfl
theorem wd_811 : (Jvm.Cond.selects "BitDesk" ({ cls := "BitDesk", name := "meanReach", desc := "(I)F" } : Jvm.MethodName) ({ cls := "BitDesk", name := "meanReach", desc := "(I)F" } : Jvm.MethodName)) ∈ WS := ws_c3 237 rfl rfl
theorem lk_L_71 : LkV RL 71 jX6_meanReach 1 := ⟨⟨wd_809, ⟨rfl, (by rw [cwd_nil rfl]; exact wd_812)⟩, wd_95, ⟨by decide +kernel, by decide +kernel⟩, by decide +kernel⟩, wd_810, wd_811⟩
theorem wd_820 : (Jvm.Cond.code ({ cls := "BitDesk", name := "component", desc := "(II)I" } : Jvm.MethodName) prog_1_method_24_code (3 : Nat) (Option.some Jvm.ClassFile.FieldType.int)) ∈ WS := ws_c4 6 rfl rfl
theorem wd_817 : (Jvm.Cond.methodLink "BitDeskLaw" (75 : Nat) ({ cls := "BitDesk", name := "component", desc := "(II)I" } : Jvm.MethodName)) ∈ WS := ws_c4 3 rfl rfl
theorem wd_818 : (Jvm.Cond.instanceMethod ({ cls := "BitDesk", name := "component", desc := "(II)I" } : Jvm.MethodName)) ∈ WS := ws_c4 4 rfl rfl
theorem wd_819 : (Jvm.Cond.selects "BitDesk" ({ cls := "BitDesk", name := "component", desc := "(II)I" } : Jvm.MethodName) ({ cls := "BitDesk", name := "component", desc := "(II)I" } : Jvm.MethodName)) ∈ WS := ws_c4 5 rfl rfl
theorem lk_L_75 : LkV RL 75 jX6_component 2 := ⟨⟨wd_817, ⟨rfl, (by rw [cwd_nil rfl]; exact wd_820)⟩, wd_95, ⟨by decide +kernel, by decide +kernel⟩, by decide +kernel⟩, wd_818, wd_819⟩
theorem wd_835 : (Jvm.Cond.code ({ cls := "BitDesk", name := "components", desc := "(I)I" } : Jvm.MethodName) prog_1_method_25_code (5 : Nat) (Option.some Jvm.ClassFile.FieldType.int)) ∈ WS := ws_c4 21 rfl rfl
theorem wd_832 : (Jvm.Cond.methodLink "BitDeskLaw" (78 : Nat) ({ cls := "BitDesk", name := "components", desc := "(I)I" } : Jvm.MethodName)) ∈ WS := ws_c4 18 rfl rfl
theorem wd_833 : (Jvm.Cond.instanceMethod ({ cls := "BitDesk", name := "components", desc := "(I)I" } : Jvm.MethodName)) ∈ WS := ws_c4 19 rfl rfl
theorem wd_834 : (Jvm.Cond.selects "BitDesk" ({ cls := "BitDesk", name := "components", desc := "(I)I" } : Jvm.MethodName) ({ cls := "BitDesk", name := "components", desc := "(I)I" } : Jvm.MethodName)) ∈ WS := ws_c4 20 rfl rfl
theorem lk_L_78 : LkV RL 78 jX6_components 1 := ⟨⟨wd_832, ⟨rfl, (by rw [cwd_nil rfl]; exact wd_835)⟩, wd_95, ⟨by decide +kernel, by decide +kernel⟩, by decide +kernel⟩, wd_833, wd_834⟩
theorem wd_839 : (Jvm.Cond.methodLink "BitDeskLaw" (81 : Nat) ({ cls := "BitDesk", name := "distance", desc := "(III)I" } : Jvm.MethodName)) ∈ WS := ws_c4 25 rfl rfl
theorem lk_L_81 : LkV RL 81 jX6_distance 3 := ⟨⟨wd_839, ⟨rfl, (by rw [cwd_nil rfl]; exact wd_842)⟩, wd_95, ⟨by decide +kernel, by decide +kernel⟩, by decide +kernel⟩, wd_840, wd_841⟩
theorem wd_857 : (Jvm.Cond.code ({ cls := "BitDesk", name := "stepAt", desc := "(IIII)I" } : Jvm.MethodName) prog_1_method_27_code (9 : Nat) (Option.some Jvm.ClassFile.FieldType.int)) ∈ WS := ws_c4 43 rfl rfl
theorem wd_854 : (Jvm.Cond.methodLink "BitDeskLaw" (84 : Nat) ({ cls := "BitDesk", name := "stepAt", desc := "(IIII)I" } : Jvm.MethodName)) ∈ WS := ws_c4 40 rfl rfl
theorem wd_855 : (Jvm.Cond.instanceMethod ({ cls := "BitDesk", name := "stepAt", desc := "(IIII)I" } : Jvm.MethodName)) ∈ WS := ws_c4 41 rfl rfl
theorem wd_856 : (Jvm.Cond.selects "BitDesk" ({ cls := "BitDesk", name := "stepAt", desc := "(IIII)I" } : Jvm.MethodName) ({ cls := "BitDesk", name := "stepAt", desc := "(IIII)I" } : Jvm.MethodName)) ∈ WS := ws_c4 42 rfl rfl
theorem lk_L_84 : LkV RL 84 jX6_stepAt 4 := ⟨⟨wd_854, ⟨rfl, (by rw [cwd_nil rfl]; exact wd_857)⟩, wd_95, ⟨by decide +kernel, by decide +kernel⟩, by decide +kernel⟩, wd_855, wd_856⟩
theorem wd_870 : (Jvm.Cond.code ({ cls := "BitDesk", name := "around", desc := "(II)I" } : Jvm.MethodName) prog_1_method_28_code (3 : Nat) (Option.some Jvm.ClassFile.FieldType.int)) ∈ WS := ws_c4 56 rfl rfl
theorem wd_867 : (Jvm.Cond.methodLink "BitDeskLaw" (88 : Nat) ({ cls := "BitDesk", name := "around", desc := "(II)I" } : Jvm.MethodName)) ∈ WS := ws_c4 53 rfl rfl
theorem wd_868 : (Jvm.Cond.instanceMethod ({ cls := "BitDesk", name := "around", desc := "(II)I" } : Jvm.MethodName)) ∈ WS := ws_c4 54 rfl rfl
theorem wd_869 : (Jvm.Cond.selects "BitDesk" ({ cls := "BitDesk", name := "around", desc := "(II)I" } : Jvm.MethodName) ({ cls := "BitDesk", name := "around", desc := "(II)I" } : Jvm.MethodName)) ∈ WS := ws_c4 55 rfl rfl
theorem lk_L_88 : LkV RL 88 jX6_around 2 := ⟨⟨wd_867, ⟨rfl, (by rw [cwd_nil rfl]; exact wd_870)⟩, wd_95, ⟨by decide +kernel, by decide +kernel⟩, by decide +kernel⟩, wd_868, wd_869⟩
theorem wd_877 : (Jvm.Cond.code ({ cls := "BitDesk", name := "girth", desc := "(I)I" } : Jvm.MethodName) prog_1_method_29_code (5 : Nat) (Option.some Jvm.ClassFile.FieldType.int)) ∈ WS := ws_c4 63 rfl rfl
theorem wd_874 : (Jvm.Cond.methodLink "BitDeskLaw" (91 : Nat) ({ cls := "BitDesk", name := "girth", desc := "(I)I" } : Jvm.MethodName)) ∈ WS := ws_c4 60 rfl rfl
theorem wd_875 : (Jvm.Cond.instanceMethod ({ cls := "BitDesk", name := "girth", desc := "(I)I" } : Jvm.MethodName)) ∈ WS := ws_c4 61 rfl rfl
theorem wd_876 : (Jvm.Cond.selects "BitDesk" ({ cls := "BitDesk", name := "girth", desc := "(I)I" } : Jvm.MethodName) ({ cls := "BitDesk", name := "girth", desc := "(I)I" } : Jvm.MethodName)) ∈ WS := ws_c4 62 rfl rfl
theorem lk_L_91 : LkV RL 91 jX6_girth 1 := ⟨⟨wd_874, ⟨rfl, (by rw [cwd_nil rfl]; exact wd_877)⟩, wd_95, ⟨by decide +kernel, by decide +kernel⟩, by decide +kernel⟩, wd_875, wd_876⟩
theorem wd_884 : (Jvm.Cond.code ({ cls := "BitDesk", name := "order", desc := "(II)I" } : Jvm.MethodName) prog_1_method_30_code (7 : Nat) (Option.some Jvm.ClassFile.FieldType.int)) ∈ WS := ws_c4 70 rfl rfl
theorem wd_881 : (Jvm.Cond.methodLink "BitDeskLaw" (94 : Nat) ({ cls := "BitDesk", name := "order", desc := "(II)I" } : Jvm.MethodName)) ∈ WS := ws_c4 67 rfl rfl
theorem wd_882 : (Jvm.Cond.instanceMethod ({ cls := "BitDesk", name := "order", desc := "(II)I" } : Jvm.MethodName)) ∈ WS := ws_c4 68 rfl rfl
theorem wd_883 : (Jvm.Cond.selects "BitDesk" ({ cls := "BitDesk", name := "order", desc := "(II)I" } : Jvm.MethodName) ({ cls := "BitDesk", name := "order", desc := "(II)I" } : Jvm.MethodName)) ∈ WS := ws_c4 69 rfl rfl
theorem lk_L_94 : LkV RL 94 jX6_order 2 := ⟨⟨wd_881, ⟨rfl, (by rw [cwd_nil rfl]; exact wd_884)⟩, wd_95, ⟨by decide +kernel, by decide +kernel⟩, by decide +kernel⟩, wd_882, wd_883⟩
theorem wd_891 : (Jvm.Cond.code ({ cls := "BitDesk", name := "gained", desc := "(III)I" } : Jvm.MethodName) prog_1_method_31_code (5 : Nat) (Option.some Jvm.ClassFile.FieldType.int)) ∈ WS := ws_c4 77 rfl rfl
theorem wd_888 : (Jvm.Cond.methodLink "BitDeskLaw" (97 : Nat) ({ cls := "BitDesk", name := "gained", desc := "(III)I" } : Jvm.MethodName)) ∈ WS := ws_c4 74 rfl rfl
theorem wd_889 : (Jvm.Cond.instanceMethod ({ cls := "BitDesk", name := "gained", desc := "(III)I" } : Jvm.MethodName)) ∈ WS := ws_c4 75 rfl rfl
theorem wd_890 : (Jvm.Cond.selects "BitDesk" ({ cls := "BitDesk", name := "gained", desc := "(III)I" } : Jvm.MethodName) ({ cls := "BitDesk", name := "gained", desc := "(III)I" } : Jvm.MethodName)) ∈ WS := ws_c4 76 rfl rfl
theorem lk_L_97 : LkV RL 97 jX6_gained 3 := ⟨⟨wd_888, ⟨rfl, (by rw [cwd_nil rfl]; exact wd_891)⟩, wd_95, ⟨by decide +kernel, by decide +kernel⟩, by decide +kernel⟩, wd_889, wd_890⟩
theorem wd_907 : (Jvm.Cond.code ({ cls := "BitDesk", name := "lost", desc := "(III)I" } : Jvm.MethodName) prog_1_method_32_code (4 : Nat) (Option.some Jvm.ClassFile.FieldType.int)) ∈ WS := ws_c4 93 rfl rfl
theorem wd_904 : (Jvm.Cond.methodLink "BitDeskLaw" (100 : Nat) ({ cls := "BitDesk", name := "lost", desc := "(III)I" } : Jvm.MethodName)) ∈ WS := ws_c4 90 rfl rfl
theorem wd_905 : (Jvm.Cond.instanceMethod ({ cls := "BitDesk", name := "lost", desc := "(III)I" } : Jvm.MethodName)) ∈ WS := ws_c4 91 rfl rfl
theorem wd_906 : (Jvm.Cond.selects "BitDesk" ({ cls := "BitDesk", name := "lost", desc := "(III)I" } : Jvm.MethodName) ({ cls := "BitDesk", name := "lost", desc := "(III)I" } : Jvm.MethodName)) ∈ WS := ws_c4 92 rfl rfl
theorem lk_L_100 : LkV RL 100 jX6_lost 3 := ⟨⟨wd_904, ⟨rfl, (by rw [cwd_nil rfl]; exact wd_907)⟩, wd_95, ⟨by decide +kernel, by decide +kernel⟩, by decide +kernel⟩, wd_905, wd_906⟩
theorem wd_927 : (Jvm.Cond.code ({ cls := "BitDesk", name := "bestEdge", desc := "(I)I" } : Jvm.MethodName) prog_1_method_33_code (10 : Nat) (Option.some Jvm.ClassFile.FieldType.int)) ∈ WS := ws_c4 113 rfl rfl
theorem wd_924 : (Jvm.Cond.methodLink "BitDeskLaw" (103 : Nat) ({ cls := "BitDesk", name := "bestEdge", desc := "(I)I" } : Jvm.MethodName)) ∈ WS := ws_c4 110 rfl rfl
theorem wd_925 : (Jvm.Cond.instanceMethod ({ cls := "BitDesk", name := "bestEdge", desc := "(I)I" } : Jvm.MethodName)) ∈ WS := ws_c4 111 rfl rfl
theorem wd_926 : (Jvm.Cond.selects "BitDesk" ({ cls := "BitDesk", name := "bestEdge", desc := "(I)I" } : Jvm.MethodName) ({ cls := "BitDesk", name := "bestEdge", desc := "(I)I" } : Jvm.MethodName)) ∈ WS := ws_c4 112 rfl rfl
theorem lk_L_103 : LkV RL 103 jX6_bestEdge 1 := ⟨⟨wd_924, ⟨rfl, (by rw [cwd_nil rfl]; exact wd_927)⟩, wd_95, ⟨by decide +kernel, by decide +kernel⟩, by decide +kernel⟩, wd_925, wd_926⟩
theorem wd_937 : (Jvm.Cond.code ({ cls := "BitDesk", name := "weakest", desc := "(I)I" } : Jvm.MethodName) prog_1_method_34_code (8 : Nat) (Option.some Jvm.ClassFile.FieldType.int)) ∈ WS := ws_c4 123 rfl rfl
theorem wd_934 : (Jvm.Cond.methodLink "BitDeskLaw" (106 : Nat) ({ cls := "BitDesk", name := "weakest", desc := "(I)I" } : Jvm.MethodName)) ∈ WS := ws_c4 120 rfl rfl
theorem wd_935 : (Jvm.Cond.instanceMethod ({ cls := "BitDesk", name := "weakest", desc := "(I)I" } : Jvm.MethodName)) ∈ WS := ws_c4 121 rfl rfl
theorem wd_936 : (Jvm.Cond.selects "BitDesk" ({ cls := "BitDesk", name := "weakest", desc := "(I)I" } : Jvm.MethodName) ({ cls := "BitDesk", name := "weakest", desc := "(I)I" } : Jvm.MethodName)) ∈ WS := ws_c4 122 rfl rfl
theorem lk_L_106 : LkV RL 106 jX6_weakest 1 := ⟨⟨wd_934, ⟨rfl, (by rw [cwd_nil rfl]; exact wd_937)⟩, wd_95, ⟨by decide +kernel, by decide +kernel⟩, by decide +kernel⟩, wd_935, wd_936⟩
theorem wd_944 : (Jvm.Cond.code ({ cls := "BitDesk", name := "triangles", desc := "(I)I" } : Jvm.MethodName) prog_1_method_35_code (7 : Nat) (Option.some Jvm.ClassFile.FieldType.int)) ∈ WS := ws_c4 130 rfl rfl
theorem wd_941 : (Jvm.Cond.methodLink "BitDeskLaw" (109 : Nat) ({ cls := "BitDesk", name := "triangles", desc := "(I)I" } : Jvm.MethodName)) ∈ WS := ws_c4 127 rfl rfl
theorem wd_942 : (Jvm.Cond.instanceMethod ({ cls := "BitDesk", name := "triangles", desc := "(I)I" } : Jvm.MethodName)) ∈ WS := ws_c4 128 rfl rfl
theorem wd_943 : (Jvm.Cond.selects "BitDesk" ({ cls := "BitDesk", name := "triangles", desc := "(I)I" } : Jvm.MethodName) ({ cls := "BitDesk", name := "triangles", desc := "(I)I" } : Jvm.MethodName)) ∈ WS := ws_c4 129 rfl rfl
theorem lk_L_109 : LkV RL 109 jX6_triangles 1 := ⟨⟨wd_941, ⟨rfl, (by rw [cwd_nil rfl]; exact wd_944)⟩, wd_95, ⟨by decide +kernel, by decide +kernel⟩, by decide +kernel⟩, wd_942, wd_943⟩
theorem wd_951 : (Jvm.Cond.code ({ cls := "BitDesk", name := "fieldRank", desc := "(I)I" } : Jvm.MethodName) prog_1_method_36_code (2 : Nat) (Option.some Jvm.ClassFile.FieldType.int)) ∈ WS := ws_c4 137 rfl rfl
theorem wd_948 : (Jvm.Cond.methodLink "BitDeskLaw" (112 : Nat) ({ cls := "BitDesk", name := "fieldRank", desc := "(I)I" } : Jvm.MethodName)) ∈ WS := ws_c4 134 rfl rfl
theorem wd_949 : (Jvm.Cond.instanceMethod ({ cls := "BitDesk", name := "fieldRank", desc := "(I)I" } : Jvm.MethodName)) ∈ WS := ws_c4 135 rfl rfl
theorem wd_950 : (Jvm.Cond.selects "BitDesk" ({ cls := "BitDesk", name := "fieldRank", desc := "(I)I" } : Jvm.MethodName) ({ cls := "BitDesk", name := "fieldRank", desc := "(I)I" } : Jvm.MethodName)) ∈ WS := ws_c4 136 rfl rfl
theorem lk_L_112 : LkV RL 112 jX6_fieldRank 1 := ⟨⟨wd_948, ⟨rfl, (by rw [cwd_nil rfl]; exact wd_951)⟩, wd_95, ⟨by decide +kernel, by decide +kernel⟩, by decide +kernel⟩, wd_949, wd_950⟩
theorem wd_980 : (Jvm.Cond.code ({ cls := "BitDesk", name := "solve", desc := "(IJ)J" } : Jvm.MethodName) prog_1_method_37_code (4 : Nat) (Option.some Jvm.ClassFile.FieldType.long)) ∈ WS := ws_c4 166 rfl rfl
theorem wd_977 : (Jvm.Cond.methodLink "BitDeskLaw" (115 : Nat) ({ cls := "BitDesk", name := "solve", desc := "(IJ)J" } : Jvm.MethodName)) ∈ WS := ws_c4 163 rfl rfl
theorem wd_978 : (Jvm.Cond.instanceMethod ({ cls := "BitDesk", name := "solve", desc := "(IJ)J" } : Jvm.MethodName)) ∈ WS := ws_c4 164 rfl rfl
theorem wd_979 : (Jvm.Cond.selects "BitDesk" ({ cls := "BitDesk", name := "solve", desc := "(IJ)J" } : Jvm.MethodName) ({ cls := "BitDesk", name := "solve", desc := "(IJ)J" } : Jvm.MethodName)) ∈ WS := ws_c4 165 rfl rfl
theorem lk_L_115 : LkV RL 115 jX6_solve 2 := ⟨⟨wd_977, ⟨rfl, (by rw [cwd_nil rfl]; exact wd_980)⟩, wd_95, ⟨by decide +kernel, by decide +kernel⟩, by decide +kernel⟩, wd_978, wd_979⟩
theorem wd_996 : (Jvm.Cond.code ({ cls := "BitDesk", name := "freedom", desc := "(IJ)I" } : Jvm.MethodName) prog_1_method_38_code (4 : Nat) (Option.some Jvm.ClassFile.FieldType.int)) ∈ WS := ws_c4 182 rfl rfl
theorem wd_993 : (Jvm.Cond.methodLink "BitDeskLaw" (119 : Nat) ({ cls := "BitDesk", name := "freedom", desc := "(IJ)I" } : Jvm.MethodName)) ∈ WS := ws_c4 179 rfl rfl
theorem wd_994 : (Jvm.Cond.instanceMethod ({ cls := "BitDesk", name := "freedom", desc := "(IJ)I" } : Jvm.MethodName)) ∈ WS := ws_c4 180 rfl rfl
theorem wd_995 : (Jvm.Cond.selects "BitDesk" ({ cls := "BitDesk", name := "freedom", desc := "(IJ)I" } : Jvm.MethodName) ({ cls := "BitDesk", name := "freedom", desc := "(IJ)I" } : Jvm.MethodName)) ∈ WS := ws_c4 181 rfl rfl
theorem lk_L_119 : LkV RL 119 jX6_freedom 2 := ⟨⟨wd_993, ⟨rfl, (by rw [cwd_nil rfl]; exact wd_996)⟩, wd_95, ⟨by decide +kernel, by decide +kernel⟩, by decide +kernel⟩, wd_994, wd_995⟩
theorem wd_1003 : (Jvm.Cond.code ({ cls := "BitDesk", name := "pivot", desc := "(II)I" } : Jvm.MethodName) prog_1_method_39_code (3 : Nat) (Option.some Jvm.ClassFile.FieldType.int)) ∈ WS := ws_c4 189 rfl rfl
theorem wd_1000 : (Jvm.Cond.methodLink "BitDeskLaw" (122 : Nat) ({ cls := "BitDesk", name := "pivot", desc := "(II)I" } : Jvm.MethodName)) ∈ WS := ws_c4 186 rfl rfl
theorem wd_1001 : (Jvm.Cond.instanceMethod ({ cls := "BitDesk", name := "pivot", desc := "(II)I" } : Jvm.MethodName)) ∈ WS := ws_c4 187 rfl rfl
theorem wd_1002 : (Jvm.Cond.selects "BitDesk" ({ cls := "BitDesk", name := "pivot", desc := "(II)I" } : Jvm.MethodName) ({ cls := "BitDesk", name := "pivot", desc := "(II)I" } : Jvm.MethodName)) ∈ WS := ws_c4 188 rfl rfl
theorem lk_L_122 : LkV RL 122 jX6_pivot 2 := ⟨⟨wd_1000, ⟨rfl, (by rw [cwd_nil rfl]; exact wd_1003)⟩, wd_95, ⟨by decide +kernel, by decide +kernel⟩, by decide +kernel⟩, wd_1001, wd_1002⟩
theorem wd_1014 : (Jvm.Cond.code ({ cls := "BitDesk", name := "put", desc := "(IIIZ)I" } : Jvm.MethodName) prog_1_method_40_code (8 : Nat) (Option.some Jvm.ClassFile.FieldType.int)) ∈ WS := ws_c4 200 rfl rfl
theorem wd_1011 : (Jvm.Cond.methodLink "BitDeskLaw" (125 : Nat) ({ cls := "BitDesk", name := "put", desc := "(IIIZ)I" } : Jvm.MethodName)) ∈ WS := ws_c4 197 rfl rfl
theorem wd_1012 : (Jvm.Cond.instanceMethod ({ cls := "BitDesk", name := "put", desc := "(IIIZ)I" } : Jvm.MethodName)) ∈ WS := ws_c4 198 rfl rfl
theorem wd_1013 : (Jvm.Cond.selects "BitDesk" ({ cls := "BitDesk", name := "put", desc := "(IIIZ)I" } : Jvm.MethodName) ({ cls := "BitDesk", name := "put", desc := "(IIIZ)I" } : Jvm.MethodName)) ∈ WS := ws_c4 199 rfl rfl
theorem lk_L_125 : LkV RL 125 jX6_put 4 := ⟨⟨wd_1011, ⟨rfl, (by rw [cwd_nil rfl]; exact wd_1014)⟩, wd_95, ⟨by decide +kernel, by decide +kernel⟩, by decide +kernel⟩, wd_1012, wd_1013⟩
theorem wd_1036 : (Jvm.Cond.code ({ cls := "BitDesk", name := "setRow", desc := "(IIJ)I" } : Jvm.MethodName) prog_1_method_41_code (7 : Nat) (Option.some Jvm.ClassFile.FieldType.int)) ∈ WS := ws_c4 222 rfl rfl
theorem wd_1033 : (Jvm.Cond.methodLink "BitDeskLaw" (129 : Nat) ({ cls := "BitDesk", name := "setRow", desc := "(IIJ)I" } : Jvm.MethodName)) ∈ WS := ws_c4 219 rfl rfl
theorem wd_1034 : (Jvm.Cond.instanceMethod ({ cls := "BitDesk", name := "setRow", desc := "(IIJ)I" } : Jvm.MethodName)) ∈ WS := ws_c4 220 rfl rfl
theorem wd_1035 : (Jvm.Cond.selects "BitDesk" ({ cls := "BitDesk", name := "setRow", desc := "(IIJ)I" } : Jvm.MethodName) ({ cls := "BitDesk", name := "setRow", desc := "(IIJ)I" } : Jvm.MethodName)) ∈ WS := ws_c4 221 rfl rfl
theorem lk_L_129 : LkV RL 129 jX6_setRow 3 := ⟨⟨wd_1033, ⟨rfl, (by rw [cwd_nil rfl]; exact wd_1036)⟩, wd_95, ⟨by decide +kernel, by decide +kernel⟩, by decide +kernel⟩, wd_1034, wd_1035⟩
theorem wd_1048 : (Jvm.Cond.code ({ cls := "BitDesk", name := "copy", desc := "(II)I" } : Jvm.MethodName) prog_1_method_42_code (3 : Nat) (Option.some Jvm.ClassFile.FieldType.int)) ∈ WS := ws_c4 234 rfl rfl
theorem wd_1045 : (Jvm.Cond.methodLink "BitDeskLaw" (133 : Nat) ({ cls := "BitDesk", name := "copy", desc := "(II)I" } : Jvm.MethodName)) ∈ WS := ws_c4 231 rfl rfl
theorem wd_1046 : (Jvm.Cond.instanceMethod ({ cls := "BitDesk", name := "copy", desc := "(II)I" } : Jvm.MethodName)) ∈ WS := ws_c4 232 rfl rfl
theorem wd_1047 : (Jvm.Cond.selects "BitDesk" ({ cls := "BitDesk", name := "copy", desc := "(II)I" } : Jvm.MethodName) ({ cls := "BitDesk", name := "copy", desc := "(II)I" } : Jvm.MethodName)) ∈ WS := ws_c4 233 rfl rfl
theorem lk_L_133 : LkV RL 133 jX6_copy 2 := ⟨⟨wd_1045, ⟨rfl, (by rw [cwd_nil rfl]; exact wd_1048)⟩, wd_95, ⟨by decide +kernel, by decide +kernel⟩, by decide +kernel⟩, wd_1046, wd_1047⟩
theorem wd_1059 : (Jvm.Cond.code ({ cls := "BitDesk", name := "transpose", desc := "(II)I" } : Jvm.MethodName) prog_1_method_43_code (4 : Nat) (Option.some Jvm.ClassFile.FieldType.int)) ∈ WS := ws_c5 5 rfl rfl
theorem wd_1056 : (Jvm.Cond.methodLink "BitDeskLaw" (136 : Nat) ({ cls := "BitDesk", name := "transpose", desc := "(II)I" } : Jvm.MethodName)) ∈ WS := ws_c5 2 rfl rfl
theorem wd_1057 : (Jvm.Cond.instanceMethod ({ cls := "BitDesk", name := "transpose", desc := "(II)I" } : Jvm.MethodName)) ∈ WS := ws_c5 3 rfl rfl
theorem wd_1058 : (Jvm.Cond.selects "BitDesk" ({ cls := "BitDesk", name := "transpose", desc := "(II)I" } : Jvm.MethodName) ({ cls := "BitDesk", name := "transpose", desc := "(II)I" } : Jvm.MethodName)) ∈ WS := ws_c5 4 rfl rfl
theorem lk_L_136 : LkV RL 136 jX6_transpose 2 := ⟨⟨wd_1056, ⟨rfl, (by rw [cwd_nil rfl]; exact wd_1059)⟩, wd_95, ⟨by decide +kernel, by decide +kernel⟩, by decide +kernel⟩, wd_1057, wd_1058⟩
theorem wd_1066 : (Jvm.Cond.code ({ cls := "BitDesk", name := "combine", desc := "(IIII)I" } : Jvm.MethodName) prog_1_method_44_code (6 : Nat) (Option.some Jvm.ClassFile.FieldType.int)) ∈ WS := ws_c5 12 rfl rfl
theorem wd_1063 : (Jvm.Cond.methodLink "BitDeskLaw" (139 : Nat) ({ cls := "BitDesk", name := "combine", desc := "(IIII)I" } : Jvm.MethodName)) ∈ WS := ws_c5 9 rfl rfl
theorem wd_1064 : (Jvm.Cond.instanceMethod ({ cls := "BitDesk", name := "combine", desc := "(IIII)I" } : Jvm.MethodName)) ∈ WS := ws_c5 10 rfl rfl
theorem wd_1065 : (Jvm.Cond.selects "BitDesk" ({ cls := "BitDesk", name := "combine", desc := "(IIII)I" } : Jvm.MethodName) ({ cls := "BitDesk", name := "combine", desc := "(IIII)I" } : Jvm.MethodName)) ∈ WS := ws_c5 11 rfl rfl
theorem lk_L_139 : LkV RL 139 jX6_combine 4 := ⟨⟨wd_1063, ⟨rfl, (by rw [cwd_nil rfl]; exact wd_1066)⟩, wd_95, ⟨by decide +kernel, by decide +kernel⟩, by decide +kernel⟩, wd_1064, wd_1065⟩
theorem wd_1076 : (Jvm.Cond.code ({ cls := "BitDesk", name := "product", desc := "(IIIZ)I" } : Jvm.MethodName) prog_1_method_45_code (5 : Nat) (Option.some Jvm.ClassFile.FieldType.int)) ∈ WS := ws_c5 22 rfl rfl
theorem wd_1073 : (Jvm.Cond.methodLink "BitDeskLaw" (142 : Nat) ({ cls := "BitDesk", name := "product", desc := "(IIIZ)I" } : Jvm.MethodName)) ∈ WS := ws_c5 19 rfl rfl
theorem wd_1074 : (Jvm.Cond.instanceMethod ({ cls := "BitDesk", name := "product", desc := "(IIIZ)I" } : Jvm.MethodName)) ∈ WS := ws_c5 20 rfl rfl
theorem wd_1075 : (Jvm.Cond.selects "BitDesk" ({ cls := "BitDesk", name := "product", desc := "(IIIZ)I" } : Jvm.MethodName) ({ cls := "BitDesk", name := "product", desc := "(IIIZ)I" } : Jvm.MethodName)) ∈ WS := ws_c5 21 rfl rfl
theorem lk_L_142 : LkV RL 142 jX6_product 4 := ⟨⟨wd_1073, ⟨rfl, (by rw [cwd_nil rfl]; exact wd_1076)⟩, wd_95, ⟨by decide +kernel, by decide +kernel⟩, by decide +kernel⟩, wd_1074, wd_1075⟩
theorem wd_1109 : (Jvm.Cond.code ({ cls := "BitDesk", name := "power", desc := "(IIIZ)I" } : Jvm.MethodName) prog_1_method_46_code (6 : Nat) (Option.some Jvm.ClassFile.FieldType.int)) ∈ WS := ws_c5 55 rfl rfl
theorem wd_1106 : (Jvm.Cond.methodLink "BitDeskLaw" (145 : Nat) ({ cls := "BitDesk", name := "power", desc := "(IIIZ)I" } : Jvm.MethodName)) ∈ WS := ws_c5 52 rfl rfl
theorem wd_1107 : (Jvm.Cond.instanceMethod ({ cls := "BitDesk", name := "power", desc := "(IIIZ)I" } : Jvm.MethodName)) ∈ WS := ws_c5 53 rfl rfl
theorem wd_1108 : (Jvm.Cond.selects "BitDesk" ({ cls := "BitDesk", name := "power", desc := "(IIIZ)I" } : Jvm.MethodName) ({ cls := "BitDesk", name := "power", desc := "(IIIZ)I" } : Jvm.MethodName)) ∈ WS := ws_c5 54 rfl rfl
theorem lk_L_145 : LkV RL 145 jX6_power 4 := ⟨⟨wd_1106, ⟨rfl, (by rw [cwd_nil rfl]; exact wd_1109)⟩, wd_95, ⟨by decide +kernel, by decide +kernel⟩, by decide +kernel⟩, wd_1107, wd_1108⟩
theorem wd_1123 : (Jvm.Cond.code ({ cls := "BitDesk", name := "invert", desc := "(II)I" } : Jvm.MethodName) prog_1_method_47_code (3 : Nat) (Option.some Jvm.ClassFile.FieldType.int)) ∈ WS := ws_c5 69 rfl rfl
theorem wd_1120 : (Jvm.Cond.methodLink "BitDeskLaw" (148 : Nat) ({ cls := "BitDesk", name := "invert", desc := "(II)I" } : Jvm.MethodName)) ∈ WS := ws_c5 66 rfl rfl
theorem wd_1121 : (Jvm.Cond.instanceMethod ({ cls := "BitDesk", name := "invert", desc := "(II)I" } : Jvm.MethodName)) ∈ WS := ws_c5 67 rfl rfl
theorem wd_1122 : (Jvm.Cond.selects "BitDesk" ({ cls := "BitDesk", name := "invert", desc := "(II)I" } : Jvm.MethodName) ({ cls := "BitDesk", name := "invert", desc := "(II)I" } : Jvm.MethodName)) ∈ WS := ws_c5 68 rfl rfl
theorem lk_L_148 : LkV RL 148 jX6_invert 2 := ⟨⟨wd_1120, ⟨rfl, (by rw [cwd_nil rfl]; exact wd_1123)⟩, wd_95, ⟨by decide +kernel, by decide +kernel⟩, by decide +kernel⟩, wd_1121, wd_1122⟩
theorem wd_1134 : (Jvm.Cond.code ({ cls := "BitDesk", name := "close", desc := "(II)I" } : Jvm.MethodName) prog_1_method_48_code (3 : Nat) (Option.some Jvm.ClassFile.FieldType.int)) ∈ WS := ws_c5 80 rfl rfl
theorem wd_1131 : (Jvm.Cond.methodLink "BitDeskLaw" (151 : Nat) ({ cls := "BitDesk", name := "close", desc := "(II)I" } : Jvm.MethodName)) ∈ WS := ws_c5 77 rfl rfl
theorem wd_1132 : (Jvm.Cond.instanceMethod ({ cls := "BitDesk", name := "close", desc := "(II)I" } : Jvm.MethodName)) ∈ WS := ws_c5 78 rfl rfl
theorem wd_1133 : (Jvm.Cond.selects "BitDesk" ({ cls := "BitDesk", name := "close", desc := "(II)I" } : Jvm.MethodName) ({ cls := "BitDesk", name := "close", desc := "(II)I" } : Jvm.MethodName)) ∈ WS := ws_c5 79 rfl rfl
theorem lk_L_151 : LkV RL 151 jX6_close 2 := ⟨⟨wd_1131, ⟨rfl, (by rw [cwd_nil rfl]; exact wd_1134)⟩, wd_95, ⟨by decide +kernel, by decide +kernel⟩, by decide +kernel⟩, wd_1132, wd_1133⟩
theorem wd_1141 : (Jvm.Cond.code ({ cls := "BitDesk", name := "reduce", desc := "(II)I" } : Jvm.MethodName) prog_1_method_49_code (4 : Nat) (Option.some Jvm.ClassFile.FieldType.int)) ∈ WS := ws_c5 87 rfl rfl
theorem wd_1138 : (Jvm.Cond.methodLink "BitDeskLaw" (154 : Nat) ({ cls := "BitDesk", name := "reduce", desc := "(II)I" } : Jvm.MethodName)) ∈ WS := ws_c5 84 rfl rfl
theorem wd_1139 : (Jvm.Cond.instanceMethod ({ cls := "BitDesk", name := "reduce", desc := "(II)I" } : Jvm.MethodName)) ∈ WS := ws_c5 85 rfl rfl
theorem wd_1140 : (Jvm.Cond.selects "BitDesk" ({ cls := "BitDesk", name := "reduce", desc := "(II)I" } : Jvm.MethodName) ({ cls := "BitDesk", name := "reduce", desc := "(II)I" } : Jvm.MethodName)) ∈ WS := ws_c5 86 rfl rfl
theorem lk_L_154 : LkV RL 154 jX6_reduce 2 := ⟨⟨wd_1138, ⟨rfl, (by rw [cwd_nil rfl]; exact wd_1141)⟩, wd_95, ⟨by decide +kernel, by decide +kernel⟩, by decide +kernel⟩, wd_1139, wd_1140⟩
theorem wd_1153 : (Jvm.Cond.code ({ cls := "BitDesk", name := "exchange", desc := "(III)I" } : Jvm.MethodName) prog_1_method_50_code (8 : Nat) (Option.some Jvm.ClassFile.FieldType.int)) ∈ WS := ws_c5 99 rfl rfl
theorem wd_1150 : (Jvm.Cond.methodLink "BitDeskLaw" (157 : Nat) ({ cls := "BitDesk", name := "exchange", desc := "(III)I" } : Jvm.MethodName)) ∈ WS := ws_c5 96 rfl rfl
theorem wd_1151 : (Jvm.Cond.instanceMethod ({ cls := "BitDesk", name := "exchange", desc := "(III)I" } : Jvm.MethodName)) ∈ WS := ws_c5 97 rfl rfl
theorem wd_1152 : (Jvm.Cond.selects "BitDesk" ({ cls := "BitDesk", name := "exchange", desc := "(III)I" } : Jvm.MethodName) ({ cls := "BitDesk", name := "exchange", desc := "(III)I" } : Jvm.MethodName)) ∈ WS := ws_c5 98 rfl rfl
theorem lk_L_157 : LkV RL 157 jX6_exchange 3 := ⟨⟨wd_1150, ⟨rfl, (by rw [cwd_nil rfl]; exact wd_1153)⟩, wd_95, ⟨by decide +kernel, by decide +kernel⟩, by decide +kernel⟩, wd_1151, wd_1152⟩
theorem wd_1163 : (Jvm.Cond.code ({ cls := "BitDesk", name := "keep", desc := "(IZ)I" } : Jvm.MethodName) prog_1_method_51_code (4 : Nat) (Option.some Jvm.ClassFile.FieldType.int)) ∈ WS := ws_c5 109 rfl rfl
theorem wd_1160 : (Jvm.Cond.methodLink "BitDeskLaw" (160 : Nat) ({ cls := "BitDesk", name := "keep", desc := "(IZ)I" } : Jvm.MethodName)) ∈ WS := ws_c5 106 rfl rfl
theorem wd_1161 : (Jvm.Cond.instanceMethod ({ cls := "BitDesk", name := "keep", desc := "(IZ)I" } : Jvm.MethodName)) ∈ WS := ws_c5 107 rfl rfl
theorem wd_1162 : (Jvm.Cond.selects "BitDesk" ({ cls := "BitDesk", name := "keep", desc := "(IZ)I" } : Jvm.MethodName) ({ cls := "BitDesk", name := "keep", desc := "(IZ)I" } : Jvm.MethodName)) ∈ WS := ws_c5 108 rfl rfl
theorem lk_L_160 : LkV RL 160 jX6_keep 2 := ⟨⟨wd_1160, ⟨rfl, (by rw [cwd_nil rfl]; exact wd_1163)⟩, wd_95, ⟨by decide +kernel, by decide +kernel⟩, by decide +kernel⟩, wd_1161, wd_1162⟩
theorem wd_1170 : (Jvm.Cond.code ({ cls := "BitDesk", name := "setBlock", desc := "(I)I" } : Jvm.MethodName) prog_1_method_52_code (3 : Nat) (Option.some Jvm.ClassFile.FieldType.int)) ∈ WS := ws_c5 116 rfl rfl
theorem wd_1167 : (Jvm.Cond.methodLink "BitDeskLaw" (164 : Nat) ({ cls := "BitDesk", name := "setBlock", desc := "(I)I" } : Jvm.MethodName)) ∈ WS := ws_c5 113 rfl rfl
theorem wd_1168 : (Jvm.Cond.instanceMethod ({ cls := "BitDesk", name := "setBlock", desc := "(I)I" } : Jvm.MethodName)) ∈ WS := ws_c5 114 rfl rfl
theorem wd_1169 : (Jvm.Cond.selects "BitDesk" ({ cls := "BitDesk", name := "setBlock", desc := "(I)I" } : Jvm.MethodName) ({ cls := "BitDesk", name := "setBlock", desc := "(I)I" } : Jvm.MethodName)) ∈ WS := ws_c5 115 rfl rfl
theorem lk_L_164 : LkV RL 164 jX6_setBlock 1 := ⟨⟨wd_1167, ⟨rfl, (by rw [cwd_nil rfl]; exact wd_1170)⟩, wd_95, ⟨by decide +kernel, by decide +kernel⟩, by decide +kernel⟩, wd_1168, wd_1169⟩
theorem wd_1177 : (Jvm.Cond.code ({ cls := "BitDesk", name := "kept", desc := "(II)I" } : Jvm.MethodName) prog_1_method_53_code (4 : Nat) (Option.some Jvm.ClassFile.FieldType.int)) ∈ WS := ws_c5 123 rfl rfl
theorem wd_1174 : (Jvm.Cond.methodLink "BitDeskLaw" (167 : Nat) ({ cls := "BitDesk", name := "kept", desc := "(II)I" } : Jvm.MethodName)) ∈ WS := ws_c5 120 rfl rfl
theorem wd_1175 : (Jvm.Cond.instanceMethod ({ cls := "BitDesk", name := "kept", desc := "(II)I" } : Jvm.MethodName)) ∈ WS := ws_c5 121 rfl rfl
theorem wd_1176 : (Jvm.Cond.selects "BitDesk" ({ cls := "BitDesk", name := "kept", desc := "(II)I" } : Jvm.MethodName) ({ cls := "BitDesk", name := "kept", desc := "(II)I" } : Jvm.MethodName)) ∈ WS := ws_c5 122 rfl rfl
theorem lk_L_167 : LkV RL 167 jX6_kept 2 := ⟨⟨wd_1174, ⟨rfl, (by rw [cwd_nil rfl]; exact wd_1177)⟩, wd_95, ⟨by decide +kernel, by decide +kernel⟩, by decide +kernel⟩, wd_1175, wd_1176⟩
theorem wd_1184 : (Jvm.Cond.code ({ cls := "BitDesk", name := "work", desc := "(I)I" } : Jvm.MethodName) prog_1_method_54_code (2 : Nat) (Option.some Jvm.ClassFile.FieldType.int)) ∈ WS := ws_c5 130 rfl rfl
theorem wd_1181 : (Jvm.Cond.methodLink "BitDeskLaw" (170 : Nat) ({ cls := "BitDesk", name := "work", desc := "(I)I" } : Jvm.MethodName)) ∈ WS := ws_c5 127 rfl rfl
theorem wd_1182 : (Jvm.Cond.instanceMethod ({ cls := "BitDesk", name := "work", desc := "(I)I" } : Jvm.MethodName)) ∈ WS := ws_c5 128 rfl rfl
theorem wd_1183 : (Jvm.Cond.selects "BitDesk" ({ cls := "BitDesk", name := "work", desc := "(I)I" } : Jvm.MethodName) ({ cls := "BitDesk", name := "work", desc := "(I)I" } : Jvm.MethodName)) ∈ WS := ws_c5 129 rfl rfl
theorem lk_L_170 : LkV RL 170 jX6_work 1 := ⟨⟨wd_1181, ⟨rfl, (by rw [cwd_nil rfl]; exact wd_1184)⟩, wd_95, ⟨by decide +kernel, by decide +kernel⟩, by decide +kernel⟩, wd_1182, wd_1183⟩
theorem wd_1191 : (Jvm.Cond.code ({ cls := "BitDesk", name := "writeRow", desc := "(II)I" } : Jvm.MethodName) prog_1_method_55_code (5 : Nat) (Option.some Jvm.ClassFile.FieldType.int)) ∈ WS := ws_c5 137 rfl rfl
theorem wd_1188 : (Jvm.Cond.methodLink "BitDeskLaw" (173 : Nat) ({ cls := "BitDesk", name := "writeRow", desc := "(II)I" } : Jvm.MethodName)) ∈ WS := ws_c5 134 rfl rfl
theorem wd_1189 : (Jvm.Cond.instanceMethod ({ cls := "BitDesk", name := "writeRow", desc := "(II)I" } : Jvm.MethodName)) ∈ WS := ws_c5 135 rfl rfl
theorem wd_1190 : (Jvm.Cond.selects "BitDesk" ({ cls := "BitDesk", name := "writeRow", desc := "(II)I" } : Jvm.MethodName) ({ cls := "BitDesk", name := "writeRow", desc := "(II)I" } : Jvm.MethodName)) ∈ WS := ws_c5 136 rfl rfl
theorem lk_L_173 : LkV RL 173 jX6_writeRow 2 := ⟨⟨wd_1188, ⟨rfl, (by rw [cwd_nil rfl]; exact wd_1191)⟩, wd_95, ⟨by decide +kernel, by decide +kernel⟩, by decide +kernel⟩, wd_1189, wd_1190⟩
theorem wd_1198 : (Jvm.Cond.code ({ cls := "BitDesk", name := "saveSnapshot", desc := "(I)I" } : Jvm.MethodName) prog_1_method_58_code (2 : Nat) (Option.some Jvm.ClassFile.FieldType.int)) ∈ WS := ws_c5 144 rfl rfl
theorem wd_1195 : (Jvm.Cond.methodLink "BitDeskLaw" (176 : Nat) ({ cls := "BitDesk", name := "saveSnapshot", desc := "(I)I" } : Jvm.MethodName)) ∈ WS := ws_c5 141 rfl rfl
theorem wd_1196 : (Jvm.Cond.instanceMethod ({ cls := "BitDesk", name := "saveSnapshot", desc := "(I)I" } : Jvm.MethodName)) ∈ WS := ws_c5 142 rfl rfl
theorem wd_1197 : (Jvm.Cond.selects "BitDesk" ({ cls := "BitDesk", name := "saveSnapshot", desc := "(I)I" } : Jvm.MethodName) ({ cls := "BitDesk", name := "saveSnapshot", desc := "(I)I" } : Jvm.MethodName)) ∈ WS := ws_c5 143 rfl rfl
theorem lk_L_176 : LkV RL 176 jX6_saveSnapshot 1 := ⟨⟨wd_1195, ⟨rfl, (by rw [cwd_nil rfl]; exact wd_1198)⟩, wd_95, ⟨by decide +kernel, by decide +kernel⟩, by decide +kernel⟩, wd_1196, wd_1197⟩
theorem wd_1205 : (Jvm.Cond.code ({ cls := "BitDesk", name := "restoreSnapshot", desc := "(I)I" } : Jvm.MethodName) prog_1_method_59_code (2 : Nat) (Option.some Jvm.ClassFile.FieldType.int)) ∈ WS := ws_c5 151 rfl rfl
theorem wd_1202 : (Jvm.Cond.methodLink "BitDeskLaw" (179 : Nat) ({ cls := "BitDesk", name := "restoreSnapshot", desc := "(I)I" } : Jvm.MethodName)) ∈ WS := ws_c5 148 rfl rfl
theorem wd_1203 : (Jvm.Cond.instanceMethod ({ cls := "BitDesk", name := "restoreSnapshot", desc := "(I)I" } : Jvm.MethodName)) ∈ WS := ws_c5 149 rfl rfl
theorem wd_1204 : (Jvm.Cond.selects "BitDesk" ({ cls := "BitDesk", name := "restoreSnapshot", desc := "(I)I" } : Jvm.MethodName) ({ cls := "BitDesk", name := "restoreSnapshot", desc := "(I)I" } : Jvm.MethodName)) ∈ WS := ws_c5 150 rfl rfl
theorem lk_L_179 : LkV RL 179 jX6_restoreSnapshot 1 := ⟨⟨wd_1202, ⟨rfl, (by rw [cwd_nil rfl]; exact wd_1205)⟩, wd_95, ⟨by decide +kernel, by decide +kernel⟩, by decide +kernel⟩, wd_1203, wd_1204⟩
theorem wd_115 : (Jvm.Cond.classLink "BitDeskLaw" (8 : Nat) "BitDesk") ∈ WS := ws_c1 21 rfl rfl
theorem wd_116 : (Jvm.Cond.instantiable "BitDesk" (15 : Nat)) ∈ WS := ws_c1 22 rfl rfl
theorem wd_119 : (Jvm.Cond.code ({ cls := "BitDesk", name := "<init>", desc := "()V" } : Jvm.MethodName) prog_1_method_1_code (2 : Nat) (Option.none : Option Jvm.ClassFile.FieldType)) ∈ WS := ws_c1 25 rfl rfl
theorem wd_117 : (Jvm.Cond.methodLink "BitDeskLaw" (182 : Nat) ({ cls := "BitDesk", name := "<init>", desc := "()V" } : Jvm.MethodName)) ∈ WS := ws_c1 23 rfl rfl
theorem wd_118 : (Jvm.Cond.instanceMethod ({ cls := "BitDesk", name := "<init>", desc := "()V" } : Jvm.MethodName)) ∈ WS := ws_c1 24 rfl rfl
theorem lk_L_182 : LkI RL 182 jX6_init 0 := ⟨⟨wd_117, ⟨rfl, (by rw [cwd_nil rfl]; exact wd_119)⟩, wd_95, ⟨by decide +kernel, by decide +kernel⟩, by decide +kernel⟩, wd_118, rfl, rfl⟩
theorem wd_1206 : (Jvm.Cond.classLink "BitDeskLaw" (183 : Nat) "BitDeskModel") ∈ WS := ws_c5 152 rfl rfl
theorem wd_1207 : (Jvm.Cond.instantiable "BitDeskModel" (25 : Nat)) ∈ WS := ws_c5 153 rfl rfl
theorem wd_1210 : (Jvm.Cond.code ({ cls := "BitDeskModel", name := "<init>", desc := "()V" } : Jvm.MethodName) prog_9_method_1_code (1 : Nat) (Option.none : Option Jvm.ClassFile.FieldType)) ∈ WS := ws_c5 156 rfl rfl
theorem wd_1208 : (Jvm.Cond.methodLink "BitDeskLaw" (185 : Nat) ({ cls := "BitDeskModel", name := "<init>", desc := "()V" } : Jvm.MethodName)) ∈ WS := ws_c5 154 rfl rfl
theorem wd_1209 : (Jvm.Cond.instanceMethod ({ cls := "BitDeskModel", name := "<init>", desc := "()V" } : Jvm.MethodName)) ∈ WS := ws_c5 155 rfl rfl
theorem lk_L_185 : LkI RL 185 jX7_init 0 := ⟨⟨wd_1208, ⟨rfl, (by rw [cwd_nil rfl]; exact wd_1210)⟩, wd_102, ⟨by decide +kernel, by decide +kernel⟩, by decide +kernel⟩, wd_1209, rfl, rfl⟩
theorem wd_1783 : (Jvm.Cond.constantLong "BitDeskLaw" (186 : Nat) (4294967295 : Int64)) ∈ WS := ws_c8 9 rfl rfl
theorem wd_338 : (Jvm.Cond.code ({ cls := "BitDesk", name := "append", desc := "(J)I" } : Jvm.MethodName) prog_1_method_2_code (3 : Nat) (Option.some Jvm.ClassFile.FieldType.int)) ∈ WS := ws_c2 4 rfl rfl
theorem wd_335 : (Jvm.Cond.methodLink "BitDeskLaw" (188 : Nat) ({ cls := "BitDesk", name := "append", desc := "(J)I" } : Jvm.MethodName)) ∈ WS := ws_c2 1 rfl rfl
theorem wd_336 : (Jvm.Cond.instanceMethod ({ cls := "BitDesk", name := "append", desc := "(J)I" } : Jvm.MethodName)) ∈ WS := ws_c2 2 rfl rfl
theorem wd_337 : (Jvm.Cond.selects "BitDesk" ({ cls := "BitDesk", name := "append", desc := "(J)I" } : Jvm.MethodName) ({ cls := "BitDesk", name := "append", desc := "(J)I" } : Jvm.MethodName)) ∈ WS := ws_c2 3 rfl rfl
theorem lk_L_188 : LkV RL 188 jX6_append 1 := ⟨⟨wd_335, ⟨rfl, (by rw [cwd_nil rfl]; exact wd_338)⟩, wd_95, ⟨by decide +kernel, by decide +kernel⟩, by decide +kernel⟩, wd_336, wd_337⟩
theorem wd_1300 : (Jvm.Cond.code ({ cls := "BitDeskModel", name := "append", desc := "(J)I" } : Jvm.MethodName) prog_9_method_16_code (5 : Nat) (Option.some Jvm.ClassFile.FieldType.int)) ∈ WS := ws_c6 6 rfl rfl
theorem wd_1297 : (Jvm.Cond.methodLink "BitDeskLaw" (192 : Nat) ({ cls := "BitDeskModel", name := "append", desc := "(J)I" } : Jvm.MethodName)) ∈ WS := ws_c6 3 rfl rfl
theorem wd_1298 : (Jvm.Cond.instanceMethod ({ cls := "BitDeskModel", name := "append", desc := "(J)I" } : Jvm.MethodName)) ∈ WS := ws_c6 4 rfl rfl
theorem wd_1299 : (Jvm.Cond.selects "BitDeskModel" ({ cls := "BitDeskModel", name := "append", desc := "(J)I" } : Jvm.MethodName) ({ cls := "BitDeskModel", name := "append", desc := "(J)I" } : Jvm.MethodName)) ∈ WS := ws_c6 5 rfl rfl
theorem lk_L_192 : LkV RL 192 jX7_append 1 := ⟨⟨wd_1297, ⟨rfl, (by rw [cwd_nil rfl]; exact wd_1300)⟩, wd_102, ⟨by decide +kernel, by decide +kernel⟩, by decide +kernel⟩, wd_1298, wd_1299⟩
theorem wd_347 : (Jvm.Cond.code ({ cls := "BitDesk", name := "load", desc := "()I" } : Jvm.MethodName) prog_1_method_3_code (1 : Nat) (Option.some Jvm.ClassFile.FieldType.int)) ∈ WS := ws_c2 13 rfl rfl
theorem wd_344 : (Jvm.Cond.methodLink "BitDeskLaw" (193 : Nat) ({ cls := "BitDesk", name := "load", desc := "()I" } : Jvm.MethodName)) ∈ WS := ws_c2 10 rfl rfl
theorem wd_345 : (Jvm.Cond.instanceMethod ({ cls := "BitDesk", name := "load", desc := "()I" } : Jvm.MethodName)) ∈ WS := ws_c2 11 rfl rfl
theorem wd_346 : (Jvm.Cond.selects "BitDesk" ({ cls := "BitDesk", name := "load", desc := "()I" } : Jvm.MethodName) ({ cls := "BitDesk", name := "load", desc := "()I" } : Jvm.MethodName)) ∈ WS := ws_c2 12 rfl rfl
theorem lk_L_193 : LkV RL 193 jX6_load 0 := ⟨⟨wd_344, ⟨rfl, (by rw [cwd_nil rfl]; exact wd_347)⟩, wd_95, ⟨by decide +kernel, by decide +kernel⟩, by decide +kernel⟩, wd_345, wd_346⟩
theorem wd_1308 : (Jvm.Cond.code ({ cls := "BitDeskModel", name := "load", desc := "()I" } : Jvm.MethodName) prog_9_method_34_code (2 : Nat) (Option.some Jvm.ClassFile.FieldType.int)) ∈ WS := ws_c6 14 rfl rfl
theorem wd_1305 : (Jvm.Cond.methodLink "BitDeskLaw" (197 : Nat) ({ cls := "BitDeskModel", name := "load", desc := "()I" } : Jvm.MethodName)) ∈ WS := ws_c6 11 rfl rfl
theorem wd_1306 : (Jvm.Cond.instanceMethod ({ cls := "BitDeskModel", name := "load", desc := "()I" } : Jvm.MethodName)) ∈ WS := ws_c6 12 rfl rfl
theorem wd_1307 : (Jvm.Cond.selects "BitDeskModel" ({ cls := "BitDeskModel", name := "load", desc := "()I" } : Jvm.MethodName) ({ cls := "BitDeskModel", name := "load", desc := "()I" } : Jvm.MethodName)) ∈ WS := ws_c6 13 rfl rfl
theorem lk_L_197 : LkV RL 197 jX7_load 0 := ⟨⟨wd_1305, ⟨rfl, (by rw [cwd_nil rfl]; exact wd_1308)⟩, wd_102, ⟨by decide +kernel, by decide +kernel⟩, by decide +kernel⟩, wd_1306, wd_1307⟩
theorem wd_519 : (Jvm.Cond.code ({ cls := "BitDesk", name := "loadError", desc := "()I" } : Jvm.MethodName) prog_1_method_4_code (1 : Nat) (Option.some Jvm.ClassFile.FieldType.int)) ∈ WS := ws_c2 185 rfl rfl
theorem wd_516 : (Jvm.Cond.methodLink "BitDeskLaw" (198 : Nat) ({ cls := "BitDesk", name := "loadError", desc := "()I" } : Jvm.MethodName)) ∈ WS := ws_c2 182 rfl rfl
theorem wd_517 : (Jvm.Cond.instanceMethod ({ cls := "BitDesk", name := "loadError", desc := "()I" } : Jvm.MethodName)) ∈ WS := ws_c2 183 rfl rfl
theorem wd_518 : (Jvm.Cond.selects "BitDesk" ({ cls := "BitDesk", name := "loadError", desc := "()I" } : Jvm.MethodName) ({ cls := "BitDesk", name := "loadError", desc := "()I" } : Jvm.MethodName)) ∈ WS := ws_c2 184 rfl rfl
theorem lk_L_198 : LkV RL 198 jX6_loadError 0 := ⟨⟨wd_516, ⟨rfl, (by rw [cwd_nil rfl]; exact wd_519)⟩, wd_95, ⟨by decide +kernel, by decide +kernel⟩, by decide +kernel⟩, wd_517, wd_518⟩
theorem wd_1415 : (Jvm.Cond.code ({ cls := "BitDeskModel", name := "loadError", desc := "()I" } : Jvm.MethodName) prog_9_method_35_code (1 : Nat) (Option.some Jvm.ClassFile.FieldType.int)) ∈ WS := ws_c6 121 rfl rfl
theorem wd_1412 : (Jvm.Cond.methodLink "BitDeskLaw" (201 : Nat) ({ cls := "BitDeskModel", name := "loadError", desc := "()I" } : Jvm.MethodName)) ∈ WS := ws_c6 118 rfl rfl
theorem wd_1413 : (Jvm.Cond.instanceMethod ({ cls := "BitDeskModel", name := "loadError", desc := "()I" } : Jvm.MethodName)) ∈ WS := ws_c6 119 rfl rfl
theorem wd_1414 : (Jvm.Cond.selects "BitDeskModel" ({ cls := "BitDeskModel", name := "loadError", desc := "()I" } : Jvm.MethodName) ({ cls := "BitDeskModel", name := "loadError", desc := "()I" } : Jvm.MethodName)) ∈ WS := ws_c6 120 rfl rfl
theorem lk_L_201 : LkV RL 201 jX7_loadError 0 := ⟨⟨wd_1412, ⟨rfl, (by rw [cwd_nil rfl]; exact wd_1415)⟩, wd_102, ⟨by decide +kernel, by decide +kernel⟩, by decide +kernel⟩, wd_1413, wd_1414⟩
theorem wd_523 : (Jvm.Cond.code ({ cls := "BitDesk", name := "loadStatement", desc := "()I" } : Jvm.MethodName) prog_1_method_5_code (1 : Nat) (Option.some Jvm.ClassFile.FieldType.int)) ∈ WS := ws_c2 189 rfl rfl
theorem wd_520 : (Jvm.Cond.methodLink "BitDeskLaw" (202 : Nat) ({ cls := "BitDesk", name := "loadStatement", desc := "()I" } : Jvm.MethodName)) ∈ WS := ws_c2 186 rfl rfl
theorem wd_521 : (Jvm.Cond.instanceMethod ({ cls := "BitDesk", name := "loadStatement", desc := "()I" } : Jvm.MethodName)) ∈ WS := ws_c2 187 rfl rfl
theorem wd_522 : (Jvm.Cond.selects "BitDesk" ({ cls := "BitDesk", name := "loadStatement", desc := "()I" } : Jvm.MethodName) ({ cls := "BitDesk", name := "loadStatement", desc := "()I" } : Jvm.MethodName)) ∈ WS := ws_c2 188 rfl rfl
theorem lk_L_202 : LkV RL 202 jX6_loadStatement 0 := ⟨⟨wd_520, ⟨rfl, (by rw [cwd_nil rfl]; exact wd_523)⟩, wd_95, ⟨by decide +kernel, by decide +kernel⟩, by decide +kernel⟩, wd_521, wd_522⟩
theorem wd_1419 : (Jvm.Cond.code ({ cls := "BitDeskModel", name := "loadStatement", desc := "()I" } : Jvm.MethodName) prog_9_method_36_code (1 : Nat) (Option.some Jvm.ClassFile.FieldType.int)) ∈ WS := ws_c6 125 rfl rfl
theorem wd_1416 : (Jvm.Cond.methodLink "BitDeskLaw" (205 : Nat) ({ cls := "BitDeskModel", name := "loadStatement", desc := "()I" } : Jvm.MethodName)) ∈ WS := ws_c6 122 rfl rfl
theorem wd_1417 : (Jvm.Cond.instanceMethod ({ cls := "BitDeskModel", name := "loadStatement", desc := "()I" } : Jvm.MethodName)) ∈ WS := ws_c6 123 rfl rfl
theorem wd_1418 : (Jvm.Cond.selects "BitDeskModel" ({ cls := "BitDeskModel", name := "loadStatement", desc := "()I" } : Jvm.MethodName) ({ cls := "BitDeskModel", name := "loadStatement", desc := "()I" } : Jvm.MethodName)) ∈ WS := ws_c6 124 rfl rfl
theorem lk_L_205 : LkV RL 205 jX7_loadStatement 0 := ⟨⟨wd_1416, ⟨rfl, (by rw [cwd_nil rfl]; exact wd_1419)⟩, wd_102, ⟨by decide +kernel, by decide +kernel⟩, by decide +kernel⟩, wd_1417, wd_1418⟩
theorem wd_534 : (Jvm.Cond.codeWith ({ cls := "BitDeskLaw", name := "count", desc := "(LBitDesk;I[J)I" } : Jvm.MethodName) method_3_code (4 : Nat) (Option.some Jvm.ClassFile.FieldType.int) [((0 : Nat), (9 : Nat), (12 : Nat), (13 : Nat))]) ∈ WS := ws_c2 200 rfl rfl
theorem wd_532 : (Jvm.Cond.methodLink "BitDeskLaw" (206 : Nat) ({ cls := "BitDeskLaw", name := "count", desc := "(LBitDesk;I[J)I" } : Jvm.MethodName)) ∈ WS := ws_c2 198 rfl rfl
theorem wd_533 : (Jvm.Cond.static ({ cls := "BitDeskLaw", name := "count", desc := "(LBitDesk;I[J)I" } : Jvm.MethodName)) ∈ WS := ws_c2 199 rfl rfl
theorem lk_L_206 : LkSX RL 206 jL_count 3 := ⟨wd_532, ⟨(by decide), (by rw [cwd_hh (by decide)]; exact wd_534)⟩, wd_94, ⟨by decide +kernel, by decide +kernel⟩, by decide +kernel, wd_533⟩
theorem wd_1423 : (Jvm.Cond.code ({ cls := "BitDeskModel", name := "count", desc := "(I)I" } : Jvm.MethodName) prog_9_method_38_code (2 : Nat) (Option.some Jvm.ClassFile.FieldType.int)) ∈ WS := ws_c6 129 rfl rfl
theorem wd_1420 : (Jvm.Cond.methodLink "BitDeskLaw" (211 : Nat) ({ cls := "BitDeskModel", name := "count", desc := "(I)I" } : Jvm.MethodName)) ∈ WS := ws_c6 126 rfl rfl
theorem wd_1421 : (Jvm.Cond.instanceMethod ({ cls := "BitDeskModel", name := "count", desc := "(I)I" } : Jvm.MethodName)) ∈ WS := ws_c6 127 rfl rfl
theorem wd_1422 : (Jvm.Cond.selects "BitDeskModel" ({ cls := "BitDeskModel", name := "count", desc := "(I)I" } : Jvm.MethodName) ({ cls := "BitDeskModel", name := "count", desc := "(I)I" } : Jvm.MethodName)) ∈ WS := ws_c6 128 rfl rfl
theorem lk_L_211 : LkV RL 211 jX7_count 1 := ⟨⟨wd_1420, ⟨rfl, (by rw [cwd_nil rfl]; exact wd_1423)⟩, wd_102, ⟨by decide +kernel, by decide +kernel⟩, by decide +kernel⟩, wd_1421, wd_1422⟩
theorem wd_616 : (Jvm.Cond.codeWith ({ cls := "BitDeskLaw", name := "bit", desc := "(LBitDesk;III[J)I" } : Jvm.MethodName) method_4_code (6 : Nat) (Option.some Jvm.ClassFile.FieldType.int) [((0 : Nat), (12 : Nat), (15 : Nat), (19 : Nat))]) ∈ WS := ws_c3 42 rfl rfl
theorem wd_x614 : (Jvm.Cond.methodLink "BitDeskLaw" (212 : Nat) ({ cls := "BitDeskLaw", name := "bit", desc := "(LBitDesk;III[J)I" } : Jvm.MethodName)) ∈ WS := ws_c3 40 rfl rfl
theorem wd_615 : (Jvm.Cond.static ({ cls := "BitDeskLaw", name := "bit", desc := "(LBitDesk;III[J)I" } : Jvm.MethodName)) ∈ WS := ws_c3 41 rfl rfl
theorem lk_L_212 : LkSX RL 212 jL_bit 5 := ⟨wd_x614, ⟨(by decide), (by rw [cwd_hh (by decide)]; exact wd_616)⟩, wd_94, ⟨by decide +kernel, by decide +kernel⟩, by decide +kernel, wd_615⟩
theorem wd_1436 : (Jvm.Cond.code ({ cls := "BitDeskModel", name := "bit", desc := "(III)I" } : Jvm.MethodName) prog_9_method_40_code (4 : Nat) (Option.some Jvm.ClassFile.FieldType.int)) ∈ WS := ws_c6 142 rfl rfl
theorem wd_x1433 : (Jvm.Cond.methodLink "BitDeskLaw" (215 : Nat) ({ cls := "BitDeskModel", name := "bit", desc := "(III)I" } : Jvm.MethodName)) ∈ WS := ws_c6 139 rfl rfl
theorem wd_1434 : (Jvm.Cond.instanceMethod ({ cls := "BitDeskModel", name := "bit", desc := "(III)I" } : Jvm.MethodName)) ∈ WS := ws_c6 140 rfl rfl
theorem wd_1435 : (Jvm.Cond.selects "BitDeskModel" ({ cls := "BitDeskModel", name := "bit", desc := "(III)I" } : Jvm.MethodName) ({ cls := "BitDeskModel", name := "bit", desc := "(III)I" } : Jvm.MethodName)) ∈ WS := ws_c6 141 rfl rfl
theorem lk_L_215 : LkV RL 215 jX7_bit 3 := ⟨⟨wd_x1433, ⟨rfl, (by rw [cwd_nil rfl]; exact wd_1436)⟩, wd_102, ⟨by decide +kernel, by decide +kernel⟩, by decide +kernel⟩, wd_1434, wd_1435⟩
theorem wd_664 : (Jvm.Cond.codeWith ({ cls := "BitDeskLaw", name := "row", desc := "(LBitDesk;II[J)I" } : Jvm.MethodName) method_5_code (5 : Nat) (Option.some Jvm.ClassFile.FieldType.int) [((0 : Nat), (9 : Nat), (12 : Nat), (19 : Nat))]) ∈ WS := ws_c3 90 rfl rfl
theorem wd_x662 : (Jvm.Cond.methodLink "BitDeskLaw" (216 : Nat) ({ cls := "BitDeskLaw", name := "row", desc := "(LBitDesk;II[J)I" } : Jvm.MethodName)) ∈ WS := ws_c3 88 rfl rfl
theorem wd_663 : (Jvm.Cond.static ({ cls := "BitDeskLaw", name := "row", desc := "(LBitDesk;II[J)I" } : Jvm.MethodName)) ∈ WS := ws_c3 89 rfl rfl
theorem lk_L_216 : LkSX RL 216 jL_row 4 := ⟨wd_x662, ⟨(by decide), (by rw [cwd_hh (by decide)]; exact wd_664)⟩, wd_94, ⟨by decide +kernel, by decide +kernel⟩, by decide +kernel, wd_663⟩
theorem wd_1459 : (Jvm.Cond.code ({ cls := "BitDeskModel", name := "row", desc := "(II)J" } : Jvm.MethodName) prog_9_method_41_code (3 : Nat) (Option.some Jvm.ClassFile.FieldType.long)) ∈ WS := ws_c6 165 rfl rfl
theorem wd_x1456 : (Jvm.Cond.methodLink "BitDeskLaw" (219 : Nat) ({ cls := "BitDeskModel", name := "row", desc := "(II)J" } : Jvm.MethodName)) ∈ WS := ws_c6 162 rfl rfl
theorem wd_1457 : (Jvm.Cond.instanceMethod ({ cls := "BitDeskModel", name := "row", desc := "(II)J" } : Jvm.MethodName)) ∈ WS := ws_c6 163 rfl rfl
theorem wd_1458 : (Jvm.Cond.selects "BitDeskModel" ({ cls := "BitDeskModel", name := "row", desc := "(II)J" } : Jvm.MethodName) ({ cls := "BitDeskModel", name := "row", desc := "(II)J" } : Jvm.MethodName)) ∈ WS := ws_c6 164 rfl rfl
theorem lk_L_219 : LkV RL 219 jX7_row 2 := ⟨⟨wd_x1456, ⟨rfl, (by rw [cwd_nil rfl]; exact wd_1459)⟩, wd_102, ⟨by decide +kernel, by decide +kernel⟩, by decide +kernel⟩, wd_1457, wd_1458⟩
theorem wd_675 : (Jvm.Cond.codeWith ({ cls := "BitDeskLaw", name := "rank", desc := "(LBitDesk;III[J)I" } : Jvm.MethodName) method_6_code (6 : Nat) (Option.some Jvm.ClassFile.FieldType.int) [((0 : Nat), (12 : Nat), (15 : Nat), (19 : Nat)), ((0 : Nat), (12 : Nat), (19 : Nat), (13 : Nat))]) ∈ WS := ws_c3 101 rfl rfl
theorem wd_x673 : (Jvm.Cond.methodLink "BitDeskLaw" (220 : Nat) ({ cls := "BitDeskLaw", name := "rank", desc := "(LBitDesk;III[J)I" } : Jvm.MethodName)) ∈ WS := ws_c3 99 rfl rfl
theorem wd_674 : (Jvm.Cond.static ({ cls := "BitDeskLaw", name := "rank", desc := "(LBitDesk;III[J)I" } : Jvm.MethodName)) ∈ WS := ws_c3 100 rfl rfl
theorem lk_L_220 : LkSX RL 220 jL_rank 5 := ⟨wd_x673, ⟨(by decide), (by rw [cwd_hh (by decide)]; exact wd_675)⟩, wd_94, ⟨by decide +kernel, by decide +kernel⟩, by decide +kernel, wd_674⟩
theorem wd_1463 : (Jvm.Cond.code ({ cls := "BitDeskModel", name := "rank", desc := "(III)I" } : Jvm.MethodName) prog_9_method_42_code (4 : Nat) (Option.some Jvm.ClassFile.FieldType.int)) ∈ WS := ws_c6 169 rfl rfl
theorem wd_x1460 : (Jvm.Cond.methodLink "BitDeskLaw" (222 : Nat) ({ cls := "BitDeskModel", name := "rank", desc := "(III)I" } : Jvm.MethodName)) ∈ WS := ws_c6 166 rfl rfl
theorem wd_1461 : (Jvm.Cond.instanceMethod ({ cls := "BitDeskModel", name := "rank", desc := "(III)I" } : Jvm.MethodName)) ∈ WS := ws_c6 167 rfl rfl
theorem wd_1462 : (Jvm.Cond.selects "BitDeskModel" ({ cls := "BitDeskModel", name := "rank", desc := "(III)I" } : Jvm.MethodName) ({ cls := "BitDeskModel", name := "rank", desc := "(III)I" } : Jvm.MethodName)) ∈ WS := ws_c6 168 rfl rfl
theorem lk_L_222 : LkV RL 222 jX7_rank 3 := ⟨⟨wd_x1460, ⟨rfl, (by rw [cwd_nil rfl]; exact wd_1463)⟩, wd_102, ⟨by decide +kernel, by decide +kernel⟩, by decide +kernel⟩, wd_1461, wd_1462⟩
theorem wd_689 : (Jvm.Cond.codeWith ({ cls := "BitDeskLaw", name := "select", desc := "(LBitDesk;III[J)I" } : Jvm.MethodName) method_7_code (6 : Nat) (Option.some Jvm.ClassFile.FieldType.int) [((0 : Nat), (12 : Nat), (15 : Nat), (19 : Nat))]) ∈ WS := ws_c3 115 rfl rfl
theorem wd_x687 : (Jvm.Cond.methodLink "BitDeskLaw" (223 : Nat) ({ cls := "BitDeskLaw", name := "select", desc := "(LBitDesk;III[J)I" } : Jvm.MethodName)) ∈ WS := ws_c3 113 rfl rfl
theorem wd_688 : (Jvm.Cond.static ({ cls := "BitDeskLaw", name := "select", desc := "(LBitDesk;III[J)I" } : Jvm.MethodName)) ∈ WS := ws_c3 114 rfl rfl
theorem lk_L_223 : LkSX RL 223 jL_select 5 := ⟨wd_x687, ⟨(by decide), (by rw [cwd_hh (by decide)]; exact wd_689)⟩, wd_94, ⟨by decide +kernel, by decide +kernel⟩, by decide +kernel, wd_688⟩
theorem wd_1470 : (Jvm.Cond.code ({ cls := "BitDeskModel", name := "select", desc := "(III)I" } : Jvm.MethodName) prog_9_method_43_code (6 : Nat) (Option.some Jvm.ClassFile.FieldType.int)) ∈ WS := ws_c6 176 rfl rfl
theorem wd_x1467 : (Jvm.Cond.methodLink "BitDeskLaw" (225 : Nat) ({ cls := "BitDeskModel", name := "select", desc := "(III)I" } : Jvm.MethodName)) ∈ WS := ws_c6 173 rfl rfl
theorem wd_1468 : (Jvm.Cond.instanceMethod ({ cls := "BitDeskModel", name := "select", desc := "(III)I" } : Jvm.MethodName)) ∈ WS := ws_c6 174 rfl rfl
theorem wd_1469 : (Jvm.Cond.selects "BitDeskModel" ({ cls := "BitDeskModel", name := "select", desc := "(III)I" } : Jvm.MethodName) ({ cls := "BitDeskModel", name := "select", desc := "(III)I" } : Jvm.MethodName)) ∈ WS := ws_c6 175 rfl rfl
theorem lk_L_225 : LkV RL 225 jX7_select 3 := ⟨⟨wd_x1467, ⟨rfl, (by rw [cwd_nil rfl]; exact wd_1470)⟩, wd_102, ⟨by decide +kernel, by decide +kernel⟩, by decide +kernel⟩, wd_1468, wd_1469⟩
theorem wd_699 : (Jvm.Cond.codeWith ({ cls := "BitDeskLaw", name := "ones", desc := "(LBitDesk;I[J)I" } : Jvm.MethodName) method_8_code (4 : Nat) (Option.some Jvm.ClassFile.FieldType.int) [((0 : Nat), (9 : Nat), (12 : Nat), (19 : Nat))]) ∈ WS := ws_c3 125 rfl rfl
theorem wd_x697 : (Jvm.Cond.methodLink "BitDeskLaw" (226 : Nat) ({ cls := "BitDeskLaw", name := "ones", desc := "(LBitDesk;I[J)I" } : Jvm.MethodName)) ∈ WS := ws_c3 123 rfl rfl
theorem wd_698 : (Jvm.Cond.static ({ cls := "BitDeskLaw", name := "ones", desc := "(LBitDesk;I[J)I" } : Jvm.MethodName)) ∈ WS := ws_c3 124 rfl rfl
theorem lk_L_226 : LkSX RL 226 jL_ones 3 := ⟨wd_x697, ⟨(by decide), (by rw [cwd_hh (by decide)]; exact wd_699)⟩, wd_94, ⟨by decide +kernel, by decide +kernel⟩, by decide +kernel, wd_698⟩
theorem wd_1474 : (Jvm.Cond.code ({ cls := "BitDeskModel", name := "ones", desc := "(I)I" } : Jvm.MethodName) prog_9_method_45_code (2 : Nat) (Option.some Jvm.ClassFile.FieldType.int)) ∈ WS := ws_c6 180 rfl rfl
theorem wd_x1471 : (Jvm.Cond.methodLink "BitDeskLaw" (228 : Nat) ({ cls := "BitDeskModel", name := "ones", desc := "(I)I" } : Jvm.MethodName)) ∈ WS := ws_c6 177 rfl rfl
theorem wd_1472 : (Jvm.Cond.instanceMethod ({ cls := "BitDeskModel", name := "ones", desc := "(I)I" } : Jvm.MethodName)) ∈ WS := ws_c6 178 rfl rfl
theorem wd_1473 : (Jvm.Cond.selects "BitDeskModel" ({ cls := "BitDeskModel", name := "ones", desc := "(I)I" } : Jvm.MethodName) ({ cls := "BitDeskModel", name := "ones", desc := "(I)I" } : Jvm.MethodName)) ∈ WS := ws_c6 179 rfl rfl
theorem lk_L_228 : LkV RL 228 jX7_ones 1 := ⟨⟨wd_x1471, ⟨rfl, (by rw [cwd_nil rfl]; exact wd_1474)⟩, wd_102, ⟨by decide +kernel, by decide +kernel⟩, by decide +kernel⟩, wd_1472, wd_1473⟩
theorem wd_709 : (Jvm.Cond.codeWith ({ cls := "BitDeskLaw", name := "columnOnes", desc := "(LBitDesk;II[J)I" } : Jvm.MethodName) method_9_code (5 : Nat) (Option.some Jvm.ClassFile.FieldType.int) [((0 : Nat), (10 : Nat), (13 : Nat), (19 : Nat))]) ∈ WS := ws_c3 135 rfl rfl
theorem wd_x707 : (Jvm.Cond.methodLink "BitDeskLaw" (229 : Nat) ({ cls := "BitDeskLaw", name := "columnOnes", desc := "(LBitDesk;II[J)I" } : Jvm.MethodName)) ∈ WS := ws_c3 133 rfl rfl
theorem wd_708 : (Jvm.Cond.static ({ cls := "BitDeskLaw", name := "columnOnes", desc := "(LBitDesk;II[J)I" } : Jvm.MethodName)) ∈ WS := ws_c3 134 rfl rfl
theorem lk_L_229 : LkSX RL 229 jL_columnOnes 4 := ⟨wd_x707, ⟨(by decide), (by rw [cwd_hh (by decide)]; exact wd_709)⟩, wd_94, ⟨by decide +kernel, by decide +kernel⟩, by decide +kernel, wd_708⟩
theorem wd_1482 : (Jvm.Cond.code ({ cls := "BitDeskModel", name := "columnOnes", desc := "(II)I" } : Jvm.MethodName) prog_9_method_46_code (5 : Nat) (Option.some Jvm.ClassFile.FieldType.int)) ∈ WS := ws_c6 188 rfl rfl
theorem wd_x1479 : (Jvm.Cond.methodLink "BitDeskLaw" (231 : Nat) ({ cls := "BitDeskModel", name := "columnOnes", desc := "(II)I" } : Jvm.MethodName)) ∈ WS := ws_c6 185 rfl rfl
theorem wd_1480 : (Jvm.Cond.instanceMethod ({ cls := "BitDeskModel", name := "columnOnes", desc := "(II)I" } : Jvm.MethodName)) ∈ WS := ws_c6 186 rfl rfl
theorem wd_1481 : (Jvm.Cond.selects "BitDeskModel" ({ cls := "BitDeskModel", name := "columnOnes", desc := "(II)I" } : Jvm.MethodName) ({ cls := "BitDeskModel", name := "columnOnes", desc := "(II)I" } : Jvm.MethodName)) ∈ WS := ws_c6 187 rfl rfl
theorem lk_L_231 : LkV RL 231 jX7_columnOnes 2 := ⟨⟨wd_x1479, ⟨rfl, (by rw [cwd_nil rfl]; exact wd_1482)⟩, wd_102, ⟨by decide +kernel, by decide +kernel⟩, by decide +kernel⟩, wd_1480, wd_1481⟩
theorem wd_719 : (Jvm.Cond.codeWith ({ cls := "BitDeskLaw", name := "sameAs", desc := "(LBitDesk;II[J)I" } : Jvm.MethodName) method_10_code (5 : Nat) (Option.some Jvm.ClassFile.FieldType.int) [((0 : Nat), (10 : Nat), (13 : Nat), (19 : Nat))]) ∈ WS := ws_c3 145 rfl rfl
theorem wd_x717 : (Jvm.Cond.methodLink "BitDeskLaw" (232 : Nat) ({ cls := "BitDeskLaw", name := "sameAs", desc := "(LBitDesk;II[J)I" } : Jvm.MethodName)) ∈ WS := ws_c3 143 rfl rfl
theorem wd_718 : (Jvm.Cond.static ({ cls := "BitDeskLaw", name := "sameAs", desc := "(LBitDesk;II[J)I" } : Jvm.MethodName)) ∈ WS := ws_c3 144 rfl rfl
theorem lk_L_232 : LkSX RL 232 jL_sameAs 4 := ⟨wd_x717, ⟨(by decide), (by rw [cwd_hh (by decide)]; exact wd_719)⟩, wd_94, ⟨by decide +kernel, by decide +kernel⟩, by decide +kernel, wd_718⟩
theorem wd_1486 : (Jvm.Cond.code ({ cls := "BitDeskModel", name := "sameAs", desc := "(II)I" } : Jvm.MethodName) prog_9_method_48_code (3 : Nat) (Option.some Jvm.ClassFile.FieldType.int)) ∈ WS := ws_c6 192 rfl rfl
theorem wd_x1483 : (Jvm.Cond.methodLink "BitDeskLaw" (234 : Nat) ({ cls := "BitDeskModel", name := "sameAs", desc := "(II)I" } : Jvm.MethodName)) ∈ WS := ws_c6 189 rfl rfl
theorem wd_1484 : (Jvm.Cond.instanceMethod ({ cls := "BitDeskModel", name := "sameAs", desc := "(II)I" } : Jvm.MethodName)) ∈ WS := ws_c6 190 rfl rfl
theorem wd_1485 : (Jvm.Cond.selects "BitDeskModel" ({ cls := "BitDeskModel", name := "sameAs", desc := "(II)I" } : Jvm.MethodName) ({ cls := "BitDeskModel", name := "sameAs", desc := "(II)I" } : Jvm.MethodName)) ∈ WS := ws_c6 191 rfl rfl
theorem lk_L_234 : LkV RL 234 jX7_sameAs 2 := ⟨⟨wd_x1483, ⟨rfl, (by rw [cwd_nil rfl]; exact wd_1486)⟩, wd_102, ⟨by decide +kernel, by decide +kernel⟩, by decide +kernel⟩, wd_1484, wd_1485⟩
theorem wd_730 : (Jvm.Cond.codeWith ({ cls := "BitDeskLaw", name := "classes", desc := "(LBitDesk;I[J)I" } : Jvm.MethodName) method_11_code (4 : Nat) (Option.some Jvm.ClassFile.FieldType.int) [((0 : Nat), (9 : Nat), (12 : Nat), (19 : Nat))]) ∈ WS := ws_c3 156 rfl rfl
theorem wd_x728 : (Jvm.Cond.methodLink "BitDeskLaw" (235 : Nat) ({ cls := "BitDeskLaw", name := "classes", desc := "(LBitDesk;I[J)I" } : Jvm.MethodName)) ∈ WS := ws_c3 154 rfl rfl
theorem wd_729 : (Jvm.Cond.static ({ cls := "BitDeskLaw", name := "classes", desc := "(LBitDesk;I[J)I" } : Jvm.MethodName)) ∈ WS := ws_c3 155 rfl rfl
theorem lk_L_235 : LkSX RL 235 jL_classes 3 := ⟨wd_x728, ⟨(by decide), (by rw [cwd_hh (by decide)]; exact wd_730)⟩, wd_94, ⟨by decide +kernel, by decide +kernel⟩, by decide +kernel, wd_729⟩
theorem wd_1502 : (Jvm.Cond.code ({ cls := "BitDeskModel", name := "classes", desc := "(I)I" } : Jvm.MethodName) prog_9_method_51_code (2 : Nat) (Option.some Jvm.ClassFile.FieldType.int)) ∈ WS := ws_c6 208 rfl rfl
theorem wd_x1499 : (Jvm.Cond.methodLink "BitDeskLaw" (237 : Nat) ({ cls := "BitDeskModel", name := "classes", desc := "(I)I" } : Jvm.MethodName)) ∈ WS := ws_c6 205 rfl rfl
theorem wd_1500 : (Jvm.Cond.instanceMethod ({ cls := "BitDeskModel", name := "classes", desc := "(I)I" } : Jvm.MethodName)) ∈ WS := ws_c6 206 rfl rfl
theorem wd_1501 : (Jvm.Cond.selects "BitDeskModel" ({ cls := "BitDeskModel", name := "classes", desc := "(I)I" } : Jvm.MethodName) ({ cls := "BitDeskModel", name := "classes", desc := "(I)I" } : Jvm.MethodName)) ∈ WS := ws_c6 207 rfl rfl
theorem lk_L_237 : LkV RL 237 jX7_classes 1 := ⟨⟨wd_x1499, ⟨rfl, (by rw [cwd_nil rfl]; exact wd_1502)⟩, wd_102, ⟨by decide +kernel, by decide +kernel⟩, by decide +kernel⟩, wd_1500, wd_1501⟩
theorem wd_741 : (Jvm.Cond.codeWith ({ cls := "BitDeskLaw", name := "classOf", desc := "(LBitDesk;II[J)I" } : Jvm.MethodName) method_12_code (5 : Nat) (Option.some Jvm.ClassFile.FieldType.int) [((0 : Nat), (10 : Nat), (13 : Nat), (19 : Nat))]) ∈ WS := ws_c3 167 rfl rfl
theorem wd_x739 : (Jvm.Cond.methodLink "BitDeskLaw" (238 : Nat) ({ cls := "BitDeskLaw", name := "classOf", desc := "(LBitDesk;II[J)I" } : Jvm.MethodName)) ∈ WS := ws_c3 165 rfl rfl
theorem wd_740 : (Jvm.Cond.static ({ cls := "BitDeskLaw", name := "classOf", desc := "(LBitDesk;II[J)I" } : Jvm.MethodName)) ∈ WS := ws_c3 166 rfl rfl
theorem lk_L_238 : LkSX RL 238 jL_classOf 4 := ⟨wd_x739, ⟨(by decide), (by rw [cwd_hh (by decide)]; exact wd_741)⟩, wd_94, ⟨by decide +kernel, by decide +kernel⟩, by decide +kernel, wd_740⟩
theorem wd_1510 : (Jvm.Cond.code ({ cls := "BitDeskModel", name := "classOf", desc := "(II)I" } : Jvm.MethodName) prog_9_method_52_code (3 : Nat) (Option.some Jvm.ClassFile.FieldType.int)) ∈ WS := ws_c6 216 rfl rfl
theorem wd_x1507 : (Jvm.Cond.methodLink "BitDeskLaw" (240 : Nat) ({ cls := "BitDeskModel", name := "classOf", desc := "(II)I" } : Jvm.MethodName)) ∈ WS := ws_c6 213 rfl rfl
theorem wd_1508 : (Jvm.Cond.instanceMethod ({ cls := "BitDeskModel", name := "classOf", desc := "(II)I" } : Jvm.MethodName)) ∈ WS := ws_c6 214 rfl rfl
theorem wd_1509 : (Jvm.Cond.selects "BitDeskModel" ({ cls := "BitDeskModel", name := "classOf", desc := "(II)I" } : Jvm.MethodName) ({ cls := "BitDeskModel", name := "classOf", desc := "(II)I" } : Jvm.MethodName)) ∈ WS := ws_c6 215 rfl rfl
theorem lk_L_240 : LkV RL 240 jX7_classOf 2 := ⟨⟨wd_x1507, ⟨rfl, (by rw [cwd_nil rfl]; exact wd_1510)⟩, wd_102, ⟨by decide +kernel, by decide +kernel⟩, by decide +kernel⟩, wd_1508, wd_1509⟩
theorem wd_748 : (Jvm.Cond.codeWith ({ cls := "BitDeskLaw", name := "find", desc := "(LBitDesk;IJ[J)I" } : Jvm.MethodName) method_13_code (6 : Nat) (Option.some Jvm.ClassFile.FieldType.int) [((0 : Nat), (11 : Nat), (14 : Nat), (19 : Nat))]) ∈ WS := ws_c3 174 rfl rfl
theorem wd_x746 : (Jvm.Cond.methodLink "BitDeskLaw" (241 : Nat) ({ cls := "BitDeskLaw", name := "find", desc := "(LBitDesk;IJ[J)I" } : Jvm.MethodName)) ∈ WS := ws_c3 172 rfl rfl
theorem wd_747 : (Jvm.Cond.static ({ cls := "BitDeskLaw", name := "find", desc := "(LBitDesk;IJ[J)I" } : Jvm.MethodName)) ∈ WS := ws_c3 173 rfl rfl
theorem lk_L_241 : LkSX RL 241 jL_find 4 := ⟨wd_x746, ⟨(by decide), (by rw [cwd_hh (by decide)]; exact wd_748)⟩, wd_94, ⟨by decide +kernel, by decide +kernel⟩, by decide +kernel, wd_747⟩
theorem wd_1494 : (Jvm.Cond.code ({ cls := "BitDeskModel", name := "find", desc := "(IJ)I" } : Jvm.MethodName) prog_9_method_49_code (5 : Nat) (Option.some Jvm.ClassFile.FieldType.int)) ∈ WS := ws_c6 200 rfl rfl
theorem wd_x1491 : (Jvm.Cond.methodLink "BitDeskLaw" (244 : Nat) ({ cls := "BitDeskModel", name := "find", desc := "(IJ)I" } : Jvm.MethodName)) ∈ WS := ws_c6 197 rfl rfl
theorem wd_1492 : (Jvm.Cond.instanceMethod ({ cls := "BitDeskModel", name := "find", desc := "(IJ)I" } : Jvm.MethodName)) ∈ WS := ws_c6 198 rfl rfl
theorem wd_1493 : (Jvm.Cond.selects "BitDeskModel" ({ cls := "BitDeskModel", name := "find", desc := "(IJ)I" } : Jvm.MethodName) ({ cls := "BitDeskModel", name := "find", desc := "(IJ)I" } : Jvm.MethodName)) ∈ WS := ws_c6 199 rfl rfl
theorem lk_L_244 : LkV RL 244 jX7_find 2 := ⟨⟨wd_x1491, ⟨rfl, (by rw [cwd_nil rfl]; exact wd_1494)⟩, wd_102, ⟨by decide +kernel, by decide +kernel⟩, by decide +kernel⟩, wd_1492, wd_1493⟩
theorem wd_755 : (Jvm.Cond.codeWith ({ cls := "BitDeskLaw", name := "nearest", desc := "(LBitDesk;II[J)I" } : Jvm.MethodName) method_14_code (5 : Nat) (Option.some Jvm.ClassFile.FieldType.int) [((0 : Nat), (10 : Nat), (13 : Nat), (19 : Nat))]) ∈ WS := ws_c3 181 rfl rfl
theorem wd_x753 : (Jvm.Cond.methodLink "BitDeskLaw" (245 : Nat) ({ cls := "BitDeskLaw", name := "nearest", desc := "(LBitDesk;II[J)I" } : Jvm.MethodName)) ∈ WS := ws_c3 179 rfl rfl
theorem wd_754 : (Jvm.Cond.static ({ cls := "BitDeskLaw", name := "nearest", desc := "(LBitDesk;II[J)I" } : Jvm.MethodName)) ∈ WS := ws_c3 180 rfl rfl
theorem lk_L_245 : LkSX RL 245 jL_nearest 4 := ⟨wd_x753, ⟨(by decide), (by rw [cwd_hh (by decide)]; exact wd_755)⟩, wd_94, ⟨by decide +kernel, by decide +kernel⟩, by decide +kernel, wd_754⟩
theorem wd_1514 : (Jvm.Cond.code ({ cls := "BitDeskModel", name := "nearest", desc := "(II)I" } : Jvm.MethodName) prog_9_method_53_code (7 : Nat) (Option.some Jvm.ClassFile.FieldType.int)) ∈ WS := ws_c6 220 rfl rfl
theorem wd_x1511 : (Jvm.Cond.methodLink "BitDeskLaw" (247 : Nat) ({ cls := "BitDeskModel", name := "nearest", desc := "(II)I" } : Jvm.MethodName)) ∈ WS := ws_c6 217 rfl rfl
theorem wd_1512 : (Jvm.Cond.instanceMethod ({ cls := "BitDeskModel", name := "nearest", desc := "(II)I" } : Jvm.MethodName)) ∈ WS := ws_c6 218 rfl rfl
theorem wd_1513 : (Jvm.Cond.selects "BitDeskModel" ({ cls := "BitDeskModel", name := "nearest", desc := "(II)I" } : Jvm.MethodName) ({ cls := "BitDeskModel", name := "nearest", desc := "(II)I" } : Jvm.MethodName)) ∈ WS := ws_c6 219 rfl rfl
theorem lk_L_247 : LkV RL 247 jX7_nearest 2 := ⟨⟨wd_x1511, ⟨rfl, (by rw [cwd_nil rfl]; exact wd_1514)⟩, wd_102, ⟨by decide +kernel, by decide +kernel⟩, by decide +kernel⟩, wd_1512, wd_1513⟩
theorem wd_762 : (Jvm.Cond.codeWith ({ cls := "BitDeskLaw", name := "density", desc := "(LBitDesk;I[D)I" } : Jvm.MethodName) method_15_code (4 : Nat) (Option.some Jvm.ClassFile.FieldType.int) [((0 : Nat), (8 : Nat), (11 : Nat), (19 : Nat))]) ∈ WS := ws_c3 188 rfl rfl
theorem wd_x760 : (Jvm.Cond.methodLink "BitDeskLaw" (248 : Nat) ({ cls := "BitDeskLaw", name := "density", desc := "(LBitDesk;I[D)I" } : Jvm.MethodName)) ∈ WS := ws_c3 186 rfl rfl
theorem wd_761 : (Jvm.Cond.static ({ cls := "BitDeskLaw", name := "density", desc := "(LBitDesk;I[D)I" } : Jvm.MethodName)) ∈ WS := ws_c3 187 rfl rfl
theorem lk_L_248 : LkSX RL 248 jL_density 3 := ⟨wd_x760, ⟨(by decide), (by rw [cwd_hh (by decide)]; exact wd_762)⟩, wd_94, ⟨by decide +kernel, by decide +kernel⟩, by decide +kernel, wd_761⟩
theorem wd_1518 : (Jvm.Cond.code ({ cls := "BitDeskModel", name := "density", desc := "(I)D" } : Jvm.MethodName) prog_9_method_54_code (2 : Nat) (Option.some Jvm.ClassFile.FieldType.double)) ∈ WS := ws_c6 224 rfl rfl
theorem wd_x1515 : (Jvm.Cond.methodLink "BitDeskLaw" (251 : Nat) ({ cls := "BitDeskModel", name := "density", desc := "(I)D" } : Jvm.MethodName)) ∈ WS := ws_c6 221 rfl rfl
theorem wd_1516 : (Jvm.Cond.instanceMethod ({ cls := "BitDeskModel", name := "density", desc := "(I)D" } : Jvm.MethodName)) ∈ WS := ws_c6 222 rfl rfl
theorem wd_1517 : (Jvm.Cond.selects "BitDeskModel" ({ cls := "BitDeskModel", name := "density", desc := "(I)D" } : Jvm.MethodName) ({ cls := "BitDeskModel", name := "density", desc := "(I)D" } : Jvm.MethodName)) ∈ WS := ws_c6 223 rfl rfl
theorem lk_L_251 : LkV RL 251 jX7_density 1 := ⟨⟨wd_x1515, ⟨rfl, (by rw [cwd_nil rfl]; exact wd_1518)⟩, wd_102, ⟨by decide +kernel, by decide +kernel⟩, by decide +kernel⟩, wd_1516, wd_1517⟩
theorem wd_770 : (Jvm.Cond.codeWith ({ cls := "BitDeskLaw", name := "isSymmetric", desc := "(LBitDesk;I[J)I" } : Jvm.MethodName) method_16_code (4 : Nat) (Option.some Jvm.ClassFile.FieldType.int) [((0 : Nat), (16 : Nat), (19 : Nat), (19 : Nat))]) ∈ WS := ws_c3 196 rfl rfl
theorem wd_x768 : (Jvm.Cond.methodLink "BitDeskLaw" (252 : Nat) ({ cls := "BitDeskLaw", name := "isSymmetric", desc := "(LBitDesk;I[J)I" } : Jvm.MethodName)) ∈ WS := ws_c3 194 rfl rfl
theorem wd_769 : (Jvm.Cond.static ({ cls := "BitDeskLaw", name := "isSymmetric", desc := "(LBitDesk;I[J)I" } : Jvm.MethodName)) ∈ WS := ws_c3 195 rfl rfl
theorem lk_L_252 : LkSX RL 252 jL_isSymmetric 3 := ⟨wd_x768, ⟨(by decide), (by rw [cwd_hh (by decide)]; exact wd_770)⟩, wd_94, ⟨by decide +kernel, by decide +kernel⟩, by decide +kernel, wd_769⟩
theorem wd_1522 : (Jvm.Cond.code ({ cls := "BitDeskModel", name := "isSymmetric", desc := "(I)Z" } : Jvm.MethodName) prog_9_method_55_code (4 : Nat) (Option.some Jvm.ClassFile.FieldType.boolean)) ∈ WS := ws_c6 228 rfl rfl
theorem wd_x1519 : (Jvm.Cond.methodLink "BitDeskLaw" (254 : Nat) ({ cls := "BitDeskModel", name := "isSymmetric", desc := "(I)Z" } : Jvm.MethodName)) ∈ WS := ws_c6 225 rfl rfl
theorem wd_1520 : (Jvm.Cond.instanceMethod ({ cls := "BitDeskModel", name := "isSymmetric", desc := "(I)Z" } : Jvm.MethodName)) ∈ WS := ws_c6 226 rfl rfl
theorem wd_1521 : (Jvm.Cond.selects "BitDeskModel" ({ cls := "BitDeskModel", name := "isSymmetric", desc := "(I)Z" } : Jvm.MethodName) ({ cls := "BitDeskModel", name := "isSymmetric", desc := "(I)Z" } : Jvm.MethodName)) ∈ WS := ws_c6 227 rfl rfl
theorem lk_L_254 : LkV RL 254 jX7_isSymmetric 1 := ⟨⟨wd_x1519, ⟨rfl, (by rw [cwd_nil rfl]; exact wd_1522)⟩, wd_102, ⟨by decide +kernel, by decide +kernel⟩, by decide +kernel⟩, wd_1520, wd_1521⟩
theorem wd_777 : (Jvm.Cond.codeWith ({ cls := "BitDeskLaw", name := "reaches", desc := "(LBitDesk;III[J)I" } : Jvm.MethodName) method_17_code (6 : Nat) (Option.some Jvm.ClassFile.FieldType.int) [((0 : Nat), (12 : Nat), (15 : Nat), (19 : Nat))]) ∈ WS := ws_c3 203 rfl rfl
theorem wd_x775 : (Jvm.Cond.methodLink "BitDeskLaw" (255 : Nat) ({ cls := "BitDeskLaw", name := "reaches", desc := "(LBitDesk;III[J)I" } : Jvm.MethodName)) ∈ WS := ws_c3 201 rfl rfl
theorem wd_776 : (Jvm.Cond.static ({ cls := "BitDeskLaw", name := "reaches", desc := "(LBitDesk;III[J)I" } : Jvm.MethodName)) ∈ WS := ws_c3 202 rfl rfl
theorem lk_L_255 : LkSX RL 255 jL_reaches 5 := ⟨wd_x775, ⟨(by decide), (by rw [cwd_hh (by decide)]; exact wd_777)⟩, wd_94, ⟨by decide +kernel, by decide +kernel⟩, by decide +kernel, wd_776⟩
theorem wd_1526 : (Jvm.Cond.code ({ cls := "BitDeskModel", name := "reaches", desc := "(III)I" } : Jvm.MethodName) prog_9_method_60_code (4 : Nat) (Option.some Jvm.ClassFile.FieldType.int)) ∈ WS := ws_c6 232 rfl rfl
theorem wd_x1523 : (Jvm.Cond.methodLink "BitDeskLaw" (257 : Nat) ({ cls := "BitDeskModel", name := "reaches", desc := "(III)I" } : Jvm.MethodName)) ∈ WS := ws_c6 229 rfl rfl
theorem wd_1524 : (Jvm.Cond.instanceMethod ({ cls := "BitDeskModel", name := "reaches", desc := "(III)I" } : Jvm.MethodName)) ∈ WS := ws_c6 230 rfl rfl
theorem wd_1525 : (Jvm.Cond.selects "BitDeskModel" ({ cls := "BitDeskModel", name := "reaches", desc := "(III)I" } : Jvm.MethodName) ({ cls := "BitDeskModel", name := "reaches", desc := "(III)I" } : Jvm.MethodName)) ∈ WS := ws_c6 231 rfl rfl
theorem lk_L_257 : LkV RL 257 jX7_reaches 3 := ⟨⟨wd_x1523, ⟨rfl, (by rw [cwd_nil rfl]; exact wd_1526)⟩, wd_102, ⟨by decide +kernel, by decide +kernel⟩, by decide +kernel⟩, wd_1524, wd_1525⟩
theorem wd_794 : (Jvm.Cond.codeWith ({ cls := "BitDeskLaw", name := "reached", desc := "(LBitDesk;II[J)I" } : Jvm.MethodName) method_18_code (5 : Nat) (Option.some Jvm.ClassFile.FieldType.int) [((0 : Nat), (10 : Nat), (13 : Nat), (19 : Nat))]) ∈ WS := ws_c3 220 rfl rfl
theorem wd_x792 : (Jvm.Cond.methodLink "BitDeskLaw" (258 : Nat) ({ cls := "BitDeskLaw", name := "reached", desc := "(LBitDesk;II[J)I" } : Jvm.MethodName)) ∈ WS := ws_c3 218 rfl rfl
theorem wd_793 : (Jvm.Cond.static ({ cls := "BitDeskLaw", name := "reached", desc := "(LBitDesk;II[J)I" } : Jvm.MethodName)) ∈ WS := ws_c3 219 rfl rfl
theorem lk_L_258 : LkSX RL 258 jL_reached 4 := ⟨wd_x792, ⟨(by decide), (by rw [cwd_hh (by decide)]; exact wd_794)⟩, wd_94, ⟨by decide +kernel, by decide +kernel⟩, by decide +kernel, wd_793⟩
theorem wd_1542 : (Jvm.Cond.code ({ cls := "BitDeskModel", name := "reached", desc := "(II)I" } : Jvm.MethodName) prog_9_method_61_code (3 : Nat) (Option.some Jvm.ClassFile.FieldType.int)) ∈ WS := ws_c7 8 rfl rfl
theorem wd_x1539 : (Jvm.Cond.methodLink "BitDeskLaw" (260 : Nat) ({ cls := "BitDeskModel", name := "reached", desc := "(II)I" } : Jvm.MethodName)) ∈ WS := ws_c7 5 rfl rfl
theorem wd_1540 : (Jvm.Cond.instanceMethod ({ cls := "BitDeskModel", name := "reached", desc := "(II)I" } : Jvm.MethodName)) ∈ WS := ws_c7 6 rfl rfl
theorem wd_1541 : (Jvm.Cond.selects "BitDeskModel" ({ cls := "BitDeskModel", name := "reached", desc := "(II)I" } : Jvm.MethodName) ({ cls := "BitDeskModel", name := "reached", desc := "(II)I" } : Jvm.MethodName)) ∈ WS := ws_c7 7 rfl rfl
theorem lk_L_260 : LkV RL 260 jX7_reached 2 := ⟨⟨wd_x1539, ⟨rfl, (by rw [cwd_nil rfl]; exact wd_1542)⟩, wd_102, ⟨by decide +kernel, by decide +kernel⟩, by decide +kernel⟩, wd_1540, wd_1541⟩
theorem wd_801 : (Jvm.Cond.codeWith ({ cls := "BitDeskLaw", name := "pairs", desc := "(LBitDesk;I[J)I" } : Jvm.MethodName) method_19_code (4 : Nat) (Option.some Jvm.ClassFile.FieldType.int) [((0 : Nat), (9 : Nat), (12 : Nat), (19 : Nat))]) ∈ WS := ws_c3 227 rfl rfl
theorem wd_x799 : (Jvm.Cond.methodLink "BitDeskLaw" (261 : Nat) ({ cls := "BitDeskLaw", name := "pairs", desc := "(LBitDesk;I[J)I" } : Jvm.MethodName)) ∈ WS := ws_c3 225 rfl rfl
theorem wd_800 : (Jvm.Cond.static ({ cls := "BitDeskLaw", name := "pairs", desc := "(LBitDesk;I[J)I" } : Jvm.MethodName)) ∈ WS := ws_c3 226 rfl rfl
theorem lk_L_261 : LkSX RL 261 jL_pairs 3 := ⟨wd_x799, ⟨(by decide), (by rw [cwd_hh (by decide)]; exact wd_801)⟩, wd_94, ⟨by decide +kernel, by decide +kernel⟩, by decide +kernel, wd_800⟩
theorem wd_1546 : (Jvm.Cond.code ({ cls := "BitDeskModel", name := "pairs", desc := "(I)I" } : Jvm.MethodName) prog_9_method_63_code (2 : Nat) (Option.some Jvm.ClassFile.FieldType.int)) ∈ WS := ws_c7 12 rfl rfl
theorem wd_x1543 : (Jvm.Cond.methodLink "BitDeskLaw" (263 : Nat) ({ cls := "BitDeskModel", name := "pairs", desc := "(I)I" } : Jvm.MethodName)) ∈ WS := ws_c7 9 rfl rfl
theorem wd_1544 : (Jvm.Cond.instanceMethod ({ cls := "BitDeskModel", name := "pairs", desc := "(I)I" } : Jvm.MethodName)) ∈ WS := ws_c7 10 rfl rfl
theorem wd_1545 : (Jvm.Cond.selects "BitDeskModel" ({ cls := "BitDeskModel", name := "pairs", desc := "(I)I" } : Jvm.MethodName) ({ cls := "BitDeskModel", name := "pairs", desc := "(I)I" } : Jvm.MethodName)) ∈ WS := ws_c7 11 rfl rfl
theorem lk_L_263 : LkV RL 263 jX7_pairs 1 := ⟨⟨wd_x1543, ⟨rfl, (by rw [cwd_nil rfl]; exact wd_1546)⟩, wd_102, ⟨by decide +kernel, by decide +kernel⟩, by decide +kernel⟩, wd_1544, wd_1545⟩
theorem wd_808 : (Jvm.Cond.codeWith ({ cls := "BitDeskLaw", name := "meanReach", desc := "(LBitDesk;I[D)I" } : Jvm.MethodName) method_20_code (4 : Nat) (Option.some Jvm.ClassFile.FieldType.int) [((0 : Nat), (9 : Nat), (12 : Nat), (19 : Nat))]) ∈ WS := ws_c3 234 rfl rfl
theorem wd_x806 : (Jvm.Cond.methodLink "BitDeskLaw" (264 : Nat) ({ cls := "BitDeskLaw", name := "meanReach", desc := "(LBitDesk;I[D)I" } : Jvm.MethodName)) ∈ WS := ws_c3 232 rfl rfl
theorem wd_807 : (Jvm.Cond.static ({ cls := "BitDeskLaw", name := "meanReach", desc := "(LBitDesk;I[D)I" } : Jvm.MethodName)) ∈ WS := ws_c3 233 rfl rfl
theorem lk_L_264 : LkSX RL 264 jL_meanReach 3 := ⟨wd_x806, ⟨(by decide), (by rw [cwd_hh (by decide)]; exact wd_808)⟩, wd_94, ⟨by decide +kernel, by decide +kernel⟩, by decide +kernel, wd_807⟩
theorem wd_1558 : (Jvm.Cond.code ({ cls := "BitDeskModel", name := "meanReach", desc := "(I)F" } : Jvm.MethodName) prog_9_method_64_code (2 : Nat) (Option.some Jvm.ClassFile.FieldType.float)) ∈ WS := ws_c7 24 rfl rfl
theorem wd_x1555 : (Jvm.Cond.methodLink "BitDeskLaw" (266 : Nat) ({ cls := "BitDeskModel", name := "meanReach", desc := "(I)F" } : Jvm.MethodName)) ∈ WS := ws_c7 21 rfl rfl
theorem wd_1556 : (Jvm.Cond.instanceMethod ({ cls := "BitDeskModel", name := "meanReach", desc := "(I)F" } : Jvm.MethodName)) ∈ WS := ws_c7 22 rfl rfl
theorem wd_1557 : (Jvm.Cond.selects "BitDeskModel" ({ cls := "BitDeskModel", name := "meanReach", desc := "(I)F" } : Jvm.MethodName) ({ cls := "BitDeskModel", name := "meanReach", desc := "(I)F" } : Jvm.MethodName)) ∈ WS := ws_c7 23 rfl rfl
theorem lk_L_266 : LkV RL 266 jX7_meanReach 1 := ⟨⟨wd_x1555, ⟨rfl, (by rw [cwd_nil rfl]; exact wd_1558)⟩, wd_102, ⟨by decide +kernel, by decide +kernel⟩, by decide +kernel⟩, wd_1556, wd_1557⟩
theorem wd_816 : (Jvm.Cond.codeWith ({ cls := "BitDeskLaw", name := "component", desc := "(LBitDesk;II[J)I" } : Jvm.MethodName) method_21_code (5 : Nat) (Option.some Jvm.ClassFile.FieldType.int) [((0 : Nat), (10 : Nat), (13 : Nat), (19 : Nat))]) ∈ WS := ws_c4 2 rfl rfl
theorem wd_x814 : (Jvm.Cond.methodLink "BitDeskLaw" (267 : Nat) ({ cls := "BitDeskLaw", name := "component", desc := "(LBitDesk;II[J)I" } : Jvm.MethodName)) ∈ WS := ws_c4 0 rfl rfl
theorem wd_815 : (Jvm.Cond.static ({ cls := "BitDeskLaw", name := "component", desc := "(LBitDesk;II[J)I" } : Jvm.MethodName)) ∈ WS := ws_c4 1 rfl rfl
theorem lk_L_267 : LkSX RL 267 jL_component 4 := ⟨wd_x814, ⟨(by decide), (by rw [cwd_hh (by decide)]; exact wd_816)⟩, wd_94, ⟨by decide +kernel, by decide +kernel⟩, by decide +kernel, wd_815⟩
theorem wd_1562 : (Jvm.Cond.code ({ cls := "BitDeskModel", name := "component", desc := "(II)I" } : Jvm.MethodName) prog_9_method_66_code (3 : Nat) (Option.some Jvm.ClassFile.FieldType.int)) ∈ WS := ws_c7 28 rfl rfl
theorem wd_x1559 : (Jvm.Cond.methodLink "BitDeskLaw" (269 : Nat) ({ cls := "BitDeskModel", name := "component", desc := "(II)I" } : Jvm.MethodName)) ∈ WS := ws_c7 25 rfl rfl
theorem wd_1560 : (Jvm.Cond.instanceMethod ({ cls := "BitDeskModel", name := "component", desc := "(II)I" } : Jvm.MethodName)) ∈ WS := ws_c7 26 rfl rfl
theorem wd_1561 : (Jvm.Cond.selects "BitDeskModel" ({ cls := "BitDeskModel", name := "component", desc := "(II)I" } : Jvm.MethodName) ({ cls := "BitDeskModel", name := "component", desc := "(II)I" } : Jvm.MethodName)) ∈ WS := ws_c7 27 rfl rfl
theorem lk_L_269 : LkV RL 269 jX7_component 2 := ⟨⟨wd_x1559, ⟨rfl, (by rw [cwd_nil rfl]; exact wd_1562)⟩, wd_102, ⟨by decide +kernel, by decide +kernel⟩, by decide +kernel⟩, wd_1560, wd_1561⟩
theorem wd_831 : (Jvm.Cond.codeWith ({ cls := "BitDeskLaw", name := "components", desc := "(LBitDesk;I[J)I" } : Jvm.MethodName) method_22_code (4 : Nat) (Option.some Jvm.ClassFile.FieldType.int) [((0 : Nat), (9 : Nat), (12 : Nat), (19 : Nat))]) ∈ WS := ws_c4 17 rfl rfl
theorem wd_x829 : (Jvm.Cond.methodLink "BitDeskLaw" (270 : Nat) ({ cls := "BitDeskLaw", name := "components", desc := "(LBitDesk;I[J)I" } : Jvm.MethodName)) ∈ WS := ws_c4 15 rfl rfl
theorem wd_830 : (Jvm.Cond.static ({ cls := "BitDeskLaw", name := "components", desc := "(LBitDesk;I[J)I" } : Jvm.MethodName)) ∈ WS := ws_c4 16 rfl rfl
theorem lk_L_270 : LkSX RL 270 jL_components 3 := ⟨wd_x829, ⟨(by decide), (by rw [cwd_hh (by decide)]; exact wd_831)⟩, wd_94, ⟨by decide +kernel, by decide +kernel⟩, by decide +kernel, wd_830⟩
theorem wd_1570 : (Jvm.Cond.code ({ cls := "BitDeskModel", name := "components", desc := "(I)I" } : Jvm.MethodName) prog_9_method_67_code (4 : Nat) (Option.some Jvm.ClassFile.FieldType.int)) ∈ WS := ws_c7 36 rfl rfl
theorem wd_x1567 : (Jvm.Cond.methodLink "BitDeskLaw" (272 : Nat) ({ cls := "BitDeskModel", name := "components", desc := "(I)I" } : Jvm.MethodName)) ∈ WS := ws_c7 33 rfl rfl
theorem wd_1568 : (Jvm.Cond.instanceMethod ({ cls := "BitDeskModel", name := "components", desc := "(I)I" } : Jvm.MethodName)) ∈ WS := ws_c7 34 rfl rfl
theorem wd_1569 : (Jvm.Cond.selects "BitDeskModel" ({ cls := "BitDeskModel", name := "components", desc := "(I)I" } : Jvm.MethodName) ({ cls := "BitDeskModel", name := "components", desc := "(I)I" } : Jvm.MethodName)) ∈ WS := ws_c7 35 rfl rfl
theorem lk_L_272 : LkV RL 272 jX7_components 1 := ⟨⟨wd_x1567, ⟨rfl, (by rw [cwd_nil rfl]; exact wd_1570)⟩, wd_102, ⟨by decide +kernel, by decide +kernel⟩, by decide +kernel⟩, wd_1568, wd_1569⟩
theorem wd_838 : (Jvm.Cond.codeWith ({ cls := "BitDeskLaw", name := "distance", desc := "(LBitDesk;III[J)I" } : Jvm.MethodName) method_23_code (6 : Nat) (Option.some Jvm.ClassFile.FieldType.int) [((0 : Nat), (12 : Nat), (15 : Nat), (19 : Nat))]) ∈ WS := ws_c4 24 rfl rfl
theorem wd_x836 : (Jvm.Cond.methodLink "BitDeskLaw" (273 : Nat) ({ cls := "BitDeskLaw", name := "distance", desc := "(LBitDesk;III[J)I" } : Jvm.MethodName)) ∈ WS := ws_c4 22 rfl rfl
theorem wd_837 : (Jvm.Cond.static ({ cls := "BitDeskLaw", name := "distance", desc := "(LBitDesk;III[J)I" } : Jvm.MethodName)) ∈ WS := ws_c4 23 rfl rfl
theorem lk_L_273 : LkSX RL 273 jL_distance 5 := ⟨wd_x836, ⟨(by decide), (by rw [cwd_hh (by decide)]; exact wd_838)⟩, wd_94, ⟨by decide +kernel, by decide +kernel⟩, by decide +kernel, wd_837⟩
theorem wd_1574 : (Jvm.Cond.code ({ cls := "BitDeskModel", name := "distance", desc := "(III)I" } : Jvm.MethodName) prog_9_method_69_code (4 : Nat) (Option.some Jvm.ClassFile.FieldType.int)) ∈ WS := ws_c7 40 rfl rfl
theorem wd_x1571 : (Jvm.Cond.methodLink "BitDeskLaw" (275 : Nat) ({ cls := "BitDeskModel", name := "distance", desc := "(III)I" } : Jvm.MethodName)) ∈ WS := ws_c7 37 rfl rfl
theorem wd_1572 : (Jvm.Cond.instanceMethod ({ cls := "BitDeskModel", name := "distance", desc := "(III)I" } : Jvm.MethodName)) ∈ WS := ws_c7 38 rfl rfl
theorem wd_1573 : (Jvm.Cond.selects "BitDeskModel" ({ cls := "BitDeskModel", name := "distance", desc := "(III)I" } : Jvm.MethodName) ({ cls := "BitDeskModel", name := "distance", desc := "(III)I" } : Jvm.MethodName)) ∈ WS := ws_c7 39 rfl rfl
theorem lk_L_275 : LkV RL 275 jX7_distance 3 := ⟨⟨wd_x1571, ⟨rfl, (by rw [cwd_nil rfl]; exact wd_1574)⟩, wd_102, ⟨by decide +kernel, by decide +kernel⟩, by decide +kernel⟩, wd_1572, wd_1573⟩
theorem wd_853 : (Jvm.Cond.codeWith ({ cls := "BitDeskLaw", name := "stepAt", desc := "(LBitDesk;IIII[J)I" } : Jvm.MethodName) method_24_code (7 : Nat) (Option.some Jvm.ClassFile.FieldType.int) [((0 : Nat), (14 : Nat), (17 : Nat), (19 : Nat))]) ∈ WS := ws_c4 39 rfl rfl
theorem wd_x851 : (Jvm.Cond.methodLink "BitDeskLaw" (276 : Nat) ({ cls := "BitDeskLaw", name := "stepAt", desc := "(LBitDesk;IIII[J)I" } : Jvm.MethodName)) ∈ WS := ws_c4 37 rfl rfl
theorem wd_852 : (Jvm.Cond.static ({ cls := "BitDeskLaw", name := "stepAt", desc := "(LBitDesk;IIII[J)I" } : Jvm.MethodName)) ∈ WS := ws_c4 38 rfl rfl
theorem lk_L_276 : LkSX RL 276 jL_stepAt 6 := ⟨wd_x851, ⟨(by decide), (by rw [cwd_hh (by decide)]; exact wd_853)⟩, wd_94, ⟨by decide +kernel, by decide +kernel⟩, by decide +kernel, wd_852⟩
theorem wd_1582 : (Jvm.Cond.code ({ cls := "BitDeskModel", name := "stepAt", desc := "(IIII)I" } : Jvm.MethodName) prog_9_method_70_code (8 : Nat) (Option.some Jvm.ClassFile.FieldType.int)) ∈ WS := ws_c7 48 rfl rfl
theorem wd_x1579 : (Jvm.Cond.methodLink "BitDeskLaw" (279 : Nat) ({ cls := "BitDeskModel", name := "stepAt", desc := "(IIII)I" } : Jvm.MethodName)) ∈ WS := ws_c7 45 rfl rfl
theorem wd_1580 : (Jvm.Cond.instanceMethod ({ cls := "BitDeskModel", name := "stepAt", desc := "(IIII)I" } : Jvm.MethodName)) ∈ WS := ws_c7 46 rfl rfl
theorem wd_1581 : (Jvm.Cond.selects "BitDeskModel" ({ cls := "BitDeskModel", name := "stepAt", desc := "(IIII)I" } : Jvm.MethodName) ({ cls := "BitDeskModel", name := "stepAt", desc := "(IIII)I" } : Jvm.MethodName)) ∈ WS := ws_c7 47 rfl rfl
theorem lk_L_279 : LkV RL 279 jX7_stepAt 4 := ⟨⟨wd_x1579, ⟨rfl, (by rw [cwd_nil rfl]; exact wd_1582)⟩, wd_102, ⟨by decide +kernel, by decide +kernel⟩, by decide +kernel⟩, wd_1580, wd_1581⟩
theorem wd_866 : (Jvm.Cond.codeWith ({ cls := "BitDeskLaw", name := "around", desc := "(LBitDesk;II[J)I" } : Jvm.MethodName) method_25_code (5 : Nat) (Option.some Jvm.ClassFile.FieldType.int) [((0 : Nat), (10 : Nat), (13 : Nat), (19 : Nat))]) ∈ WS := ws_c4 52 rfl rfl
theorem wd_x864 : (Jvm.Cond.methodLink "BitDeskLaw" (280 : Nat) ({ cls := "BitDeskLaw", name := "around", desc := "(LBitDesk;II[J)I" } : Jvm.MethodName)) ∈ WS := ws_c4 50 rfl rfl
theorem wd_865 : (Jvm.Cond.static ({ cls := "BitDeskLaw", name := "around", desc := "(LBitDesk;II[J)I" } : Jvm.MethodName)) ∈ WS := ws_c4 51 rfl rfl
theorem lk_L_280 : LkSX RL 280 jL_around 4 := ⟨wd_x864, ⟨(by decide), (by rw [cwd_hh (by decide)]; exact wd_866)⟩, wd_94, ⟨by decide +kernel, by decide +kernel⟩, by decide +kernel, wd_865⟩
theorem wd_1586 : (Jvm.Cond.code ({ cls := "BitDeskModel", name := "around", desc := "(II)I" } : Jvm.MethodName) prog_9_method_72_code (3 : Nat) (Option.some Jvm.ClassFile.FieldType.int)) ∈ WS := ws_c7 52 rfl rfl
theorem wd_x1583 : (Jvm.Cond.methodLink "BitDeskLaw" (282 : Nat) ({ cls := "BitDeskModel", name := "around", desc := "(II)I" } : Jvm.MethodName)) ∈ WS := ws_c7 49 rfl rfl
theorem wd_1584 : (Jvm.Cond.instanceMethod ({ cls := "BitDeskModel", name := "around", desc := "(II)I" } : Jvm.MethodName)) ∈ WS := ws_c7 50 rfl rfl
theorem wd_1585 : (Jvm.Cond.selects "BitDeskModel" ({ cls := "BitDeskModel", name := "around", desc := "(II)I" } : Jvm.MethodName) ({ cls := "BitDeskModel", name := "around", desc := "(II)I" } : Jvm.MethodName)) ∈ WS := ws_c7 51 rfl rfl
theorem lk_L_282 : LkV RL 282 jX7_around 2 := ⟨⟨wd_x1583, ⟨rfl, (by rw [cwd_nil rfl]; exact wd_1586)⟩, wd_102, ⟨by decide +kernel, by decide +kernel⟩, by decide +kernel⟩, wd_1584, wd_1585⟩
theorem wd_873 : (Jvm.Cond.codeWith ({ cls := "BitDeskLaw", name := "girth", desc := "(LBitDesk;I[J)I" } : Jvm.MethodName) method_26_code (4 : Nat) (Option.some Jvm.ClassFile.FieldType.int) [((0 : Nat), (9 : Nat), (12 : Nat), (19 : Nat))]) ∈ WS := ws_c4 59 rfl rfl
theorem wd_x871 : (Jvm.Cond.methodLink "BitDeskLaw" (283 : Nat) ({ cls := "BitDeskLaw", name := "girth", desc := "(LBitDesk;I[J)I" } : Jvm.MethodName)) ∈ WS := ws_c4 57 rfl rfl
theorem wd_872 : (Jvm.Cond.static ({ cls := "BitDeskLaw", name := "girth", desc := "(LBitDesk;I[J)I" } : Jvm.MethodName)) ∈ WS := ws_c4 58 rfl rfl
theorem lk_L_283 : LkSX RL 283 jL_girth 3 := ⟨wd_x871, ⟨(by decide), (by rw [cwd_hh (by decide)]; exact wd_873)⟩, wd_94, ⟨by decide +kernel, by decide +kernel⟩, by decide +kernel, wd_872⟩
theorem wd_1594 : (Jvm.Cond.code ({ cls := "BitDeskModel", name := "girth", desc := "(I)I" } : Jvm.MethodName) prog_9_method_73_code (5 : Nat) (Option.some Jvm.ClassFile.FieldType.int)) ∈ WS := ws_c7 60 rfl rfl
theorem wd_x1591 : (Jvm.Cond.methodLink "BitDeskLaw" (285 : Nat) ({ cls := "BitDeskModel", name := "girth", desc := "(I)I" } : Jvm.MethodName)) ∈ WS := ws_c7 57 rfl rfl
theorem wd_1592 : (Jvm.Cond.instanceMethod ({ cls := "BitDeskModel", name := "girth", desc := "(I)I" } : Jvm.MethodName)) ∈ WS := ws_c7 58 rfl rfl
theorem wd_1593 : (Jvm.Cond.selects "BitDeskModel" ({ cls := "BitDeskModel", name := "girth", desc := "(I)I" } : Jvm.MethodName) ({ cls := "BitDeskModel", name := "girth", desc := "(I)I" } : Jvm.MethodName)) ∈ WS := ws_c7 59 rfl rfl
theorem lk_L_285 : LkV RL 285 jX7_girth 1 := ⟨⟨wd_x1591, ⟨rfl, (by rw [cwd_nil rfl]; exact wd_1594)⟩, wd_102, ⟨by decide +kernel, by decide +kernel⟩, by decide +kernel⟩, wd_1592, wd_1593⟩
theorem wd_880 : (Jvm.Cond.codeWith ({ cls := "BitDeskLaw", name := "order", desc := "(LBitDesk;II[J)I" } : Jvm.MethodName) method_27_code (5 : Nat) (Option.some Jvm.ClassFile.FieldType.int) [((0 : Nat), (10 : Nat), (13 : Nat), (19 : Nat))]) ∈ WS := ws_c4 66 rfl rfl
theorem wd_x878 : (Jvm.Cond.methodLink "BitDeskLaw" (286 : Nat) ({ cls := "BitDeskLaw", name := "order", desc := "(LBitDesk;II[J)I" } : Jvm.MethodName)) ∈ WS := ws_c4 64 rfl rfl
theorem wd_879 : (Jvm.Cond.static ({ cls := "BitDeskLaw", name := "order", desc := "(LBitDesk;II[J)I" } : Jvm.MethodName)) ∈ WS := ws_c4 65 rfl rfl
theorem lk_L_286 : LkSX RL 286 jL_order 4 := ⟨wd_x878, ⟨(by decide), (by rw [cwd_hh (by decide)]; exact wd_880)⟩, wd_94, ⟨by decide +kernel, by decide +kernel⟩, by decide +kernel, wd_879⟩
theorem wd_1598 : (Jvm.Cond.code ({ cls := "BitDeskModel", name := "order", desc := "(II)I" } : Jvm.MethodName) prog_9_method_75_code (7 : Nat) (Option.some Jvm.ClassFile.FieldType.int)) ∈ WS := ws_c7 64 rfl rfl
theorem wd_x1595 : (Jvm.Cond.methodLink "BitDeskLaw" (288 : Nat) ({ cls := "BitDeskModel", name := "order", desc := "(II)I" } : Jvm.MethodName)) ∈ WS := ws_c7 61 rfl rfl
theorem wd_1596 : (Jvm.Cond.instanceMethod ({ cls := "BitDeskModel", name := "order", desc := "(II)I" } : Jvm.MethodName)) ∈ WS := ws_c7 62 rfl rfl
theorem wd_1597 : (Jvm.Cond.selects "BitDeskModel" ({ cls := "BitDeskModel", name := "order", desc := "(II)I" } : Jvm.MethodName) ({ cls := "BitDeskModel", name := "order", desc := "(II)I" } : Jvm.MethodName)) ∈ WS := ws_c7 63 rfl rfl
theorem lk_L_288 : LkV RL 288 jX7_order 2 := ⟨⟨wd_x1595, ⟨rfl, (by rw [cwd_nil rfl]; exact wd_1598)⟩, wd_102, ⟨by decide +kernel, by decide +kernel⟩, by decide +kernel⟩, wd_1596, wd_1597⟩
theorem wd_887 : (Jvm.Cond.codeWith ({ cls := "BitDeskLaw", name := "gained", desc := "(LBitDesk;III[J)I" } : Jvm.MethodName) method_28_code (6 : Nat) (Option.some Jvm.ClassFile.FieldType.int) [((0 : Nat), (12 : Nat), (15 : Nat), (19 : Nat))]) ∈ WS := ws_c4 73 rfl rfl
theorem wd_x885 : (Jvm.Cond.methodLink "BitDeskLaw" (289 : Nat) ({ cls := "BitDeskLaw", name := "gained", desc := "(LBitDesk;III[J)I" } : Jvm.MethodName)) ∈ WS := ws_c4 71 rfl rfl
theorem wd_886 : (Jvm.Cond.static ({ cls := "BitDeskLaw", name := "gained", desc := "(LBitDesk;III[J)I" } : Jvm.MethodName)) ∈ WS := ws_c4 72 rfl rfl
theorem lk_L_289 : LkSX RL 289 jL_gained 5 := ⟨wd_x885, ⟨(by decide), (by rw [cwd_hh (by decide)]; exact wd_887)⟩, wd_94, ⟨by decide +kernel, by decide +kernel⟩, by decide +kernel, wd_886⟩
theorem wd_1606 : (Jvm.Cond.code ({ cls := "BitDeskModel", name := "gained", desc := "(III)I" } : Jvm.MethodName) prog_9_method_77_code (4 : Nat) (Option.some Jvm.ClassFile.FieldType.int)) ∈ WS := ws_c7 72 rfl rfl
theorem wd_x1603 : (Jvm.Cond.methodLink "BitDeskLaw" (291 : Nat) ({ cls := "BitDeskModel", name := "gained", desc := "(III)I" } : Jvm.MethodName)) ∈ WS := ws_c7 69 rfl rfl
theorem wd_1604 : (Jvm.Cond.instanceMethod ({ cls := "BitDeskModel", name := "gained", desc := "(III)I" } : Jvm.MethodName)) ∈ WS := ws_c7 70 rfl rfl
theorem wd_1605 : (Jvm.Cond.selects "BitDeskModel" ({ cls := "BitDeskModel", name := "gained", desc := "(III)I" } : Jvm.MethodName) ({ cls := "BitDeskModel", name := "gained", desc := "(III)I" } : Jvm.MethodName)) ∈ WS := ws_c7 71 rfl rfl
theorem lk_L_291 : LkV RL 291 jX7_gained 3 := ⟨⟨wd_x1603, ⟨rfl, (by rw [cwd_nil rfl]; exact wd_1606)⟩, wd_102, ⟨by decide +kernel, by decide +kernel⟩, by decide +kernel⟩, wd_1604, wd_1605⟩
theorem wd_903 : (Jvm.Cond.codeWith ({ cls := "BitDeskLaw", name := "lost", desc := "(LBitDesk;III[J)I" } : Jvm.MethodName) method_29_code (6 : Nat) (Option.some Jvm.ClassFile.FieldType.int) [((0 : Nat), (12 : Nat), (15 : Nat), (19 : Nat))]) ∈ WS := ws_c4 89 rfl rfl
theorem wd_x901 : (Jvm.Cond.methodLink "BitDeskLaw" (292 : Nat) ({ cls := "BitDeskLaw", name := "lost", desc := "(LBitDesk;III[J)I" } : Jvm.MethodName)) ∈ WS := ws_c4 87 rfl rfl
theorem wd_902 : (Jvm.Cond.static ({ cls := "BitDeskLaw", name := "lost", desc := "(LBitDesk;III[J)I" } : Jvm.MethodName)) ∈ WS := ws_c4 88 rfl rfl
theorem lk_L_292 : LkSX RL 292 jL_lost 5 := ⟨wd_x901, ⟨(by decide), (by rw [cwd_hh (by decide)]; exact wd_903)⟩, wd_94, ⟨by decide +kernel, by decide +kernel⟩, by decide +kernel, wd_902⟩
theorem wd_1614 : (Jvm.Cond.code ({ cls := "BitDeskModel", name := "lost", desc := "(III)I" } : Jvm.MethodName) prog_9_method_78_code (4 : Nat) (Option.some Jvm.ClassFile.FieldType.int)) ∈ WS := ws_c7 80 rfl rfl
theorem wd_x1611 : (Jvm.Cond.methodLink "BitDeskLaw" (294 : Nat) ({ cls := "BitDeskModel", name := "lost", desc := "(III)I" } : Jvm.MethodName)) ∈ WS := ws_c7 77 rfl rfl
theorem wd_1612 : (Jvm.Cond.instanceMethod ({ cls := "BitDeskModel", name := "lost", desc := "(III)I" } : Jvm.MethodName)) ∈ WS := ws_c7 78 rfl rfl
theorem wd_1613 : (Jvm.Cond.selects "BitDeskModel" ({ cls := "BitDeskModel", name := "lost", desc := "(III)I" } : Jvm.MethodName) ({ cls := "BitDeskModel", name := "lost", desc := "(III)I" } : Jvm.MethodName)) ∈ WS := ws_c7 79 rfl rfl
theorem lk_L_294 : LkV RL 294 jX7_lost 3 := ⟨⟨wd_x1611, ⟨rfl, (by rw [cwd_nil rfl]; exact wd_1614)⟩, wd_102, ⟨by decide +kernel, by decide +kernel⟩, by decide +kernel⟩, wd_1612, wd_1613⟩
theorem wd_923 : (Jvm.Cond.codeWith ({ cls := "BitDeskLaw", name := "bestEdge", desc := "(LBitDesk;I[J)I" } : Jvm.MethodName) method_30_code (4 : Nat) (Option.some Jvm.ClassFile.FieldType.int) [((0 : Nat), (9 : Nat), (12 : Nat), (19 : Nat))]) ∈ WS := ws_c4 109 rfl rfl
theorem wd_x921 : (Jvm.Cond.methodLink "BitDeskLaw" (295 : Nat) ({ cls := "BitDeskLaw", name := "bestEdge", desc := "(LBitDesk;I[J)I" } : Jvm.MethodName)) ∈ WS := ws_c4 107 rfl rfl
theorem wd_922 : (Jvm.Cond.static ({ cls := "BitDeskLaw", name := "bestEdge", desc := "(LBitDesk;I[J)I" } : Jvm.MethodName)) ∈ WS := ws_c4 108 rfl rfl
theorem lk_L_295 : LkSX RL 295 jL_bestEdge 3 := ⟨wd_x921, ⟨(by decide), (by rw [cwd_hh (by decide)]; exact wd_923)⟩, wd_94, ⟨by decide +kernel, by decide +kernel⟩, by decide +kernel, wd_922⟩
theorem wd_1618 : (Jvm.Cond.code ({ cls := "BitDeskModel", name := "bestEdge", desc := "(I)I" } : Jvm.MethodName) prog_9_method_80_code (2 : Nat) (Option.some Jvm.ClassFile.FieldType.int)) ∈ WS := ws_c7 84 rfl rfl
theorem wd_x1615 : (Jvm.Cond.methodLink "BitDeskLaw" (297 : Nat) ({ cls := "BitDeskModel", name := "bestEdge", desc := "(I)I" } : Jvm.MethodName)) ∈ WS := ws_c7 81 rfl rfl
theorem wd_1616 : (Jvm.Cond.instanceMethod ({ cls := "BitDeskModel", name := "bestEdge", desc := "(I)I" } : Jvm.MethodName)) ∈ WS := ws_c7 82 rfl rfl
theorem wd_1617 : (Jvm.Cond.selects "BitDeskModel" ({ cls := "BitDeskModel", name := "bestEdge", desc := "(I)I" } : Jvm.MethodName) ({ cls := "BitDeskModel", name := "bestEdge", desc := "(I)I" } : Jvm.MethodName)) ∈ WS := ws_c7 83 rfl rfl
theorem lk_L_297 : LkV RL 297 jX7_bestEdge 1 := ⟨⟨wd_x1615, ⟨rfl, (by rw [cwd_nil rfl]; exact wd_1618)⟩, wd_102, ⟨by decide +kernel, by decide +kernel⟩, by decide +kernel⟩, wd_1616, wd_1617⟩
theorem wd_933 : (Jvm.Cond.codeWith ({ cls := "BitDeskLaw", name := "weakest", desc := "(LBitDesk;I[J)I" } : Jvm.MethodName) method_31_code (4 : Nat) (Option.some Jvm.ClassFile.FieldType.int) [((0 : Nat), (9 : Nat), (12 : Nat), (19 : Nat))]) ∈ WS := ws_c4 119 rfl rfl
theorem wd_x931 : (Jvm.Cond.methodLink "BitDeskLaw" (298 : Nat) ({ cls := "BitDeskLaw", name := "weakest", desc := "(LBitDesk;I[J)I" } : Jvm.MethodName)) ∈ WS := ws_c4 117 rfl rfl
theorem wd_932 : (Jvm.Cond.static ({ cls := "BitDeskLaw", name := "weakest", desc := "(LBitDesk;I[J)I" } : Jvm.MethodName)) ∈ WS := ws_c4 118 rfl rfl
theorem lk_L_298 : LkSX RL 298 jL_weakest 3 := ⟨wd_x931, ⟨(by decide), (by rw [cwd_hh (by decide)]; exact wd_933)⟩, wd_94, ⟨by decide +kernel, by decide +kernel⟩, by decide +kernel, wd_932⟩
theorem wd_1632 : (Jvm.Cond.code ({ cls := "BitDeskModel", name := "weakest", desc := "(I)I" } : Jvm.MethodName) prog_9_method_81_code (2 : Nat) (Option.some Jvm.ClassFile.FieldType.int)) ∈ WS := ws_c7 98 rfl rfl
theorem wd_x1629 : (Jvm.Cond.methodLink "BitDeskLaw" (300 : Nat) ({ cls := "BitDeskModel", name := "weakest", desc := "(I)I" } : Jvm.MethodName)) ∈ WS := ws_c7 95 rfl rfl
theorem wd_1630 : (Jvm.Cond.instanceMethod ({ cls := "BitDeskModel", name := "weakest", desc := "(I)I" } : Jvm.MethodName)) ∈ WS := ws_c7 96 rfl rfl
theorem wd_1631 : (Jvm.Cond.selects "BitDeskModel" ({ cls := "BitDeskModel", name := "weakest", desc := "(I)I" } : Jvm.MethodName) ({ cls := "BitDeskModel", name := "weakest", desc := "(I)I" } : Jvm.MethodName)) ∈ WS := ws_c7 97 rfl rfl
theorem lk_L_300 : LkV RL 300 jX7_weakest 1 := ⟨⟨wd_x1629, ⟨rfl, (by rw [cwd_nil rfl]; exact wd_1632)⟩, wd_102, ⟨by decide +kernel, by decide +kernel⟩, by decide +kernel⟩, wd_1630, wd_1631⟩
theorem wd_940 : (Jvm.Cond.codeWith ({ cls := "BitDeskLaw", name := "triangles", desc := "(LBitDesk;I[J)I" } : Jvm.MethodName) method_32_code (4 : Nat) (Option.some Jvm.ClassFile.FieldType.int) [((0 : Nat), (9 : Nat), (12 : Nat), (19 : Nat))]) ∈ WS := ws_c4 126 rfl rfl
theorem wd_x938 : (Jvm.Cond.methodLink "BitDeskLaw" (301 : Nat) ({ cls := "BitDeskLaw", name := "triangles", desc := "(LBitDesk;I[J)I" } : Jvm.MethodName)) ∈ WS := ws_c4 124 rfl rfl
theorem wd_939 : (Jvm.Cond.static ({ cls := "BitDeskLaw", name := "triangles", desc := "(LBitDesk;I[J)I" } : Jvm.MethodName)) ∈ WS := ws_c4 125 rfl rfl
theorem lk_L_301 : LkSX RL 301 jL_triangles 3 := ⟨wd_x938, ⟨(by decide), (by rw [cwd_hh (by decide)]; exact wd_940)⟩, wd_94, ⟨by decide +kernel, by decide +kernel⟩, by decide +kernel, wd_939⟩
theorem wd_1636 : (Jvm.Cond.code ({ cls := "BitDeskModel", name := "triangles", desc := "(I)I" } : Jvm.MethodName) prog_9_method_82_code (6 : Nat) (Option.some Jvm.ClassFile.FieldType.int)) ∈ WS := ws_c7 102 rfl rfl
theorem wd_x1633 : (Jvm.Cond.methodLink "BitDeskLaw" (303 : Nat) ({ cls := "BitDeskModel", name := "triangles", desc := "(I)I" } : Jvm.MethodName)) ∈ WS := ws_c7 99 rfl rfl
theorem wd_1634 : (Jvm.Cond.instanceMethod ({ cls := "BitDeskModel", name := "triangles", desc := "(I)I" } : Jvm.MethodName)) ∈ WS := ws_c7 100 rfl rfl
theorem wd_1635 : (Jvm.Cond.selects "BitDeskModel" ({ cls := "BitDeskModel", name := "triangles", desc := "(I)I" } : Jvm.MethodName) ({ cls := "BitDeskModel", name := "triangles", desc := "(I)I" } : Jvm.MethodName)) ∈ WS := ws_c7 101 rfl rfl
theorem lk_L_303 : LkV RL 303 jX7_triangles 1 := ⟨⟨wd_x1633, ⟨rfl, (by rw [cwd_nil rfl]; exact wd_1636)⟩, wd_102, ⟨by decide +kernel, by decide +kernel⟩, by decide +kernel⟩, wd_1634, wd_1635⟩
theorem wd_947 : (Jvm.Cond.codeWith ({ cls := "BitDeskLaw", name := "fieldRank", desc := "(LBitDesk;I[J)I" } : Jvm.MethodName) method_33_code (4 : Nat) (Option.some Jvm.ClassFile.FieldType.int) [((0 : Nat), (9 : Nat), (12 : Nat), (19 : Nat))]) ∈ WS := ws_c4 133 rfl rfl
theorem wd_x945 : (Jvm.Cond.methodLink "BitDeskLaw" (304 : Nat) ({ cls := "BitDeskLaw", name := "fieldRank", desc := "(LBitDesk;I[J)I" } : Jvm.MethodName)) ∈ WS := ws_c4 131 rfl rfl
theorem wd_946 : (Jvm.Cond.static ({ cls := "BitDeskLaw", name := "fieldRank", desc := "(LBitDesk;I[J)I" } : Jvm.MethodName)) ∈ WS := ws_c4 132 rfl rfl
theorem lk_L_304 : LkSX RL 304 jL_fieldRank 3 := ⟨wd_x945, ⟨(by decide), (by rw [cwd_hh (by decide)]; exact wd_947)⟩, wd_94, ⟨by decide +kernel, by decide +kernel⟩, by decide +kernel, wd_946⟩
theorem wd_1640 : (Jvm.Cond.code ({ cls := "BitDeskModel", name := "fieldRank", desc := "(I)I" } : Jvm.MethodName) prog_9_method_85_code (2 : Nat) (Option.some Jvm.ClassFile.FieldType.int)) ∈ WS := ws_c7 106 rfl rfl
theorem wd_x1637 : (Jvm.Cond.methodLink "BitDeskLaw" (306 : Nat) ({ cls := "BitDeskModel", name := "fieldRank", desc := "(I)I" } : Jvm.MethodName)) ∈ WS := ws_c7 103 rfl rfl
theorem wd_1638 : (Jvm.Cond.instanceMethod ({ cls := "BitDeskModel", name := "fieldRank", desc := "(I)I" } : Jvm.MethodName)) ∈ WS := ws_c7 104 rfl rfl
theorem wd_1639 : (Jvm.Cond.selects "BitDeskModel" ({ cls := "BitDeskModel", name := "fieldRank", desc := "(I)I" } : Jvm.MethodName) ({ cls := "BitDeskModel", name := "fieldRank", desc := "(I)I" } : Jvm.MethodName)) ∈ WS := ws_c7 105 rfl rfl
theorem lk_L_306 : LkV RL 306 jX7_fieldRank 1 := ⟨⟨wd_x1637, ⟨rfl, (by rw [cwd_nil rfl]; exact wd_1640)⟩, wd_102, ⟨by decide +kernel, by decide +kernel⟩, by decide +kernel⟩, wd_1638, wd_1639⟩
theorem wd_976 : (Jvm.Cond.codeWith ({ cls := "BitDeskLaw", name := "solve", desc := "(LBitDesk;IJ[J)I" } : Jvm.MethodName) method_34_code (6 : Nat) (Option.some Jvm.ClassFile.FieldType.int) [((0 : Nat), (10 : Nat), (13 : Nat), (19 : Nat))]) ∈ WS := ws_c4 162 rfl rfl
theorem wd_x974 : (Jvm.Cond.methodLink "BitDeskLaw" (307 : Nat) ({ cls := "BitDeskLaw", name := "solve", desc := "(LBitDesk;IJ[J)I" } : Jvm.MethodName)) ∈ WS := ws_c4 160 rfl rfl
theorem wd_975 : (Jvm.Cond.static ({ cls := "BitDeskLaw", name := "solve", desc := "(LBitDesk;IJ[J)I" } : Jvm.MethodName)) ∈ WS := ws_c4 161 rfl rfl
theorem lk_L_307 : LkSX RL 307 jL_solve 4 := ⟨wd_x974, ⟨(by decide), (by rw [cwd_hh (by decide)]; exact wd_976)⟩, wd_94, ⟨by decide +kernel, by decide +kernel⟩, by decide +kernel, wd_975⟩
theorem wd_1652 : (Jvm.Cond.code ({ cls := "BitDeskModel", name := "solve", desc := "(IJ)J" } : Jvm.MethodName) prog_9_method_87_code (4 : Nat) (Option.some Jvm.ClassFile.FieldType.long)) ∈ WS := ws_c7 118 rfl rfl
theorem wd_x1649 : (Jvm.Cond.methodLink "BitDeskLaw" (309 : Nat) ({ cls := "BitDeskModel", name := "solve", desc := "(IJ)J" } : Jvm.MethodName)) ∈ WS := ws_c7 115 rfl rfl
theorem wd_1650 : (Jvm.Cond.instanceMethod ({ cls := "BitDeskModel", name := "solve", desc := "(IJ)J" } : Jvm.MethodName)) ∈ WS := ws_c7 116 rfl rfl
theorem wd_1651 : (Jvm.Cond.selects "BitDeskModel" ({ cls := "BitDeskModel", name := "solve", desc := "(IJ)J" } : Jvm.MethodName) ({ cls := "BitDeskModel", name := "solve", desc := "(IJ)J" } : Jvm.MethodName)) ∈ WS := ws_c7 117 rfl rfl
theorem lk_L_309 : LkV RL 309 jX7_solve 2 := ⟨⟨wd_x1649, ⟨rfl, (by rw [cwd_nil rfl]; exact wd_1652)⟩, wd_102, ⟨by decide +kernel, by decide +kernel⟩, by decide +kernel⟩, wd_1650, wd_1651⟩
theorem wd_992 : (Jvm.Cond.codeWith ({ cls := "BitDeskLaw", name := "freedom", desc := "(LBitDesk;IJ[J)I" } : Jvm.MethodName) method_35_code (6 : Nat) (Option.some Jvm.ClassFile.FieldType.int) [((0 : Nat), (11 : Nat), (14 : Nat), (19 : Nat))]) ∈ WS := ws_c4 178 rfl rfl
theorem wd_x990 : (Jvm.Cond.methodLink "BitDeskLaw" (310 : Nat) ({ cls := "BitDeskLaw", name := "freedom", desc := "(LBitDesk;IJ[J)I" } : Jvm.MethodName)) ∈ WS := ws_c4 176 rfl rfl
theorem wd_991 : (Jvm.Cond.static ({ cls := "BitDeskLaw", name := "freedom", desc := "(LBitDesk;IJ[J)I" } : Jvm.MethodName)) ∈ WS := ws_c4 177 rfl rfl
theorem lk_L_310 : LkSX RL 310 jL_freedom 4 := ⟨wd_x990, ⟨(by decide), (by rw [cwd_hh (by decide)]; exact wd_992)⟩, wd_94, ⟨by decide +kernel, by decide +kernel⟩, by decide +kernel, wd_991⟩
theorem wd_1661 : (Jvm.Cond.code ({ cls := "BitDeskModel", name := "freedom", desc := "(IJ)I" } : Jvm.MethodName) prog_9_method_88_code (4 : Nat) (Option.some Jvm.ClassFile.FieldType.int)) ∈ WS := ws_c7 127 rfl rfl
theorem wd_x1658 : (Jvm.Cond.methodLink "BitDeskLaw" (312 : Nat) ({ cls := "BitDeskModel", name := "freedom", desc := "(IJ)I" } : Jvm.MethodName)) ∈ WS := ws_c7 124 rfl rfl
theorem wd_1659 : (Jvm.Cond.instanceMethod ({ cls := "BitDeskModel", name := "freedom", desc := "(IJ)I" } : Jvm.MethodName)) ∈ WS := ws_c7 125 rfl rfl
theorem wd_1660 : (Jvm.Cond.selects "BitDeskModel" ({ cls := "BitDeskModel", name := "freedom", desc := "(IJ)I" } : Jvm.MethodName) ({ cls := "BitDeskModel", name := "freedom", desc := "(IJ)I" } : Jvm.MethodName)) ∈ WS := ws_c7 126 rfl rfl
theorem lk_L_312 : LkV RL 312 jX7_freedom 2 := ⟨⟨wd_x1658, ⟨rfl, (by rw [cwd_nil rfl]; exact wd_1661)⟩, wd_102, ⟨by decide +kernel, by decide +kernel⟩, by decide +kernel⟩, wd_1659, wd_1660⟩
theorem wd_999 : (Jvm.Cond.codeWith ({ cls := "BitDeskLaw", name := "pivot", desc := "(LBitDesk;II[J)I" } : Jvm.MethodName) method_36_code (5 : Nat) (Option.some Jvm.ClassFile.FieldType.int) [((0 : Nat), (10 : Nat), (13 : Nat), (19 : Nat))]) ∈ WS := ws_c4 185 rfl rfl
theorem wd_x997 : (Jvm.Cond.methodLink "BitDeskLaw" (313 : Nat) ({ cls := "BitDeskLaw", name := "pivot", desc := "(LBitDesk;II[J)I" } : Jvm.MethodName)) ∈ WS := ws_c4 183 rfl rfl
theorem wd_998 : (Jvm.Cond.static ({ cls := "BitDeskLaw", name := "pivot", desc := "(LBitDesk;II[J)I" } : Jvm.MethodName)) ∈ WS := ws_c4 184 rfl rfl
theorem lk_L_313 : LkSX RL 313 jL_pivot 4 := ⟨wd_x997, ⟨(by decide), (by rw [cwd_hh (by decide)]; exact wd_999)⟩, wd_94, ⟨by decide +kernel, by decide +kernel⟩, by decide +kernel, wd_998⟩
theorem wd_1665 : (Jvm.Cond.code ({ cls := "BitDeskModel", name := "pivot", desc := "(II)I" } : Jvm.MethodName) prog_9_method_89_code (3 : Nat) (Option.some Jvm.ClassFile.FieldType.int)) ∈ WS := ws_c7 131 rfl rfl
theorem wd_x1662 : (Jvm.Cond.methodLink "BitDeskLaw" (315 : Nat) ({ cls := "BitDeskModel", name := "pivot", desc := "(II)I" } : Jvm.MethodName)) ∈ WS := ws_c7 128 rfl rfl
theorem wd_1663 : (Jvm.Cond.instanceMethod ({ cls := "BitDeskModel", name := "pivot", desc := "(II)I" } : Jvm.MethodName)) ∈ WS := ws_c7 129 rfl rfl
theorem wd_1664 : (Jvm.Cond.selects "BitDeskModel" ({ cls := "BitDeskModel", name := "pivot", desc := "(II)I" } : Jvm.MethodName) ({ cls := "BitDeskModel", name := "pivot", desc := "(II)I" } : Jvm.MethodName)) ∈ WS := ws_c7 130 rfl rfl
theorem lk_L_315 : LkV RL 315 jX7_pivot 2 := ⟨⟨wd_x1662, ⟨rfl, (by rw [cwd_nil rfl]; exact wd_1665)⟩, wd_102, ⟨by decide +kernel, by decide +kernel⟩, by decide +kernel⟩, wd_1663, wd_1664⟩
theorem wd_1010 : (Jvm.Cond.codeWith ({ cls := "BitDeskLaw", name := "put", desc := "(LBitDesk;IIIZ[J)I" } : Jvm.MethodName) method_37_code (7 : Nat) (Option.some Jvm.ClassFile.FieldType.int) [((0 : Nat), (14 : Nat), (17 : Nat), (19 : Nat))]) ∈ WS := ws_c4 196 rfl rfl
theorem wd_x1008 : (Jvm.Cond.methodLink "BitDeskLaw" (316 : Nat) ({ cls := "BitDeskLaw", name := "put", desc := "(LBitDesk;IIIZ[J)I" } : Jvm.MethodName)) ∈ WS := ws_c4 194 rfl rfl
theorem wd_1009 : (Jvm.Cond.static ({ cls := "BitDeskLaw", name := "put", desc := "(LBitDesk;IIIZ[J)I" } : Jvm.MethodName)) ∈ WS := ws_c4 195 rfl rfl
theorem lk_L_316 : LkSX RL 316 jL_put 6 := ⟨wd_x1008, ⟨(by decide), (by rw [cwd_hh (by decide)]; exact wd_1010)⟩, wd_94, ⟨by decide +kernel, by decide +kernel⟩, by decide +kernel, wd_1009⟩
theorem wd_1673 : (Jvm.Cond.code ({ cls := "BitDeskModel", name := "put", desc := "(IIIZ)I" } : Jvm.MethodName) prog_9_method_94_code (8 : Nat) (Option.some Jvm.ClassFile.FieldType.int)) ∈ WS := ws_c7 139 rfl rfl
theorem wd_x1670 : (Jvm.Cond.methodLink "BitDeskLaw" (319 : Nat) ({ cls := "BitDeskModel", name := "put", desc := "(IIIZ)I" } : Jvm.MethodName)) ∈ WS := ws_c7 136 rfl rfl
theorem wd_1671 : (Jvm.Cond.instanceMethod ({ cls := "BitDeskModel", name := "put", desc := "(IIIZ)I" } : Jvm.MethodName)) ∈ WS := ws_c7 137 rfl rfl
theorem wd_1672 : (Jvm.Cond.selects "BitDeskModel" ({ cls := "BitDeskModel", name := "put", desc := "(IIIZ)I" } : Jvm.MethodName) ({ cls := "BitDeskModel", name := "put", desc := "(IIIZ)I" } : Jvm.MethodName)) ∈ WS := ws_c7 138 rfl rfl
theorem lk_L_319 : LkV RL 319 jX7_put 4 := ⟨⟨wd_x1670, ⟨rfl, (by rw [cwd_nil rfl]; exact wd_1673)⟩, wd_102, ⟨by decide +kernel, by decide +kernel⟩, by decide +kernel⟩, wd_1671, wd_1672⟩
theorem wd_1032 : (Jvm.Cond.codeWith ({ cls := "BitDeskLaw", name := "setRow", desc := "(LBitDesk;IIJ[J)I" } : Jvm.MethodName) method_38_code (7 : Nat) (Option.some Jvm.ClassFile.FieldType.int) [((0 : Nat), (12 : Nat), (15 : Nat), (19 : Nat))]) ∈ WS := ws_c4 218 rfl rfl
theorem wd_x1030 : (Jvm.Cond.methodLink "BitDeskLaw" (320 : Nat) ({ cls := "BitDeskLaw", name := "setRow", desc := "(LBitDesk;IIJ[J)I" } : Jvm.MethodName)) ∈ WS := ws_c4 216 rfl rfl
theorem wd_1031 : (Jvm.Cond.static ({ cls := "BitDeskLaw", name := "setRow", desc := "(LBitDesk;IIJ[J)I" } : Jvm.MethodName)) ∈ WS := ws_c4 217 rfl rfl
theorem lk_L_320 : LkSX RL 320 jL_setRow 5 := ⟨wd_x1030, ⟨(by decide), (by rw [cwd_hh (by decide)]; exact wd_1032)⟩, wd_94, ⟨by decide +kernel, by decide +kernel⟩, by decide +kernel, wd_1031⟩
theorem wd_1685 : (Jvm.Cond.code ({ cls := "BitDeskModel", name := "setRow", desc := "(IIJ)I" } : Jvm.MethodName) prog_9_method_95_code (6 : Nat) (Option.some Jvm.ClassFile.FieldType.int)) ∈ WS := ws_c7 151 rfl rfl
theorem wd_x1682 : (Jvm.Cond.methodLink "BitDeskLaw" (323 : Nat) ({ cls := "BitDeskModel", name := "setRow", desc := "(IIJ)I" } : Jvm.MethodName)) ∈ WS := ws_c7 148 rfl rfl
theorem wd_1683 : (Jvm.Cond.instanceMethod ({ cls := "BitDeskModel", name := "setRow", desc := "(IIJ)I" } : Jvm.MethodName)) ∈ WS := ws_c7 149 rfl rfl
theorem wd_1684 : (Jvm.Cond.selects "BitDeskModel" ({ cls := "BitDeskModel", name := "setRow", desc := "(IIJ)I" } : Jvm.MethodName) ({ cls := "BitDeskModel", name := "setRow", desc := "(IIJ)I" } : Jvm.MethodName)) ∈ WS := ws_c7 150 rfl rfl
theorem lk_L_323 : LkV RL 323 jX7_setRow 3 := ⟨⟨wd_x1682, ⟨rfl, (by rw [cwd_nil rfl]; exact wd_1685)⟩, wd_102, ⟨by decide +kernel, by decide +kernel⟩, by decide +kernel⟩, wd_1683, wd_1684⟩
theorem wd_1044 : (Jvm.Cond.codeWith ({ cls := "BitDeskLaw", name := "copy", desc := "(LBitDesk;II[J)I" } : Jvm.MethodName) method_39_code (5 : Nat) (Option.some Jvm.ClassFile.FieldType.int) [((0 : Nat), (10 : Nat), (13 : Nat), (19 : Nat))]) ∈ WS := ws_c4 230 rfl rfl
theorem wd_x1042 : (Jvm.Cond.methodLink "BitDeskLaw" (324 : Nat) ({ cls := "BitDeskLaw", name := "copy", desc := "(LBitDesk;II[J)I" } : Jvm.MethodName)) ∈ WS := ws_c4 228 rfl rfl
theorem wd_1043 : (Jvm.Cond.static ({ cls := "BitDeskLaw", name := "copy", desc := "(LBitDesk;II[J)I" } : Jvm.MethodName)) ∈ WS := ws_c4 229 rfl rfl
theorem lk_L_324 : LkSX RL 324 jL_copy 4 := ⟨wd_x1042, ⟨(by decide), (by rw [cwd_hh (by decide)]; exact wd_1044)⟩, wd_94, ⟨by decide +kernel, by decide +kernel⟩, by decide +kernel, wd_1043⟩
theorem wd_1689 : (Jvm.Cond.code ({ cls := "BitDeskModel", name := "copy", desc := "(II)I" } : Jvm.MethodName) prog_9_method_97_code (3 : Nat) (Option.some Jvm.ClassFile.FieldType.int)) ∈ WS := ws_c7 155 rfl rfl
theorem wd_x1686 : (Jvm.Cond.methodLink "BitDeskLaw" (326 : Nat) ({ cls := "BitDeskModel", name := "copy", desc := "(II)I" } : Jvm.MethodName)) ∈ WS := ws_c7 152 rfl rfl
theorem wd_1687 : (Jvm.Cond.instanceMethod ({ cls := "BitDeskModel", name := "copy", desc := "(II)I" } : Jvm.MethodName)) ∈ WS := ws_c7 153 rfl rfl
theorem wd_1688 : (Jvm.Cond.selects "BitDeskModel" ({ cls := "BitDeskModel", name := "copy", desc := "(II)I" } : Jvm.MethodName) ({ cls := "BitDeskModel", name := "copy", desc := "(II)I" } : Jvm.MethodName)) ∈ WS := ws_c7 154 rfl rfl
theorem lk_L_326 : LkV RL 326 jX7_copy 2 := ⟨⟨wd_x1686, ⟨rfl, (by rw [cwd_nil rfl]; exact wd_1689)⟩, wd_102, ⟨by decide +kernel, by decide +kernel⟩, by decide +kernel⟩, wd_1687, wd_1688⟩
theorem wd_1055 : (Jvm.Cond.codeWith ({ cls := "BitDeskLaw", name := "transpose", desc := "(LBitDesk;II[J)I" } : Jvm.MethodName) method_40_code (5 : Nat) (Option.some Jvm.ClassFile.FieldType.int) [((0 : Nat), (10 : Nat), (13 : Nat), (19 : Nat))]) ∈ WS := ws_c5 1 rfl rfl
theorem wd_x1053 : (Jvm.Cond.methodLink "BitDeskLaw" (327 : Nat) ({ cls := "BitDeskLaw", name := "transpose", desc := "(LBitDesk;II[J)I" } : Jvm.MethodName)) ∈ WS := ws_c4 239 rfl rfl
theorem wd_1054 : (Jvm.Cond.static ({ cls := "BitDeskLaw", name := "transpose", desc := "(LBitDesk;II[J)I" } : Jvm.MethodName)) ∈ WS := ws_c5 0 rfl rfl
theorem lk_L_327 : LkSX RL 327 jL_transpose 4 := ⟨wd_x1053, ⟨(by decide), (by rw [cwd_hh (by decide)]; exact wd_1055)⟩, wd_94, ⟨by decide +kernel, by decide +kernel⟩, by decide +kernel, wd_1054⟩
theorem wd_1697 : (Jvm.Cond.code ({ cls := "BitDeskModel", name := "transpose", desc := "(II)I" } : Jvm.MethodName) prog_9_method_98_code (5 : Nat) (Option.some Jvm.ClassFile.FieldType.int)) ∈ WS := ws_c7 163 rfl rfl
theorem wd_x1694 : (Jvm.Cond.methodLink "BitDeskLaw" (329 : Nat) ({ cls := "BitDeskModel", name := "transpose", desc := "(II)I" } : Jvm.MethodName)) ∈ WS := ws_c7 160 rfl rfl
theorem wd_1695 : (Jvm.Cond.instanceMethod ({ cls := "BitDeskModel", name := "transpose", desc := "(II)I" } : Jvm.MethodName)) ∈ WS := ws_c7 161 rfl rfl
theorem wd_1696 : (Jvm.Cond.selects "BitDeskModel" ({ cls := "BitDeskModel", name := "transpose", desc := "(II)I" } : Jvm.MethodName) ({ cls := "BitDeskModel", name := "transpose", desc := "(II)I" } : Jvm.MethodName)) ∈ WS := ws_c7 162 rfl rfl
theorem lk_L_329 : LkV RL 329 jX7_transpose 2 := ⟨⟨wd_x1694, ⟨rfl, (by rw [cwd_nil rfl]; exact wd_1697)⟩, wd_102, ⟨by decide +kernel, by decide +kernel⟩, by decide +kernel⟩, wd_1695, wd_1696⟩
theorem wd_1062 : (Jvm.Cond.codeWith ({ cls := "BitDeskLaw", name := "combine", desc := "(LBitDesk;IIII[J)I" } : Jvm.MethodName) method_41_code (7 : Nat) (Option.some Jvm.ClassFile.FieldType.int) [((0 : Nat), (14 : Nat), (17 : Nat), (19 : Nat)), ((0 : Nat), (14 : Nat), (21 : Nat), (13 : Nat))]) ∈ WS := ws_c5 8 rfl rfl
theorem wd_x1060 : (Jvm.Cond.methodLink "BitDeskLaw" (330 : Nat) ({ cls := "BitDeskLaw", name := "combine", desc := "(LBitDesk;IIII[J)I" } : Jvm.MethodName)) ∈ WS := ws_c5 6 rfl rfl
theorem wd_1061 : (Jvm.Cond.static ({ cls := "BitDeskLaw", name := "combine", desc := "(LBitDesk;IIII[J)I" } : Jvm.MethodName)) ∈ WS := ws_c5 7 rfl rfl
theorem lk_L_330 : LkSX RL 330 jL_combine 6 := ⟨wd_x1060, ⟨(by decide), (by rw [cwd_hh (by decide)]; exact wd_1062)⟩, wd_94, ⟨by decide +kernel, by decide +kernel⟩, by decide +kernel, wd_1061⟩
theorem wd_1701 : (Jvm.Cond.code ({ cls := "BitDeskModel", name := "combine", desc := "(IIII)I" } : Jvm.MethodName) prog_9_method_100_code (6 : Nat) (Option.some Jvm.ClassFile.FieldType.int)) ∈ WS := ws_c7 167 rfl rfl
theorem wd_x1698 : (Jvm.Cond.methodLink "BitDeskLaw" (332 : Nat) ({ cls := "BitDeskModel", name := "combine", desc := "(IIII)I" } : Jvm.MethodName)) ∈ WS := ws_c7 164 rfl rfl
theorem wd_1699 : (Jvm.Cond.instanceMethod ({ cls := "BitDeskModel", name := "combine", desc := "(IIII)I" } : Jvm.MethodName)) ∈ WS := ws_c7 165 rfl rfl
theorem wd_1700 : (Jvm.Cond.selects "BitDeskModel" ({ cls := "BitDeskModel", name := "combine", desc := "(IIII)I" } : Jvm.MethodName) ({ cls := "BitDeskModel", name := "combine", desc := "(IIII)I" } : Jvm.MethodName)) ∈ WS := ws_c7 166 rfl rfl
theorem lk_L_332 : LkV RL 332 jX7_combine 4 := ⟨⟨wd_x1698, ⟨rfl, (by rw [cwd_nil rfl]; exact wd_1701)⟩, wd_102, ⟨by decide +kernel, by decide +kernel⟩, by decide +kernel⟩, wd_1699, wd_1700⟩
theorem wd_1072 : (Jvm.Cond.codeWith ({ cls := "BitDeskLaw", name := "product", desc := "(LBitDesk;IIIZ[J)I" } : Jvm.MethodName) method_42_code (7 : Nat) (Option.some Jvm.ClassFile.FieldType.int) [((0 : Nat), (14 : Nat), (17 : Nat), (19 : Nat))]) ∈ WS := ws_c5 18 rfl rfl
theorem wd_x1070 : (Jvm.Cond.methodLink "BitDeskLaw" (333 : Nat) ({ cls := "BitDeskLaw", name := "product", desc := "(LBitDesk;IIIZ[J)I" } : Jvm.MethodName)) ∈ WS := ws_c5 16 rfl rfl
theorem wd_1071 : (Jvm.Cond.static ({ cls := "BitDeskLaw", name := "product", desc := "(LBitDesk;IIIZ[J)I" } : Jvm.MethodName)) ∈ WS := ws_c5 17 rfl rfl
theorem lk_L_333 : LkSX RL 333 jL_product 6 := ⟨wd_x1070, ⟨(by decide), (by rw [cwd_hh (by decide)]; exact wd_1072)⟩, wd_94, ⟨by decide +kernel, by decide +kernel⟩, by decide +kernel, wd_1071⟩
theorem wd_1708 : (Jvm.Cond.code ({ cls := "BitDeskModel", name := "product", desc := "(IIIZ)I" } : Jvm.MethodName) prog_9_method_103_code (5 : Nat) (Option.some Jvm.ClassFile.FieldType.int)) ∈ WS := ws_c7 174 rfl rfl
theorem wd_x1705 : (Jvm.Cond.methodLink "BitDeskLaw" (335 : Nat) ({ cls := "BitDeskModel", name := "product", desc := "(IIIZ)I" } : Jvm.MethodName)) ∈ WS := ws_c7 171 rfl rfl
theorem wd_1706 : (Jvm.Cond.instanceMethod ({ cls := "BitDeskModel", name := "product", desc := "(IIIZ)I" } : Jvm.MethodName)) ∈ WS := ws_c7 172 rfl rfl
theorem wd_1707 : (Jvm.Cond.selects "BitDeskModel" ({ cls := "BitDeskModel", name := "product", desc := "(IIIZ)I" } : Jvm.MethodName) ({ cls := "BitDeskModel", name := "product", desc := "(IIIZ)I" } : Jvm.MethodName)) ∈ WS := ws_c7 173 rfl rfl
theorem lk_L_335 : LkV RL 335 jX7_product 4 := ⟨⟨wd_x1705, ⟨rfl, (by rw [cwd_nil rfl]; exact wd_1708)⟩, wd_102, ⟨by decide +kernel, by decide +kernel⟩, by decide +kernel⟩, wd_1706, wd_1707⟩
theorem wd_1105 : (Jvm.Cond.codeWith ({ cls := "BitDeskLaw", name := "power", desc := "(LBitDesk;IIIZ[J)I" } : Jvm.MethodName) method_43_code (7 : Nat) (Option.some Jvm.ClassFile.FieldType.int) [((0 : Nat), (14 : Nat), (17 : Nat), (19 : Nat)), ((0 : Nat), (14 : Nat), (21 : Nat), (13 : Nat))]) ∈ WS := ws_c5 51 rfl rfl
theorem wd_x1103 : (Jvm.Cond.methodLink "BitDeskLaw" (336 : Nat) ({ cls := "BitDeskLaw", name := "power", desc := "(LBitDesk;IIIZ[J)I" } : Jvm.MethodName)) ∈ WS := ws_c5 49 rfl rfl
theorem wd_1104 : (Jvm.Cond.static ({ cls := "BitDeskLaw", name := "power", desc := "(LBitDesk;IIIZ[J)I" } : Jvm.MethodName)) ∈ WS := ws_c5 50 rfl rfl
theorem lk_L_336 : LkSX RL 336 jL_power 6 := ⟨wd_x1103, ⟨(by decide), (by rw [cwd_hh (by decide)]; exact wd_1105)⟩, wd_94, ⟨by decide +kernel, by decide +kernel⟩, by decide +kernel, wd_1104⟩
theorem wd_1720 : (Jvm.Cond.code ({ cls := "BitDeskModel", name := "power", desc := "(IIIZ)I" } : Jvm.MethodName) prog_9_method_105_code (6 : Nat) (Option.some Jvm.ClassFile.FieldType.int)) ∈ WS := ws_c7 186 rfl rfl
theorem wd_x1717 : (Jvm.Cond.methodLink "BitDeskLaw" (338 : Nat) ({ cls := "BitDeskModel", name := "power", desc := "(IIIZ)I" } : Jvm.MethodName)) ∈ WS := ws_c7 183 rfl rfl
theorem wd_1718 : (Jvm.Cond.instanceMethod ({ cls := "BitDeskModel", name := "power", desc := "(IIIZ)I" } : Jvm.MethodName)) ∈ WS := ws_c7 184 rfl rfl
theorem wd_1719 : (Jvm.Cond.selects "BitDeskModel" ({ cls := "BitDeskModel", name := "power", desc := "(IIIZ)I" } : Jvm.MethodName) ({ cls := "BitDeskModel", name := "power", desc := "(IIIZ)I" } : Jvm.MethodName)) ∈ WS := ws_c7 185 rfl rfl
theorem lk_L_338 : LkV RL 338 jX7_power 4 := ⟨⟨wd_x1717, ⟨rfl, (by rw [cwd_nil rfl]; exact wd_1720)⟩, wd_102, ⟨by decide +kernel, by decide +kernel⟩, by decide +kernel⟩, wd_1718, wd_1719⟩
theorem wd_1119 : (Jvm.Cond.codeWith ({ cls := "BitDeskLaw", name := "invert", desc := "(LBitDesk;II[J)I" } : Jvm.MethodName) method_44_code (5 : Nat) (Option.some Jvm.ClassFile.FieldType.int) [((0 : Nat), (10 : Nat), (13 : Nat), (19 : Nat))]) ∈ WS := ws_c5 65 rfl rfl
theorem wd_x1117 : (Jvm.Cond.methodLink "BitDeskLaw" (339 : Nat) ({ cls := "BitDeskLaw", name := "invert", desc := "(LBitDesk;II[J)I" } : Jvm.MethodName)) ∈ WS := ws_c5 63 rfl rfl
theorem wd_1118 : (Jvm.Cond.static ({ cls := "BitDeskLaw", name := "invert", desc := "(LBitDesk;II[J)I" } : Jvm.MethodName)) ∈ WS := ws_c5 64 rfl rfl
theorem lk_L_339 : LkSX RL 339 jL_invert 4 := ⟨wd_x1117, ⟨(by decide), (by rw [cwd_hh (by decide)]; exact wd_1119)⟩, wd_94, ⟨by decide +kernel, by decide +kernel⟩, by decide +kernel, wd_1118⟩
theorem wd_1729 : (Jvm.Cond.code ({ cls := "BitDeskModel", name := "invert", desc := "(II)I" } : Jvm.MethodName) prog_9_method_106_code (4 : Nat) (Option.some Jvm.ClassFile.FieldType.int)) ∈ WS := ws_c7 195 rfl rfl
theorem wd_x1726 : (Jvm.Cond.methodLink "BitDeskLaw" (341 : Nat) ({ cls := "BitDeskModel", name := "invert", desc := "(II)I" } : Jvm.MethodName)) ∈ WS := ws_c7 192 rfl rfl
theorem wd_1727 : (Jvm.Cond.instanceMethod ({ cls := "BitDeskModel", name := "invert", desc := "(II)I" } : Jvm.MethodName)) ∈ WS := ws_c7 193 rfl rfl
theorem wd_1728 : (Jvm.Cond.selects "BitDeskModel" ({ cls := "BitDeskModel", name := "invert", desc := "(II)I" } : Jvm.MethodName) ({ cls := "BitDeskModel", name := "invert", desc := "(II)I" } : Jvm.MethodName)) ∈ WS := ws_c7 194 rfl rfl
theorem lk_L_341 : LkV RL 341 jX7_invert 2 := ⟨⟨wd_x1726, ⟨rfl, (by rw [cwd_nil rfl]; exact wd_1729)⟩, wd_102, ⟨by decide +kernel, by decide +kernel⟩, by decide +kernel⟩, wd_1727, wd_1728⟩
theorem wd_1130 : (Jvm.Cond.codeWith ({ cls := "BitDeskLaw", name := "close", desc := "(LBitDesk;II[J)I" } : Jvm.MethodName) method_45_code (5 : Nat) (Option.some Jvm.ClassFile.FieldType.int) [((0 : Nat), (10 : Nat), (13 : Nat), (19 : Nat))]) ∈ WS := ws_c5 76 rfl rfl
theorem wd_x1128 : (Jvm.Cond.methodLink "BitDeskLaw" (342 : Nat) ({ cls := "BitDeskLaw", name := "close", desc := "(LBitDesk;II[J)I" } : Jvm.MethodName)) ∈ WS := ws_c5 74 rfl rfl
theorem wd_1129 : (Jvm.Cond.static ({ cls := "BitDeskLaw", name := "close", desc := "(LBitDesk;II[J)I" } : Jvm.MethodName)) ∈ WS := ws_c5 75 rfl rfl
theorem lk_L_342 : LkSX RL 342 jL_close 4 := ⟨wd_x1128, ⟨(by decide), (by rw [cwd_hh (by decide)]; exact wd_1130)⟩, wd_94, ⟨by decide +kernel, by decide +kernel⟩, by decide +kernel, wd_1129⟩
theorem wd_1733 : (Jvm.Cond.code ({ cls := "BitDeskModel", name := "close", desc := "(II)I" } : Jvm.MethodName) prog_9_method_107_code (3 : Nat) (Option.some Jvm.ClassFile.FieldType.int)) ∈ WS := ws_c7 199 rfl rfl
theorem wd_x1730 : (Jvm.Cond.methodLink "BitDeskLaw" (344 : Nat) ({ cls := "BitDeskModel", name := "close", desc := "(II)I" } : Jvm.MethodName)) ∈ WS := ws_c7 196 rfl rfl
theorem wd_1731 : (Jvm.Cond.instanceMethod ({ cls := "BitDeskModel", name := "close", desc := "(II)I" } : Jvm.MethodName)) ∈ WS := ws_c7 197 rfl rfl
theorem wd_1732 : (Jvm.Cond.selects "BitDeskModel" ({ cls := "BitDeskModel", name := "close", desc := "(II)I" } : Jvm.MethodName) ({ cls := "BitDeskModel", name := "close", desc := "(II)I" } : Jvm.MethodName)) ∈ WS := ws_c7 198 rfl rfl
theorem lk_L_344 : LkV RL 344 jX7_close 2 := ⟨⟨wd_x1730, ⟨rfl, (by rw [cwd_nil rfl]; exact wd_1733)⟩, wd_102, ⟨by decide +kernel, by decide +kernel⟩, by decide +kernel⟩, wd_1731, wd_1732⟩
theorem wd_1137 : (Jvm.Cond.codeWith ({ cls := "BitDeskLaw", name := "reduce", desc := "(LBitDesk;II[J)I" } : Jvm.MethodName) method_46_code (5 : Nat) (Option.some Jvm.ClassFile.FieldType.int) [((0 : Nat), (10 : Nat), (13 : Nat), (19 : Nat))]) ∈ WS := ws_c5 83 rfl rfl
theorem wd_x1135 : (Jvm.Cond.methodLink "BitDeskLaw" (345 : Nat) ({ cls := "BitDeskLaw", name := "reduce", desc := "(LBitDesk;II[J)I" } : Jvm.MethodName)) ∈ WS := ws_c5 81 rfl rfl
theorem wd_1136 : (Jvm.Cond.static ({ cls := "BitDeskLaw", name := "reduce", desc := "(LBitDesk;II[J)I" } : Jvm.MethodName)) ∈ WS := ws_c5 82 rfl rfl
theorem lk_L_345 : LkSX RL 345 jL_reduce 4 := ⟨wd_x1135, ⟨(by decide), (by rw [cwd_hh (by decide)]; exact wd_1137)⟩, wd_94, ⟨by decide +kernel, by decide +kernel⟩, by decide +kernel, wd_1136⟩
theorem wd_1737 : (Jvm.Cond.code ({ cls := "BitDeskModel", name := "reduce", desc := "(II)I" } : Jvm.MethodName) prog_9_method_109_code (6 : Nat) (Option.some Jvm.ClassFile.FieldType.int)) ∈ WS := ws_c7 203 rfl rfl
theorem wd_x1734 : (Jvm.Cond.methodLink "BitDeskLaw" (347 : Nat) ({ cls := "BitDeskModel", name := "reduce", desc := "(II)I" } : Jvm.MethodName)) ∈ WS := ws_c7 200 rfl rfl
theorem wd_1735 : (Jvm.Cond.instanceMethod ({ cls := "BitDeskModel", name := "reduce", desc := "(II)I" } : Jvm.MethodName)) ∈ WS := ws_c7 201 rfl rfl
theorem wd_1736 : (Jvm.Cond.selects "BitDeskModel" ({ cls := "BitDeskModel", name := "reduce", desc := "(II)I" } : Jvm.MethodName) ({ cls := "BitDeskModel", name := "reduce", desc := "(II)I" } : Jvm.MethodName)) ∈ WS := ws_c7 202 rfl rfl
theorem lk_L_347 : LkV RL 347 jX7_reduce 2 := ⟨⟨wd_x1734, ⟨rfl, (by rw [cwd_nil rfl]; exact wd_1737)⟩, wd_102, ⟨by decide +kernel, by decide +kernel⟩, by decide +kernel⟩, wd_1735, wd_1736⟩
theorem wd_1149 : (Jvm.Cond.codeWith ({ cls := "BitDeskLaw", name := "exchange", desc := "(LBitDesk;III[J)I" } : Jvm.MethodName) method_47_code (6 : Nat) (Option.some Jvm.ClassFile.FieldType.int) [((0 : Nat), (12 : Nat), (15 : Nat), (19 : Nat))]) ∈ WS := ws_c5 95 rfl rfl
theorem wd_x1147 : (Jvm.Cond.methodLink "BitDeskLaw" (348 : Nat) ({ cls := "BitDeskLaw", name := "exchange", desc := "(LBitDesk;III[J)I" } : Jvm.MethodName)) ∈ WS := ws_c5 93 rfl rfl
theorem wd_1148 : (Jvm.Cond.static ({ cls := "BitDeskLaw", name := "exchange", desc := "(LBitDesk;III[J)I" } : Jvm.MethodName)) ∈ WS := ws_c5 94 rfl rfl
theorem lk_L_348 : LkSX RL 348 jL_exchange 5 := ⟨wd_x1147, ⟨(by decide), (by rw [cwd_hh (by decide)]; exact wd_1149)⟩, wd_94, ⟨by decide +kernel, by decide +kernel⟩, by decide +kernel, wd_1148⟩
theorem wd_1745 : (Jvm.Cond.code ({ cls := "BitDeskModel", name := "exchange", desc := "(III)I" } : Jvm.MethodName) prog_9_method_111_code (7 : Nat) (Option.some Jvm.ClassFile.FieldType.int)) ∈ WS := ws_c7 211 rfl rfl
theorem wd_x1742 : (Jvm.Cond.methodLink "BitDeskLaw" (350 : Nat) ({ cls := "BitDeskModel", name := "exchange", desc := "(III)I" } : Jvm.MethodName)) ∈ WS := ws_c7 208 rfl rfl
theorem wd_1743 : (Jvm.Cond.instanceMethod ({ cls := "BitDeskModel", name := "exchange", desc := "(III)I" } : Jvm.MethodName)) ∈ WS := ws_c7 209 rfl rfl
theorem wd_1744 : (Jvm.Cond.selects "BitDeskModel" ({ cls := "BitDeskModel", name := "exchange", desc := "(III)I" } : Jvm.MethodName) ({ cls := "BitDeskModel", name := "exchange", desc := "(III)I" } : Jvm.MethodName)) ∈ WS := ws_c7 210 rfl rfl
theorem lk_L_350 : LkV RL 350 jX7_exchange 3 := ⟨⟨wd_x1742, ⟨rfl, (by rw [cwd_nil rfl]; exact wd_1745)⟩, wd_102, ⟨by decide +kernel, by decide +kernel⟩, by decide +kernel⟩, wd_1743, wd_1744⟩
theorem wd_1159 : (Jvm.Cond.codeWith ({ cls := "BitDeskLaw", name := "keep", desc := "(LBitDesk;IZ[J)I" } : Jvm.MethodName) method_48_code (5 : Nat) (Option.some Jvm.ClassFile.FieldType.int) [((0 : Nat), (10 : Nat), (13 : Nat), (19 : Nat))]) ∈ WS := ws_c5 105 rfl rfl
theorem wd_x1157 : (Jvm.Cond.methodLink "BitDeskLaw" (351 : Nat) ({ cls := "BitDeskLaw", name := "keep", desc := "(LBitDesk;IZ[J)I" } : Jvm.MethodName)) ∈ WS := ws_c5 103 rfl rfl
theorem wd_1158 : (Jvm.Cond.static ({ cls := "BitDeskLaw", name := "keep", desc := "(LBitDesk;IZ[J)I" } : Jvm.MethodName)) ∈ WS := ws_c5 104 rfl rfl
theorem lk_L_351 : LkSX RL 351 jL_keep 4 := ⟨wd_x1157, ⟨(by decide), (by rw [cwd_hh (by decide)]; exact wd_1159)⟩, wd_94, ⟨by decide +kernel, by decide +kernel⟩, by decide +kernel, wd_1158⟩
theorem wd_1752 : (Jvm.Cond.code ({ cls := "BitDeskModel", name := "keep", desc := "(IZ)I" } : Jvm.MethodName) prog_9_method_112_code (3 : Nat) (Option.some Jvm.ClassFile.FieldType.int)) ∈ WS := ws_c7 218 rfl rfl
theorem wd_x1749 : (Jvm.Cond.methodLink "BitDeskLaw" (354 : Nat) ({ cls := "BitDeskModel", name := "keep", desc := "(IZ)I" } : Jvm.MethodName)) ∈ WS := ws_c7 215 rfl rfl
theorem wd_1750 : (Jvm.Cond.instanceMethod ({ cls := "BitDeskModel", name := "keep", desc := "(IZ)I" } : Jvm.MethodName)) ∈ WS := ws_c7 216 rfl rfl
theorem wd_1751 : (Jvm.Cond.selects "BitDeskModel" ({ cls := "BitDeskModel", name := "keep", desc := "(IZ)I" } : Jvm.MethodName) ({ cls := "BitDeskModel", name := "keep", desc := "(IZ)I" } : Jvm.MethodName)) ∈ WS := ws_c7 217 rfl rfl
theorem lk_L_354 : LkV RL 354 jX7_keep 2 := ⟨⟨wd_x1749, ⟨rfl, (by rw [cwd_nil rfl]; exact wd_1752)⟩, wd_102, ⟨by decide +kernel, by decide +kernel⟩, by decide +kernel⟩, wd_1750, wd_1751⟩
theorem wd_1166 : (Jvm.Cond.codeWith ({ cls := "BitDeskLaw", name := "setBlock", desc := "(LBitDesk;I[J)I" } : Jvm.MethodName) method_49_code (4 : Nat) (Option.some Jvm.ClassFile.FieldType.int) [((0 : Nat), (9 : Nat), (12 : Nat), (13 : Nat))]) ∈ WS := ws_c5 112 rfl rfl
theorem wd_x1164 : (Jvm.Cond.methodLink "BitDeskLaw" (355 : Nat) ({ cls := "BitDeskLaw", name := "setBlock", desc := "(LBitDesk;I[J)I" } : Jvm.MethodName)) ∈ WS := ws_c5 110 rfl rfl
theorem wd_1165 : (Jvm.Cond.static ({ cls := "BitDeskLaw", name := "setBlock", desc := "(LBitDesk;I[J)I" } : Jvm.MethodName)) ∈ WS := ws_c5 111 rfl rfl
theorem lk_L_355 : LkSX RL 355 jL_setBlock 3 := ⟨wd_x1164, ⟨(by decide), (by rw [cwd_hh (by decide)]; exact wd_1166)⟩, wd_94, ⟨by decide +kernel, by decide +kernel⟩, by decide +kernel, wd_1165⟩
theorem wd_1756 : (Jvm.Cond.code ({ cls := "BitDeskModel", name := "setBlock", desc := "(I)I" } : Jvm.MethodName) prog_9_method_113_code (3 : Nat) (Option.some Jvm.ClassFile.FieldType.int)) ∈ WS := ws_c7 222 rfl rfl
theorem wd_x1753 : (Jvm.Cond.methodLink "BitDeskLaw" (357 : Nat) ({ cls := "BitDeskModel", name := "setBlock", desc := "(I)I" } : Jvm.MethodName)) ∈ WS := ws_c7 219 rfl rfl
theorem wd_1754 : (Jvm.Cond.instanceMethod ({ cls := "BitDeskModel", name := "setBlock", desc := "(I)I" } : Jvm.MethodName)) ∈ WS := ws_c7 220 rfl rfl
theorem wd_1755 : (Jvm.Cond.selects "BitDeskModel" ({ cls := "BitDeskModel", name := "setBlock", desc := "(I)I" } : Jvm.MethodName) ({ cls := "BitDeskModel", name := "setBlock", desc := "(I)I" } : Jvm.MethodName)) ∈ WS := ws_c7 221 rfl rfl
theorem lk_L_357 : LkV RL 357 jX7_setBlock 1 := ⟨⟨wd_x1753, ⟨rfl, (by rw [cwd_nil rfl]; exact wd_1756)⟩, wd_102, ⟨by decide +kernel, by decide +kernel⟩, by decide +kernel⟩, wd_1754, wd_1755⟩
theorem wd_1173 : (Jvm.Cond.codeWith ({ cls := "BitDeskLaw", name := "kept", desc := "(LBitDesk;II[J)I" } : Jvm.MethodName) method_50_code (5 : Nat) (Option.some Jvm.ClassFile.FieldType.int) [((0 : Nat), (10 : Nat), (13 : Nat), (19 : Nat)), ((0 : Nat), (10 : Nat), (17 : Nat), (13 : Nat))]) ∈ WS := ws_c5 119 rfl rfl
theorem wd_x1171 : (Jvm.Cond.methodLink "BitDeskLaw" (358 : Nat) ({ cls := "BitDeskLaw", name := "kept", desc := "(LBitDesk;II[J)I" } : Jvm.MethodName)) ∈ WS := ws_c5 117 rfl rfl
theorem wd_1172 : (Jvm.Cond.static ({ cls := "BitDeskLaw", name := "kept", desc := "(LBitDesk;II[J)I" } : Jvm.MethodName)) ∈ WS := ws_c5 118 rfl rfl
theorem lk_L_358 : LkSX RL 358 jL_kept 4 := ⟨wd_x1171, ⟨(by decide), (by rw [cwd_hh (by decide)]; exact wd_1173)⟩, wd_94, ⟨by decide +kernel, by decide +kernel⟩, by decide +kernel, wd_1172⟩
theorem wd_1761 : (Jvm.Cond.code ({ cls := "BitDeskModel", name := "kept", desc := "(II)I" } : Jvm.MethodName) prog_9_method_114_code (3 : Nat) (Option.some Jvm.ClassFile.FieldType.int)) ∈ WS := ws_c7 227 rfl rfl
theorem wd_x1758 : (Jvm.Cond.methodLink "BitDeskLaw" (360 : Nat) ({ cls := "BitDeskModel", name := "kept", desc := "(II)I" } : Jvm.MethodName)) ∈ WS := ws_c7 224 rfl rfl
theorem wd_1759 : (Jvm.Cond.instanceMethod ({ cls := "BitDeskModel", name := "kept", desc := "(II)I" } : Jvm.MethodName)) ∈ WS := ws_c7 225 rfl rfl
theorem wd_1760 : (Jvm.Cond.selects "BitDeskModel" ({ cls := "BitDeskModel", name := "kept", desc := "(II)I" } : Jvm.MethodName) ({ cls := "BitDeskModel", name := "kept", desc := "(II)I" } : Jvm.MethodName)) ∈ WS := ws_c7 226 rfl rfl
theorem lk_L_360 : LkV RL 360 jX7_kept 2 := ⟨⟨wd_x1758, ⟨rfl, (by rw [cwd_nil rfl]; exact wd_1761)⟩, wd_102, ⟨by decide +kernel, by decide +kernel⟩, by decide +kernel⟩, wd_1759, wd_1760⟩
theorem wd_1180 : (Jvm.Cond.codeWith ({ cls := "BitDeskLaw", name := "work", desc := "(LBitDesk;I[J)I" } : Jvm.MethodName) method_51_code (4 : Nat) (Option.some Jvm.ClassFile.FieldType.int) [((0 : Nat), (9 : Nat), (12 : Nat), (13 : Nat))]) ∈ WS := ws_c5 126 rfl rfl
theorem wd_x1178 : (Jvm.Cond.methodLink "BitDeskLaw" (361 : Nat) ({ cls := "BitDeskLaw", name := "work", desc := "(LBitDesk;I[J)I" } : Jvm.MethodName)) ∈ WS := ws_c5 124 rfl rfl
theorem wd_1179 : (Jvm.Cond.static ({ cls := "BitDeskLaw", name := "work", desc := "(LBitDesk;I[J)I" } : Jvm.MethodName)) ∈ WS := ws_c5 125 rfl rfl
theorem lk_L_361 : LkSX RL 361 jL_work 3 := ⟨wd_x1178, ⟨(by decide), (by rw [cwd_hh (by decide)]; exact wd_1180)⟩, wd_94, ⟨by decide +kernel, by decide +kernel⟩, by decide +kernel, wd_1179⟩
theorem wd_1766 : (Jvm.Cond.code ({ cls := "BitDeskModel", name := "work", desc := "(I)I" } : Jvm.MethodName) prog_9_method_115_code (2 : Nat) (Option.some Jvm.ClassFile.FieldType.int)) ∈ WS := ws_c7 232 rfl rfl
theorem wd_x1763 : (Jvm.Cond.methodLink "BitDeskLaw" (363 : Nat) ({ cls := "BitDeskModel", name := "work", desc := "(I)I" } : Jvm.MethodName)) ∈ WS := ws_c7 229 rfl rfl
theorem wd_1764 : (Jvm.Cond.instanceMethod ({ cls := "BitDeskModel", name := "work", desc := "(I)I" } : Jvm.MethodName)) ∈ WS := ws_c7 230 rfl rfl
theorem wd_1765 : (Jvm.Cond.selects "BitDeskModel" ({ cls := "BitDeskModel", name := "work", desc := "(I)I" } : Jvm.MethodName) ({ cls := "BitDeskModel", name := "work", desc := "(I)I" } : Jvm.MethodName)) ∈ WS := ws_c7 231 rfl rfl
theorem lk_L_363 : LkV RL 363 jX7_work 1 := ⟨⟨wd_x1763, ⟨rfl, (by rw [cwd_nil rfl]; exact wd_1766)⟩, wd_102, ⟨by decide +kernel, by decide +kernel⟩, by decide +kernel⟩, wd_1764, wd_1765⟩
theorem wd_1187 : (Jvm.Cond.codeWith ({ cls := "BitDeskLaw", name := "writeRow", desc := "(LBitDesk;II[J)I" } : Jvm.MethodName) method_52_code (5 : Nat) (Option.some Jvm.ClassFile.FieldType.int) [((0 : Nat), (10 : Nat), (13 : Nat), (19 : Nat))]) ∈ WS := ws_c5 133 rfl rfl
theorem wd_x1185 : (Jvm.Cond.methodLink "BitDeskLaw" (364 : Nat) ({ cls := "BitDeskLaw", name := "writeRow", desc := "(LBitDesk;II[J)I" } : Jvm.MethodName)) ∈ WS := ws_c5 131 rfl rfl
theorem wd_1186 : (Jvm.Cond.static ({ cls := "BitDeskLaw", name := "writeRow", desc := "(LBitDesk;II[J)I" } : Jvm.MethodName)) ∈ WS := ws_c5 132 rfl rfl
theorem lk_L_364 : LkSX RL 364 jL_writeRow 4 := ⟨wd_x1185, ⟨(by decide), (by rw [cwd_hh (by decide)]; exact wd_1187)⟩, wd_94, ⟨by decide +kernel, by decide +kernel⟩, by decide +kernel, wd_1186⟩
theorem wd_1770 : (Jvm.Cond.code ({ cls := "BitDeskModel", name := "writeRow", desc := "(II)I" } : Jvm.MethodName) prog_9_method_116_code (4 : Nat) (Option.some Jvm.ClassFile.FieldType.int)) ∈ WS := ws_c7 236 rfl rfl
theorem wd_x1767 : (Jvm.Cond.methodLink "BitDeskLaw" (366 : Nat) ({ cls := "BitDeskModel", name := "writeRow", desc := "(II)I" } : Jvm.MethodName)) ∈ WS := ws_c7 233 rfl rfl
theorem wd_1768 : (Jvm.Cond.instanceMethod ({ cls := "BitDeskModel", name := "writeRow", desc := "(II)I" } : Jvm.MethodName)) ∈ WS := ws_c7 234 rfl rfl
theorem wd_1769 : (Jvm.Cond.selects "BitDeskModel" ({ cls := "BitDeskModel", name := "writeRow", desc := "(II)I" } : Jvm.MethodName) ({ cls := "BitDeskModel", name := "writeRow", desc := "(II)I" } : Jvm.MethodName)) ∈ WS := ws_c7 235 rfl rfl
theorem lk_L_366 : LkV RL 366 jX7_writeRow 2 := ⟨⟨wd_x1767, ⟨rfl, (by rw [cwd_nil rfl]; exact wd_1770)⟩, wd_102, ⟨by decide +kernel, by decide +kernel⟩, by decide +kernel⟩, wd_1768, wd_1769⟩
theorem wd_527 : (Jvm.Cond.code ({ cls := "BitDesk", name := "outputByte", desc := "(I)I" } : Jvm.MethodName) prog_1_method_56_code (2 : Nat) (Option.some Jvm.ClassFile.FieldType.int)) ∈ WS := ws_c2 193 rfl rfl
theorem wd_x524 : (Jvm.Cond.methodLink "BitDeskLaw" (367 : Nat) ({ cls := "BitDesk", name := "outputByte", desc := "(I)I" } : Jvm.MethodName)) ∈ WS := ws_c2 190 rfl rfl
theorem wd_525 : (Jvm.Cond.instanceMethod ({ cls := "BitDesk", name := "outputByte", desc := "(I)I" } : Jvm.MethodName)) ∈ WS := ws_c2 191 rfl rfl
theorem wd_526 : (Jvm.Cond.selects "BitDesk" ({ cls := "BitDesk", name := "outputByte", desc := "(I)I" } : Jvm.MethodName) ({ cls := "BitDesk", name := "outputByte", desc := "(I)I" } : Jvm.MethodName)) ∈ WS := ws_c2 192 rfl rfl
theorem lk_L_367 : LkV RL 367 jX6_outputByte 1 := ⟨⟨wd_x524, ⟨rfl, (by rw [cwd_nil rfl]; exact wd_527)⟩, wd_95, ⟨by decide +kernel, by decide +kernel⟩, by decide +kernel⟩, wd_525, wd_526⟩
theorem wd_1774 : (Jvm.Cond.code ({ cls := "BitDeskModel", name := "outputByte", desc := "(I)I" } : Jvm.MethodName) prog_9_method_117_code (2 : Nat) (Option.some Jvm.ClassFile.FieldType.int)) ∈ WS := ws_c8 0 rfl rfl
theorem wd_x1771 : (Jvm.Cond.methodLink "BitDeskLaw" (370 : Nat) ({ cls := "BitDeskModel", name := "outputByte", desc := "(I)I" } : Jvm.MethodName)) ∈ WS := ws_c7 237 rfl rfl
theorem wd_1772 : (Jvm.Cond.instanceMethod ({ cls := "BitDeskModel", name := "outputByte", desc := "(I)I" } : Jvm.MethodName)) ∈ WS := ws_c7 238 rfl rfl
theorem wd_1773 : (Jvm.Cond.selects "BitDeskModel" ({ cls := "BitDeskModel", name := "outputByte", desc := "(I)I" } : Jvm.MethodName) ({ cls := "BitDeskModel", name := "outputByte", desc := "(I)I" } : Jvm.MethodName)) ∈ WS := ws_c7 239 rfl rfl
theorem lk_L_370 : LkV RL 370 jX7_outputByte 1 := ⟨⟨wd_x1771, ⟨rfl, (by rw [cwd_nil rfl]; exact wd_1774)⟩, wd_102, ⟨by decide +kernel, by decide +kernel⟩, by decide +kernel⟩, wd_1772, wd_1773⟩
theorem wd_531 : (Jvm.Cond.code ({ cls := "BitDesk", name := "undo", desc := "()I" } : Jvm.MethodName) prog_1_method_57_code (1 : Nat) (Option.some Jvm.ClassFile.FieldType.int)) ∈ WS := ws_c2 197 rfl rfl
theorem wd_x528 : (Jvm.Cond.methodLink "BitDeskLaw" (371 : Nat) ({ cls := "BitDesk", name := "undo", desc := "()I" } : Jvm.MethodName)) ∈ WS := ws_c2 194 rfl rfl
theorem wd_529 : (Jvm.Cond.instanceMethod ({ cls := "BitDesk", name := "undo", desc := "()I" } : Jvm.MethodName)) ∈ WS := ws_c2 195 rfl rfl
theorem wd_530 : (Jvm.Cond.selects "BitDesk" ({ cls := "BitDesk", name := "undo", desc := "()I" } : Jvm.MethodName) ({ cls := "BitDesk", name := "undo", desc := "()I" } : Jvm.MethodName)) ∈ WS := ws_c2 196 rfl rfl
theorem lk_L_371 : LkV RL 371 jX6_undo 0 := ⟨⟨wd_x528, ⟨rfl, (by rw [cwd_nil rfl]; exact wd_531)⟩, wd_95, ⟨by decide +kernel, by decide +kernel⟩, by decide +kernel⟩, wd_529, wd_530⟩
theorem wd_1669 : (Jvm.Cond.code ({ cls := "BitDeskModel", name := "undo", desc := "()I" } : Jvm.MethodName) prog_9_method_91_code (1 : Nat) (Option.some Jvm.ClassFile.FieldType.int)) ∈ WS := ws_c7 135 rfl rfl
theorem wd_x1666 : (Jvm.Cond.methodLink "BitDeskLaw" (374 : Nat) ({ cls := "BitDeskModel", name := "undo", desc := "()I" } : Jvm.MethodName)) ∈ WS := ws_c7 132 rfl rfl
theorem wd_1667 : (Jvm.Cond.instanceMethod ({ cls := "BitDeskModel", name := "undo", desc := "()I" } : Jvm.MethodName)) ∈ WS := ws_c7 133 rfl rfl
theorem wd_1668 : (Jvm.Cond.selects "BitDeskModel" ({ cls := "BitDeskModel", name := "undo", desc := "()I" } : Jvm.MethodName) ({ cls := "BitDeskModel", name := "undo", desc := "()I" } : Jvm.MethodName)) ∈ WS := ws_c7 134 rfl rfl
theorem lk_L_374 : LkV RL 374 jX7_undo 0 := ⟨⟨wd_x1666, ⟨rfl, (by rw [cwd_nil rfl]; exact wd_1669)⟩, wd_102, ⟨by decide +kernel, by decide +kernel⟩, by decide +kernel⟩, wd_1667, wd_1668⟩
theorem wd_1194 : (Jvm.Cond.codeWith ({ cls := "BitDeskLaw", name := "saveSnapshot", desc := "(LBitDesk;I[J)I" } : Jvm.MethodName) method_53_code (4 : Nat) (Option.some Jvm.ClassFile.FieldType.int) [((0 : Nat), (9 : Nat), (12 : Nat), (13 : Nat))]) ∈ WS := ws_c5 140 rfl rfl
theorem wd_x1192 : (Jvm.Cond.methodLink "BitDeskLaw" (375 : Nat) ({ cls := "BitDeskLaw", name := "saveSnapshot", desc := "(LBitDesk;I[J)I" } : Jvm.MethodName)) ∈ WS := ws_c5 138 rfl rfl
theorem wd_1193 : (Jvm.Cond.static ({ cls := "BitDeskLaw", name := "saveSnapshot", desc := "(LBitDesk;I[J)I" } : Jvm.MethodName)) ∈ WS := ws_c5 139 rfl rfl
theorem lk_L_375 : LkSX RL 375 jL_saveSnapshot 3 := ⟨wd_x1192, ⟨(by decide), (by rw [cwd_hh (by decide)]; exact wd_1194)⟩, wd_94, ⟨by decide +kernel, by decide +kernel⟩, by decide +kernel, wd_1193⟩
theorem wd_1778 : (Jvm.Cond.code ({ cls := "BitDeskModel", name := "saveSnapshot", desc := "(I)I" } : Jvm.MethodName) prog_9_method_118_code (2 : Nat) (Option.some Jvm.ClassFile.FieldType.int)) ∈ WS := ws_c8 4 rfl rfl
theorem wd_x1775 : (Jvm.Cond.methodLink "BitDeskLaw" (377 : Nat) ({ cls := "BitDeskModel", name := "saveSnapshot", desc := "(I)I" } : Jvm.MethodName)) ∈ WS := ws_c8 1 rfl rfl
theorem wd_1776 : (Jvm.Cond.instanceMethod ({ cls := "BitDeskModel", name := "saveSnapshot", desc := "(I)I" } : Jvm.MethodName)) ∈ WS := ws_c8 2 rfl rfl
theorem wd_1777 : (Jvm.Cond.selects "BitDeskModel" ({ cls := "BitDeskModel", name := "saveSnapshot", desc := "(I)I" } : Jvm.MethodName) ({ cls := "BitDeskModel", name := "saveSnapshot", desc := "(I)I" } : Jvm.MethodName)) ∈ WS := ws_c8 3 rfl rfl
theorem lk_L_377 : LkV RL 377 jX7_saveSnapshot 1 := ⟨⟨wd_x1775, ⟨rfl, (by rw [cwd_nil rfl]; exact wd_1778)⟩, wd_102, ⟨by decide +kernel, by decide +kernel⟩, by decide +kernel⟩, wd_1776, wd_1777⟩
theorem wd_1296 : (Jvm.Cond.code ({ cls := "BitDeskModel", name := "thrown", desc := "()I" } : Jvm.MethodName) prog_9_method_2_code (1 : Nat) (Option.some Jvm.ClassFile.FieldType.int)) ∈ WS := ws_c6 2 rfl rfl
theorem wd_x1293 : (Jvm.Cond.methodLink "BitDeskLaw" (378 : Nat) ({ cls := "BitDeskModel", name := "thrown", desc := "()I" } : Jvm.MethodName)) ∈ WS := ws_c5 239 rfl rfl
theorem wd_1294 : (Jvm.Cond.instanceMethod ({ cls := "BitDeskModel", name := "thrown", desc := "()I" } : Jvm.MethodName)) ∈ WS := ws_c6 0 rfl rfl
theorem wd_1295 : (Jvm.Cond.selects "BitDeskModel" ({ cls := "BitDeskModel", name := "thrown", desc := "()I" } : Jvm.MethodName) ({ cls := "BitDeskModel", name := "thrown", desc := "()I" } : Jvm.MethodName)) ∈ WS := ws_c6 1 rfl rfl
theorem lk_L_378 : LkV RL 378 jX7_thrown 0 := ⟨⟨wd_x1293, ⟨rfl, (by rw [cwd_nil rfl]; exact wd_1296)⟩, wd_102, ⟨by decide +kernel, by decide +kernel⟩, by decide +kernel⟩, wd_1294, wd_1295⟩
theorem wd_1201 : (Jvm.Cond.codeWith ({ cls := "BitDeskLaw", name := "restoreSnapshot", desc := "(LBitDesk;I[J)I" } : Jvm.MethodName) method_54_code (4 : Nat) (Option.some Jvm.ClassFile.FieldType.int) [((0 : Nat), (9 : Nat), (12 : Nat), (13 : Nat))]) ∈ WS := ws_c5 147 rfl rfl
theorem wd_1199 : (Jvm.Cond.methodLink "BitDeskLaw" (381 : Nat) ({ cls := "BitDeskLaw", name := "restoreSnapshot", desc := "(LBitDesk;I[J)I" } : Jvm.MethodName)) ∈ WS := ws_c5 145 rfl rfl
theorem wd_1200 : (Jvm.Cond.static ({ cls := "BitDeskLaw", name := "restoreSnapshot", desc := "(LBitDesk;I[J)I" } : Jvm.MethodName)) ∈ WS := ws_c5 146 rfl rfl
theorem lk_L_381 : LkSX RL 381 jL_restoreSnapshot 3 := ⟨wd_1199, ⟨(by decide), (by rw [cwd_hh (by decide)]; exact wd_1201)⟩, wd_94, ⟨by decide +kernel, by decide +kernel⟩, by decide +kernel, wd_1200⟩
theorem wd_1782 : (Jvm.Cond.code ({ cls := "BitDeskModel", name := "restoreSnapshot", desc := "(I)I" } : Jvm.MethodName) prog_9_method_119_code (2 : Nat) (Option.some Jvm.ClassFile.FieldType.int)) ∈ WS := ws_c8 8 rfl rfl
theorem wd_1779 : (Jvm.Cond.methodLink "BitDeskLaw" (383 : Nat) ({ cls := "BitDeskModel", name := "restoreSnapshot", desc := "(I)I" } : Jvm.MethodName)) ∈ WS := ws_c8 5 rfl rfl
theorem wd_1780 : (Jvm.Cond.instanceMethod ({ cls := "BitDeskModel", name := "restoreSnapshot", desc := "(I)I" } : Jvm.MethodName)) ∈ WS := ws_c8 6 rfl rfl
theorem wd_1781 : (Jvm.Cond.selects "BitDeskModel" ({ cls := "BitDeskModel", name := "restoreSnapshot", desc := "(I)I" } : Jvm.MethodName) ({ cls := "BitDeskModel", name := "restoreSnapshot", desc := "(I)I" } : Jvm.MethodName)) ∈ WS := ws_c8 7 rfl rfl
theorem lk_L_383 : LkV RL 383 jX7_restoreSnapshot 1 := ⟨⟨wd_1779, ⟨rfl, (by rw [cwd_nil rfl]; exact wd_1782)⟩, wd_102, ⟨by decide +kernel, by decide +kernel⟩, by decide +kernel⟩, wd_1780, wd_1781⟩
