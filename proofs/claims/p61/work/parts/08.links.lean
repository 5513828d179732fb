abbrev jX0_init : Jm := (yX0_init, cX0_init, 1, none, [])
abbrev jX0_makeFrom : Jm := (yX0_makeFrom, cX0_makeFrom, 5, none, [])
abbrev jX0_nodesTo : Jm := (yX0_nodesTo, cX0_nodesTo, 3, (some FieldType.int), [])
abbrev jX0_gainWith : Jm := (yX0_gainWith, cX0_gainWith, 7, (some FieldType.int), [])
abbrev jX0_extend : Jm := (yX0_extend, cX0_extend, 7, (some FieldType.int), [])
abbrev jX0_mend : Jm := (yX0_mend, cX0_mend, 7, (some FieldType.int), [])
abbrev jX1_init : Jm := (yX1_init, cX1_init, 1, none, [])
abbrev jX1_eliminateBesideUnit : Jm := (yX1_eliminateBesideUnit, cX1_eliminateBesideUnit, 4, none, [])
abbrev jX1_eliminateAll : Jm := (yX1_eliminateAll, cX1_eliminateAll, 5, none, [])
abbrev jX1_rowNotTaken : Jm := (yX1_rowNotTaken, cX1_rowNotTaken, 4, (some FieldType.int), [])
abbrev jX1_swapRows : Jm := (yX1_swapRows, cX1_swapRows, 5, none, [])
abbrev jX1_clearOthers : Jm := (yX1_clearOthers, cX1_clearOthers, 5, none, [])
abbrev jX2_init : Jm := (yX2_init, cX2_init, 1, none, [])
abbrev jX2_makeEmpty : Jm := (yX2_makeEmpty, cX2_makeEmpty, 2, none, [])
abbrev jX2_takeFrom : Jm := (yX2_takeFrom, cX2_takeFrom, 2, none, [])
abbrev jX2_noteLooked : Jm := (yX2_noteLooked, cX2_noteLooked, 2, none, [])
abbrev jX2_noteMadeAnew : Jm := (yX2_noteMadeAnew, cX2_noteMadeAnew, 2, none, [])
abbrev jX3_init : Jm := (yX3_init, cX3_init, 1, none, [])
abbrev jX3_begin : Jm := (yX3_begin, cX3_begin, 3, none, [])
abbrev jX3_multiply : Jm := (yX3_multiply, cX3_multiply, 6, none, [])
abbrev jX3_raise : Jm := (yX3_raise, cX3_raise, 7, (some (FieldType.array FieldType.int)), [])
abbrev jX3_fillTable : Jm := (yX3_fillTable, cX3_fillTable, 7, none, [])
abbrev jX3_takeEntries : Jm := (yX3_takeEntries, cX3_takeEntries, 7, none, [])
abbrev jX3_joined : Jm := (yX3_joined, cX3_joined, 3, (some FieldType.int), [])
abbrev jX4_init : Jm := (yX4_init, cX4_init, 1, none, [])
abbrev jX4_addBytes : Jm := (yX4_addBytes, cX4_addBytes, 6, (some FieldType.int), [])
abbrev jX4_readInto : Jm := (yX4_readInto, cX4_readInto, 3, none, [])
abbrev jX4_readSize : Jm := (yX4_readSize, cX4_readSize, 2, none, [])
abbrev jX4_readStatement : Jm := (yX4_readStatement, cX4_readStatement, 2, none, [])
abbrev jX4_readEdge : Jm := (yX4_readEdge, cX4_readEdge, 5, none, [])
abbrev jX4_readRow : Jm := (yX4_readRow, cX4_readRow, 4, none, [])
abbrev jX4_readKeep : Jm := (yX4_readKeep, cX4_readKeep, 3, none, [])
abbrev jX4_readFill : Jm := (yX4_readFill, cX4_readFill, 4, none, [])
abbrev jX4_rowOfKind : Jm := (yX4_rowOfKind, cX4_rowOfKind, 3, (some FieldType.int), [])
abbrev jX4_hasMore : Jm := (yX4_hasMore, cX4_hasMore, 1, (some FieldType.boolean), [])
abbrev jX4_takeSemicolon : Jm := (yX4_takeSemicolon, cX4_takeSemicolon, 1, none, [])
abbrev jX4_takeWord : Jm := (yX4_takeWord, cX4_takeWord, 1, none, [])
abbrev jX4_takeDigits : Jm := (yX4_takeDigits, cX4_takeDigits, 1, none, [])
abbrev jX4_takeNumber : Jm := (yX4_takeNumber, cX4_takeNumber, 5, (some FieldType.int), [])
abbrev jX4_takeBits : Jm := (yX4_takeBits, cX4_takeBits, 5, (some FieldType.int), [])
abbrev jX4_skipSpaces : Jm := (yX4_skipSpaces, cX4_skipSpaces, 1, none, [])
abbrev jX4_isWord : Jm := (yX4_isWord, cX4_isWord, 3, (some FieldType.boolean), [])
abbrev jX4_fail : Jm := (yX4_fail, cX4_fail, 3, none, [])
abbrev jX5_init : Jm := (yX5_init, cX5_init, 2, none, [])
abbrev jX5_makeEmpty : Jm := (yX5_makeEmpty, cX5_makeEmpty, 3, none, [])
abbrev jX5_takeFrom : Jm := (yX5_takeFrom, cX5_takeFrom, 3, none, [])
abbrev jX6_init : Jm := (yX6_init, cX6_init, 2, none, [])
abbrev jX6_append : Jm := (yX6_append, cX6_append, 3, (some FieldType.int), [])
abbrev jX6_load : Jm := (yX6_load, cX6_load, 1, (some FieldType.int), [])
abbrev jX6_loadError : Jm := (yX6_loadError, cX6_loadError, 1, (some FieldType.int), [])
abbrev jX6_loadStatement : Jm := (yX6_loadStatement, cX6_loadStatement, 1, (some FieldType.int), [])
abbrev jX6_count : Jm := (yX6_count, cX6_count, 2, (some FieldType.int), [])
abbrev jX6_bit : Jm := (yX6_bit, cX6_bit, 4, (some FieldType.int), [])
abbrev jX6_row : Jm := (yX6_row, cX6_row, 3, (some FieldType.long), [])
abbrev jX6_rank : Jm := (yX6_rank, cX6_rank, 4, (some FieldType.int), [])
abbrev jX6_put : Jm := (yX6_put, cX6_put, 8, (some FieldType.int), [])
abbrev jX6_setRow : Jm := (yX6_setRow, cX6_setRow, 7, (some FieldType.int), [])
abbrev jX6_copy : Jm := (yX6_copy, cX6_copy, 3, (some FieldType.int), [])
abbrev jX6_transpose : Jm := (yX6_transpose, cX6_transpose, 4, (some FieldType.int), [])
abbrev jX6_combine : Jm := (yX6_combine, cX6_combine, 6, (some FieldType.int), [])
abbrev jX6_product : Jm := (yX6_product, cX6_product, 5, (some FieldType.int), [])
abbrev jX6_power : Jm := (yX6_power, cX6_power, 6, (some FieldType.int), [])
abbrev jX6_invert : Jm := (yX6_invert, cX6_invert, 3, (some FieldType.int), [])
abbrev jX6_close : Jm := (yX6_close, cX6_close, 3, (some FieldType.int), [])
abbrev jX6_reduce : Jm := (yX6_reduce, cX6_reduce, 4, (some FieldType.int), [])
abbrev jX6_exchange : Jm := (yX6_exchange, cX6_exchange, 8, (some FieldType.int), [])
abbrev jX6_keep : Jm := (yX6_keep, cX6_keep, 4, (some FieldType.int), [])
abbrev jX6_setBlock : Jm := (yX6_setBlock, cX6_setBlock, 3, (some FieldType.int), [])
abbrev jX6_kept : Jm := (yX6_kept, cX6_kept, 4, (some FieldType.int), [])
abbrev jX6_work : Jm := (yX6_work, cX6_work, 2, (some FieldType.int), [])
abbrev jX6_undo : Jm := (yX6_undo, cX6_undo, 1, (some FieldType.int), [])
abbrev jX6_restoreSnapshot : Jm := (yX6_restoreSnapshot, cX6_restoreSnapshot, 2, (some FieldType.int), [])
abbrev jX6_needSlot : Jm := (yX6_needSlot, cX6_needSlot, 2, none, [])
abbrev jX6_needNode : Jm := (yX6_needNode, cX6_needNode, 2, none, [])
abbrev jX6_needRow : Jm := (yX6_needRow, cX6_needRow, 3, none, [])
abbrev jX6_needCell : Jm := (yX6_needCell, cX6_needCell, 4, none, [])
abbrev jX6_needRange : Jm := (yX6_needRange, cX6_needRange, 4, none, [])
abbrev jX6_rowsOf : Jm := (yX6_rowsOf, cX6_rowsOf, 2, (some (FieldType.array FieldType.int)), [])
abbrev jX6_keptSlots : Jm := (yX6_keptSlots, cX6_keptSlots, 3, (some FieldType.int), [])
abbrev jX6_remember : Jm := (yX6_remember, cX6_remember, 1, none, [])
abbrev jX6_replaceState : Jm := (yX6_replaceState, cX6_replaceState, 2, none, [])
abbrev jX6_dropClosures : Jm := (yX6_dropClosures, cX6_dropClosures, 2, none, [])
abbrev jX6_closureOf : Jm := (yX6_closureOf, cX6_closureOf, 3, (some (FieldType.object "BitDesk$Closure")), [])
abbrev jX6_store : Jm := (yX6_store, cX6_store, 3, (some FieldType.int), [])
abbrev jX6_noteChange : Jm := (yX6_noteChange, cX6_noteChange, 2, none, [])
abbrev jX6_noteWork : Jm := (yX6_noteWork, cX6_noteWork, 1, none, [])
abbrev jX6_dropNeedless : Jm := (yX6_dropNeedless, cX6_dropNeedless, 5, none, [])
abbrev jX6_combined : Jm := (yX6_combined, cX6_combined, 3, (some FieldType.int), [])
abbrev jX6_exchanged : Jm := (yX6_exchanged, cX6_exchanged, 3, (some FieldType.int), [])
abbrev jX6_unsigned : Jm := (yX6_unsigned, cX6_unsigned, 1, (some FieldType.long), [])
abbrev jX6_hasOne : Jm := (yX6_hasOne, cX6_hasOne, 2, (some FieldType.boolean), [])
abbrev jX6_lowest : Jm := (yX6_lowest, cX6_lowest, 1, (some FieldType.int), [])
abbrev jX6_lowestOne : Jm := (yX6_lowestOne, cX6_lowestOne, 1, (some FieldType.int), [])
abbrev jX6_onesOf : Jm := (yX6_onesOf, cX6_onesOf, 4, (some FieldType.int), [])
abbrev jX6_columnOf : Jm := (yX6_columnOf, cX6_columnOf, 5, (some FieldType.int), [])
abbrev jX6_reachedFrom : Jm := (yX6_reachedFrom, cX6_reachedFrom, 7, (some FieldType.int), [])
abbrev jX7_init : Jm := (yX7_init, cX7_init, 2, none, [])
abbrev jX7_copy : Jm := (yX7_copy, cX7_copy, 4, (some (FieldType.object "BitDeskLaw$Desk")), [])
abbrev jX7_look : Jm := (yX7_look, cX7_look, 3, none, [])
abbrev jX7_anew : Jm := (yX7_anew, cX7_anew, 2, none, [])
abbrev jX7_set : Jm := (yX7_set, cX7_set, 3, none, [])
abbrev jX7_fresh : Jm := (yX7_fresh, cX7_fresh, 1, (some (FieldType.array (FieldType.array FieldType.boolean))), [])
abbrev jX7_closure : Jm := (yX7_closure, cX7_closure, 8, (some (FieldType.array (FieldType.array FieldType.boolean))), [])
abbrev jX7_ones : Jm := (yX7_ones, cX7_ones, 11, (some FieldType.int), [])
abbrev jX7_differ : Jm := (yX7_differ, cX7_differ, 6, (some FieldType.int), [])
abbrev jX7_row : Jm := (yX7_row, cX7_row, 6, (some FieldType.long), [])
abbrev jX7_unit : Jm := (yX7_unit, cX7_unit, 3, (some (FieldType.array (FieldType.array FieldType.boolean))), [])
abbrev jX7_product : Jm := (yX7_product, cX7_product, 9, (some (FieldType.array (FieldType.array FieldType.boolean))), [])
abbrev jX7_power : Jm := (yX7_power, cX7_power, 6, (some (FieldType.array (FieldType.array FieldType.boolean))), [])
abbrev jX7_solve : Jm := (yX7_solve, cX7_solve, 12, (some FieldType.long), [])
abbrev jX7_inverse : Jm := (yX7_inverse, cX7_inverse, 7, (some (FieldType.array (FieldType.array FieldType.boolean))), [])
abbrev jX7_reduced : Jm := (yX7_reduced, cX7_reduced, 6, (some (FieldType.array (FieldType.array FieldType.boolean))), [])
abbrev jJ5_init_d00df : Jm := (yJ5_init_d00df, cJ5_init_d00df, 2, none, [])
abbrev jJ5_length_8abf5 : Jm := (yJ5_length_8abf5, cJ5_length_8abf5, 1, (some FieldType.int), [])
abbrev jJ5_ensureCapacityInternal_d00df : Jm := (yJ5_ensureCapacityInternal_d00df, cJ5_ensureCapacityInternal_d00df, 3, none, [])
abbrev jJ5_newCapacity_0f7a4 : Jm := (yJ5_newCapacity_0f7a4, cJ5_newCapacity_0f7a4, 6, (some FieldType.int), [])
abbrev jJ5_append_cf1ce : Jm := (yJ5_append_cf1ce, cJ5_append_cf1ce, 3, (some (FieldType.object "java/lang/AbstractStringBuilder")), [])
abbrev jJ5_append_3fe6f : Jm := (yJ5_append_3fe6f, cJ5_append_3fe6f, 2, (some (FieldType.object "java/lang/AbstractStringBuilder")), [])
abbrev jJ5_append_c97b9 : Jm := (yJ5_append_c97b9, cJ5_append_c97b9, 4, (some (FieldType.object "java/lang/AbstractStringBuilder")), [])
abbrev jJ5_getValue_6d5f1 : Jm := (yJ5_getValue_6d5f1, cJ5_getValue_6d5f1, 1, (some (FieldType.array FieldType.byte)), [])
abbrev jJ5_isLatin1_aae02 : Jm := (yJ5_isLatin1_aae02, cJ5_isLatin1_aae02, 1, (some FieldType.boolean), [])
abbrev jJ5_inflateIfNeededFor_a7421 : Jm := (yJ5_inflateIfNeededFor_a7421, cJ5_inflateIfNeededFor_a7421, 2, none, [])
abbrev jJ5_putStringAt_47b60 : Jm := (yJ5_putStringAt_47b60, cJ5_putStringAt_47b60, 3, none, [])
abbrev jJ6_getChars_ba4f3 : Jm := (yJ6_getChars_ba4f3, cJ6_getChars_ba4f3, 7, (some FieldType.int), [])
abbrev jJ6_stringSize_0f7a4 : Jm := (yJ6_stringSize_0f7a4, cJ6_stringSize_0f7a4, 4, (some FieldType.int), [])
abbrev jJ6_numberOfTrailingZeros_0f7a4 : Jm := (yJ6_numberOfTrailingZeros_0f7a4, cJ6_numberOfTrailingZeros_0f7a4, 2, (some FieldType.int), [])
abbrev jJ6_bitCount_0f7a4 : Jm := (yJ6_bitCount_0f7a4, cJ6_bitCount_0f7a4, 1, (some FieldType.int), [])
abbrev jJ13_numberOfTrailingZeros_95d88 : Jm := (yJ13_numberOfTrailingZeros_95d88, cJ13_numberOfTrailingZeros_95d88, 3, (some FieldType.int), [])
abbrev jJ9_max_7cf53 : Jm := (yJ9_max_7cf53, cJ9_max_7cf53, 2, (some FieldType.int), [])
abbrev jJ9_min_7cf53 : Jm := (yJ9_min_7cf53, cJ9_min_7cf53, 2, (some FieldType.int), [])
abbrev jJ0_init_81219 : Jm := (yJ0_init_81219, cJ0_init_81219, 2, none, [])
abbrev jJ0_length_8abf5 : Jm := (yJ0_length_8abf5, cJ0_length_8abf5, 1, (some FieldType.int), [])
abbrev jJ0_charAt_5068e : Jm := (yJ0_charAt_5068e, cJ0_charAt_5068e, 2, (some FieldType.char), [])
abbrev jJ0_getBytes_840e7 : Jm := (yJ0_getBytes_840e7, cJ0_getBytes_840e7, 4, none, [])
abbrev jJ0_init_db425 : Jm := (yJ0_init_db425, cJ0_init_db425, 5, none, [])
abbrev jJ0_coder_7d493 : Jm := (yJ0_coder_7d493, cJ0_coder_7d493, 1, (some FieldType.byte), [])
abbrev jJ0_isLatin1_aae02 : Jm := (yJ0_isLatin1_aae02, cJ0_isLatin1_aae02, 1, (some FieldType.boolean), [])
abbrev jJ0_checkIndex_df160 : Jm := (yJ0_checkIndex_df160, cJ0_checkIndex_df160, 2, none, [])
abbrev jJ4_init_da8c8 : Jm := (yJ4_init_da8c8, cJ4_init_da8c8, 1, none, [])
abbrev jJ4_append_15ec4 : Jm := (yJ4_append_15ec4, cJ4_append_15ec4, 2, (some (FieldType.object "java/lang/StringBuilder")), [])
abbrev jJ4_append_cf468 : Jm := (yJ4_append_cf468, cJ4_append_cf468, 2, (some (FieldType.object "java/lang/StringBuilder")), [])
abbrev jJ4_append_bf812 : Jm := (yJ4_append_bf812, cJ4_append_bf812, 2, (some (FieldType.object "java/lang/StringBuilder")), [])
abbrev jJ4_toString_0e30d : Jm := (yJ4_toString_0e30d, cJ4_toString_0e30d, 1, (some (FieldType.object "java/lang/String")), [])
abbrev jJ4_length_8abf5 : Jm := (yJ4_length_8abf5, cJ4_length_8abf5, 1, (some FieldType.int), [])
abbrev jJ1_charAt_3b067 : Jm := (yJ1_charAt_3b067, cJ1_charAt_3b067, 2, (some FieldType.char), [])
abbrev jJ1_canEncode_fc78d : Jm := (yJ1_canEncode_fc78d, cJ1_canEncode_fc78d, 1, (some FieldType.boolean), [])
abbrev jJxa1e45_init_da8c8 : Jm := (yJxa1e45_init_da8c8, cJxa1e45_init_da8c8, 1, none, [])
abbrev jJxc12de_init_da8c8 : Jm := (yJxc12de_init_da8c8, cJxc12de_init_da8c8, 1, none, [])
abbrev jJx4a65c_init_da8c8 : Jm := (yJx4a65c_init_da8c8, cJx4a65c_init_da8c8, 1, none, [])
abbrev jJx4a65c_grow_92f84 : Jm := (yJx4a65c_grow_92f84, cJx4a65c_grow_92f84, 4, (some (FieldType.array (FieldType.object "java/lang/Object"))), [])
abbrev jJx4a65c_grow_d5877 : Jm := (yJx4a65c_grow_d5877, cJx4a65c_grow_d5877, 1, (some (FieldType.array (FieldType.object "java/lang/Object"))), [])
abbrev jJx4a65c_size_8abf5 : Jm := (yJx4a65c_size_8abf5, cJx4a65c_size_8abf5, 1, (some FieldType.int), [])
abbrev jJx4a65c_add_72be8 : Jm := (yJx4a65c_add_72be8, cJx4a65c_add_72be8, 4, none, [])
abbrev jJx4a65c_add_9ea2d : Jm := (yJx4a65c_add_9ea2d, cJx4a65c_add_9ea2d, 2, (some FieldType.boolean), [])
abbrev jJx4a65c_remove_915e3 : Jm := (yJx4a65c_remove_915e3, cJx4a65c_remove_915e3, 4, (some (FieldType.object "java/lang/Object")), [])
abbrev jJx4a65c_fastRemove_b59b0 : Jm := (yJx4a65c_fastRemove_b59b0, cJx4a65c_fastRemove_b59b0, 4, none, [])
abbrev jJ7_copyOf_9075b : Jm := (yJ7_copyOf_9075b, cJ7_copyOf_9075b, 3, (some (FieldType.array FieldType.byte)), [])
abbrev jJ7_checkLength_df160 : Jm := (yJ7_checkLength_df160, cJ7_checkLength_df160, 2, none, [])
abbrev jJ7_copyOfRange_39247 : Jm := (yJ7_copyOfRange_39247, cJ7_copyOfRange_39247, 3, (some (FieldType.array FieldType.byte)), [])
abbrev jJ7_copyOfRangeByte_39247 : Jm := (yJ7_copyOfRangeByte_39247, cJ7_copyOfRangeByte_39247, 5, (some (FieldType.array FieldType.byte)), [])
abbrev jJ15_checkIndex_7cf53 : Jm := (yJ15_checkIndex_7cf53, cJ15_checkIndex_7cf53, 2, (some FieldType.int), [])
abbrev jJ8_newLength_cabcc : Jm := (yJ8_newLength_cabcc, cJ8_newLength_cabcc, 4, (some FieldType.int), [])
abbrev jJ3_checkIndex_8e157 : Jm := (yJ3_checkIndex_8e157, cJ3_checkIndex_8e157, 3, (some FieldType.int), [])
abbrev jL_at : Jm := (yL_at, cL_at, 2, (some FieldType.int), [])
abbrev jL_load : Jm := (yL_load, cL_load, 7, (some FieldType.int), [])
abbrev jL_drawn : Jm := (yL_drawn, cL_drawn, 14, (some (FieldType.object "BitDeskLaw$Desk")), [])
abbrev jL_isSame : Jm := (yL_isSame, cL_isSame, 5, (some FieldType.boolean), [])
abbrev jL_act : Jm := (yL_act, cL_act, 23, (some FieldType.boolean), [])
abbrev jL_isNoBit : Jm := (yL_isNoBit, cL_isNoBit, 5, (some FieldType.boolean), [(0, 8, 11, 217)])
abbrev jL_isNoPower : Jm := (yL_isNoPower, cL_isNoPower, 6, (some FieldType.boolean), [(0, 9, 12, 217), (0, 9, 17, 219)])
abbrev jL_isNoRank : Jm := (yL_isNoRank, cL_isNoRank, 6, (some FieldType.boolean), [(0, 8, 11, 217), (0, 8, 16, 219)])
abbrev jL_law : Jm := (⟨RL, "law", "([I)Z"⟩, code, maxLocals, ret, [])
theorem ws_list {ws : List Cond} (ps : List Nat) (hp : ws = ps.filterMap (fun i => lw_tbl[i]?)) (h : ws.all goodWord = true) : ∀ w ∈ ws, w ∈ WS := fun w hw => List.mem_filter.mpr ⟨(goodIn_r ws ps hp h w hw).1, List.all_eq_true.mp h w hw⟩
theorem ws_c0 {w : Cond} (i : Nat) (h : (k2_sels lw_privs)[i]? = some w) (g : goodWord w = true) : w ∈ WS := List.mem_filter.mpr ⟨List.mem_append_left _ (List.mem_of_getElem? h), g⟩
theorem ws_c1 {w : Cond} (i : Nat) (h : tables_1_1[i]? = some w) (g : goodWord w = true) : w ∈ WS := List.mem_filter.mpr ⟨List.mem_append_right _ (List.mem_append_left _ (List.mem_of_getElem? h)), g⟩
theorem ws_c2 {w : Cond} (i : Nat) (h : tables_1_2[i]? = some w) (g : goodWord w = true) : w ∈ WS := List.mem_filter.mpr ⟨List.mem_append_right _ (List.mem_append_right _ (List.mem_append_left _ (List.mem_of_getElem? h))), g⟩
theorem ws_c3 {w : Cond} (i : Nat) (h : tables_1_3[i]? = some w) (g : goodWord w = true) : w ∈ WS := List.mem_filter.mpr ⟨List.mem_append_right _ (List.mem_append_right _ (List.mem_append_right _ (List.mem_append_left _ (List.mem_of_getElem? h)))), g⟩
theorem ws_c4 {w : Cond} (i : Nat) (h : tables_1_4[i]? = some w) (g : goodWord w = true) : w ∈ WS := List.mem_filter.mpr ⟨List.mem_append_right _ (List.mem_append_right _ (List.mem_append_right _ (List.mem_append_right _ (List.mem_append_left _ (List.mem_of_getElem? h))))), g⟩
theorem ws_c5 {w : Cond} (i : Nat) (h : tables_1_5[i]? = some w) (g : goodWord w = true) : w ∈ WS := List.mem_filter.mpr ⟨List.mem_append_right _ (List.mem_append_right _ (List.mem_append_right _ (List.mem_append_right _ (List.mem_append_right _ (List.mem_append_left _ (List.mem_of_getElem? h)))))), g⟩
theorem ws_c6 {w : Cond} (i : Nat) (h : tables_1_6[i]? = some w) (g : goodWord w = true) : w ∈ WS := List.mem_filter.mpr ⟨List.mem_append_right _ (List.mem_append_right _ (List.mem_append_right _ (List.mem_append_right _ (List.mem_append_right _ (List.mem_append_right _ (List.mem_of_getElem? h)))))), g⟩
theorem cwd_nil {J : Jm} (h : J.2.2.2.2 = []) : cwd J = .code J.1 J.2.1 J.2.2.1 J.2.2.2.1 := if_pos h
theorem cwd_hh {J : Jm} (h : J.2.2.2.2 ≠ []) : cwd J = .codeWith J.1 J.2.1 J.2.2.1 J.2.2.2.1 J.2.2.2.2 := if_neg h
set_option maxRecDepth 20000 in
theorem inW0 : ∀ w ∈ u_ws RX0 TX0 2, w ∈ WS := ws_list [188, 190] (by decide +kernel) (by decide +kernel)
set_option maxRecDepth 20000 in
theorem inW1 : ∀ w ∈ u_ws RX1 TX1 4, w ∈ WS := ws_list [239, 241, 243, 245] (by decide +kernel) (by decide +kernel)
set_option maxRecDepth 20000 in
theorem inW2 : ∀ w ∈ u_ws RX2 TX2 5, w ∈ WS := ws_list [139, 141, 143, 145, 147] (by decide +kernel) (by decide +kernel)
set_option maxRecDepth 20000 in
theorem inW3 : ∀ w ∈ u_ws RX3 TX3 8, w ∈ WS := ws_list [210, 212, 214, 216, 218, 220, 222, 224] (by decide +kernel) (by decide +kernel)
set_option maxRecDepth 20000 in
theorem inW4 : ∀ w ∈ u_ws RX4 TX4 7, w ∈ WS := ws_list [98, 100, 102, 104, 106, 108, 110] (by decide +kernel) (by decide +kernel)
set_option maxRecDepth 20000 in
theorem inW5 : ∀ w ∈ u_ws RX5 TX5 5, w ∈ WS := ws_list [165, 167, 169, 171, 173] (by decide +kernel) (by decide +kernel)
set_option maxRecDepth 20000 in
theorem inW6 : ∀ w ∈ u_ws RX6 TX6 15, w ∈ WS := ws_list [263, 265, 267, 269, 271, 273, 275, 277, 279, 281, 283, 285, 287, 289, 291] (by decide +kernel) (by decide +kernel)
set_option maxRecDepth 20000 in
theorem inW7 : ∀ w ∈ u_ws RX7 TX7 7, w ∈ WS := ws_list [425, 427, 429, 431, 433, 435, 437] (by decide +kernel) (by decide +kernel)
set_option maxRecDepth 20000 in
theorem inW8 : ∀ w ∈ u_ws RJ0 TJ0 4, w ∈ WS := ws_list [1274, 1276, 1278, 1280] (by decide +kernel) (by decide +kernel)
set_option maxRecDepth 20000 in
theorem inW9 : ∀ w ∈ u_ws RJ4 TJ4 4, w ∈ WS := ws_list [1210, 1212, 1214, 1216] (by decide +kernel) (by decide +kernel)
set_option maxRecDepth 20000 in
theorem inW10 : ∀ w ∈ u_ws RJx4a65c TJx4a65c 3, w ∈ WS := ws_list [1303, 1299, 1301] (by decide +kernel) (by decide +kernel)
theorem wd_94 : (Jvm.Cond.initialized "BitDeskLaw") ∈ WS := ws_c1 0 rfl rfl
theorem wd_95 : (Jvm.Cond.initialized "BitDesk") ∈ WS := ws_c1 1 rfl rfl
theorem wd_96 : (Jvm.Cond.initialized "BitDesk$Reader") ∈ WS := ws_c1 2 rfl rfl
theorem wd_97 : (Jvm.Cond.initialized "BitDesk$State") ∈ WS := ws_c1 3 rfl rfl
theorem wd_98 : (Jvm.Cond.initialized "BitDesk$Matrix") ∈ WS := ws_c1 4 rfl rfl
theorem wd_99 : (Jvm.Cond.initialized "BitDesk$Closure") ∈ WS := ws_c1 5 rfl rfl
theorem wd_100 : (Jvm.Cond.initialized "BitDesk$Multiplier") ∈ WS := ws_c1 6 rfl rfl
theorem wd_101 : (Jvm.Cond.initialized "BitDesk$Elimination") ∈ WS := ws_c1 7 rfl rfl
theorem wd_x51 : (Jvm.Cond.initialized "BitDeskLaw$Desk") ∈ WS := ws_c1 8 rfl rfl
theorem wd_109 : (Jvm.Cond.initialized "java/lang/Throwable") ∈ WS := ws_c1 9 rfl rfl
theorem wd_110 : (Jvm.Cond.initialized "java/lang/Exception") ∈ WS := ws_c1 10 rfl rfl
theorem wd_111 : (Jvm.Cond.initialized "java/lang/RuntimeException") ∈ WS := ws_c1 11 rfl rfl
theorem wd_113 : (Jvm.Cond.initialized "java/lang/IndexOutOfBoundsException") ∈ WS := ws_c1 12 rfl rfl
theorem wd_112 : (Jvm.Cond.initialized "java/lang/IllegalArgumentException") ∈ WS := ws_c1 13 rfl rfl
theorem wd_108 : (Jvm.Cond.initialized "java/lang/System") ∈ WS := ws_c1 14 rfl rfl
theorem wd_x58 : (Jvm.Cond.initialized "java/lang/AbstractStringBuilder") ∈ WS := ws_c1 15 rfl rfl
theorem wd_x59 : (Jvm.Cond.initialized "java/lang/StringBuilder") ∈ WS := ws_c1 16 rfl rfl
theorem wd_103 : (Jvm.Cond.initialized "java/lang/String") ∈ WS := ws_c1 17 rfl rfl
theorem wd_106 : (Jvm.Cond.initialized "java/lang/StringUTF16") ∈ WS := ws_c1 18 rfl rfl
theorem wd_x62 : (Jvm.Cond.initialized "jdk/internal/util/ArraysSupport") ∈ WS := ws_c1 19 rfl rfl
theorem wd_107 : (Jvm.Cond.initialized "java/lang/Math") ∈ WS := ws_c1 20 rfl rfl
theorem wd_x64 : (Jvm.Cond.initialized "java/util/Arrays") ∈ WS := ws_c1 21 rfl rfl
theorem wd_105 : (Jvm.Cond.initialized "jdk/internal/util/Preconditions") ∈ WS := ws_c1 22 rfl rfl
theorem wd_104 : (Jvm.Cond.initialized "java/lang/StringLatin1") ∈ WS := ws_c1 23 rfl rfl
theorem wd_x67 : (Jvm.Cond.initialized "java/lang/Number") ∈ WS := ws_c1 24 rfl rfl
theorem wd_114 : (Jvm.Cond.initialized "java/lang/Integer") ∈ WS := ws_c1 25 rfl rfl
theorem wd_x69 : (Jvm.Cond.initialized "java/util/AbstractCollection") ∈ WS := ws_c1 26 rfl rfl
theorem wd_x70 : (Jvm.Cond.initialized "java/util/AbstractList") ∈ WS := ws_c1 27 rfl rfl
theorem wd_x71 : (Jvm.Cond.initialized "java/util/ArrayList") ∈ WS := ws_c1 28 rfl rfl
theorem wd_x72 : (Jvm.Cond.initialized "java/util/Objects") ∈ WS := ws_c1 29 rfl rfl
theorem wd_x73 : (Jvm.Cond.initialized "java/lang/Long") ∈ WS := ws_c1 30 rfl rfl
theorem wd_154 : (Jvm.Cond.arrayClass Jvm.ClassFile.FieldType.int) ∈ WS := ws_c1 70 rfl rfl
theorem wd_234 : (Jvm.Cond.arrayClass Jvm.ClassFile.FieldType.boolean) ∈ WS := ws_c1 150 rfl rfl
theorem wd_515 : (Jvm.Cond.arrayClass Jvm.ClassFile.FieldType.byte) ∈ WS := ws_c2 112 rfl rfl
theorem wd_1292 : (Jvm.Cond.arrayClass Jvm.ClassFile.FieldType.long) ∈ WS := ws_c5 174 rfl rfl
theorem wn_f0 : (Jvm.Cond.fieldLinkNest "BitDesk" (92 : Nat) "BitDesk$Reader" "statement" "I" "BitDesk") ∈ NWL := List.mem_append_left _ (List.mem_of_getElem? (i := 0) rfl)
theorem wn_f1 : (Jvm.Cond.fieldLinkNest "BitDesk" (76 : Nat) "BitDesk$Reader" "error" "I" "BitDesk") ∈ NWL := List.mem_append_left _ (List.mem_of_getElem? (i := 1) rfl)
theorem wn_f2 : (Jvm.Cond.fieldLinkNest "BitDesk" (80 : Nat) "BitDesk$Reader" "errorPosition" "I" "BitDesk") ∈ NWL := List.mem_append_left _ (List.mem_of_getElem? (i := 2) rfl)
theorem wn_f3 : (Jvm.Cond.fieldLinkNest "BitDesk$Reader" (108 : Nat) "BitDesk$Matrix" "rows" "[I" "BitDesk") ∈ NWL := List.mem_append_left _ (List.mem_of_getElem? (i := 3) rfl)
theorem wn_f4 : (Jvm.Cond.fieldLinkNest "BitDesk" (229 : Nat) "BitDesk$Matrix" "rows" "[I" "BitDesk") ∈ NWL := List.mem_append_left _ (List.mem_of_getElem? (i := 4) rfl)
theorem wn_f5 : (Jvm.Cond.fieldLinkNest "BitDesk$Reader" (115 : Nat) "BitDesk$Matrix" "isKept" "Z" "BitDesk") ∈ NWL := List.mem_append_left _ (List.mem_of_getElem? (i := 5) rfl)
theorem wn_f6 : (Jvm.Cond.fieldLinkNest "BitDesk" (288 : Nat) "BitDesk$Matrix" "isKept" "Z" "BitDesk") ∈ NWL := List.mem_append_left _ (List.mem_of_getElem? (i := 6) rfl)
theorem wn_f7 : (Jvm.Cond.fieldLinkNest "BitDesk" (295 : Nat) "BitDesk$Matrix" "lookedLately" "I" "BitDesk") ∈ NWL := List.mem_append_left _ (List.mem_of_getElem? (i := 7) rfl)
theorem wn_f8 : (Jvm.Cond.fieldLinkNest "BitDesk" (298 : Nat) "BitDesk$Matrix" "lookedInAll" "I" "BitDesk") ∈ NWL := List.mem_append_left _ (List.mem_of_getElem? (i := 8) rfl)
theorem wn_f9 : (Jvm.Cond.fieldLinkNest "BitDesk" (301 : Nat) "BitDesk$Matrix" "timesMadeAnew" "I" "BitDesk") ∈ NWL := List.mem_append_left _ (List.mem_of_getElem? (i := 9) rfl)
theorem wn_f10 : (Jvm.Cond.fieldLinkNest "BitDesk$Reader" (47 : Nat) "BitDesk$State" "slots" "[LBitDesk$Matrix;" "BitDesk") ∈ NWL := List.mem_append_left _ (List.mem_of_getElem? (i := 10) rfl)
theorem wn_f11 : (Jvm.Cond.fieldLinkNest "BitDesk" (225 : Nat) "BitDesk$State" "slots" "[LBitDesk$Matrix;" "BitDesk") ∈ NWL := List.mem_append_left _ (List.mem_of_getElem? (i := 11) rfl)
theorem wn_f12 : (Jvm.Cond.fieldLinkNest "BitDesk$Multiplier" (21 : Nat) "BitDesk$State" "size" "I" "BitDesk") ∈ NWL := List.mem_append_left _ (List.mem_of_getElem? (i := 12) rfl)
theorem wn_f13 : (Jvm.Cond.fieldLinkNest "BitDesk" (89 : Nat) "BitDesk$State" "size" "I" "BitDesk") ∈ NWL := List.mem_append_left _ (List.mem_of_getElem? (i := 13) rfl)
theorem wn_f14 : (Jvm.Cond.fieldLinkNest "BitDesk$Reader" (53 : Nat) "BitDesk$State" "size" "I" "BitDesk") ∈ NWL := List.mem_append_left _ (List.mem_of_getElem? (i := 14) rfl)
theorem wn_f15 : (Jvm.Cond.fieldLinkNest "BitDesk$Multiplier" (28 : Nat) "BitDesk$State" "block" "I" "BitDesk") ∈ NWL := List.mem_append_left _ (List.mem_of_getElem? (i := 15) rfl)
theorem wn_f16 : (Jvm.Cond.fieldLinkNest "BitDesk$Reader" (106 : Nat) "BitDesk$State" "block" "I" "BitDesk") ∈ NWL := List.mem_append_left _ (List.mem_of_getElem? (i := 16) rfl)
theorem wn_f17 : (Jvm.Cond.fieldLinkNest "BitDesk" (99 : Nat) "BitDesk$State" "block" "I" "BitDesk") ∈ NWL := List.mem_append_left _ (List.mem_of_getElem? (i := 17) rfl)
theorem wn_f18 : (Jvm.Cond.fieldLinkNest "BitDesk" (304 : Nat) "BitDesk$State" "entriesMade" "I" "BitDesk") ∈ NWL := List.mem_append_left _ (List.mem_of_getElem? (i := 18) rfl)
theorem wn_f19 : (Jvm.Cond.fieldLinkNest "BitDesk" (307 : Nat) "BitDesk$State" "entriesTaken" "I" "BitDesk") ∈ NWL := List.mem_append_left _ (List.mem_of_getElem? (i := 19) rfl)
theorem wn_f20 : (Jvm.Cond.fieldLinkNest "BitDesk" (166 : Nat) "BitDesk$Closure" "reach" "[I" "BitDesk") ∈ NWL := List.mem_append_left _ (List.mem_of_getElem? (i := 20) rfl)
theorem wn_f21 : (Jvm.Cond.fieldLinkNest "BitDesk" (341 : Nat) "BitDesk$Closure" "isCurrent" "Z" "BitDesk") ∈ NWL := List.mem_append_left _ (List.mem_of_getElem? (i := 21) rfl)
theorem wn_f22 : (Jvm.Cond.fieldLinkNest "BitDesk" (347 : Nat) "BitDesk$Multiplier" "entriesMade" "I" "BitDesk") ∈ NWL := List.mem_append_left _ (List.mem_of_getElem? (i := 22) rfl)
theorem wn_f23 : (Jvm.Cond.fieldLinkNest "BitDesk" (348 : Nat) "BitDesk$Multiplier" "entriesTaken" "I" "BitDesk") ∈ NWL := List.mem_append_left _ (List.mem_of_getElem? (i := 23) rfl)
theorem wn_f24 : (Jvm.Cond.fieldLinkNest "BitDesk" (273 : Nat) "BitDesk$Elimination" "right" "[I" "BitDesk") ∈ NWL := List.mem_append_left _ (List.mem_of_getElem? (i := 24) rfl)
theorem wn_f25 : (Jvm.Cond.fieldLinkNest "BitDesk" (207 : Nat) "BitDesk$Elimination" "pivotCount" "I" "BitDesk") ∈ NWL := List.mem_append_left _ (List.mem_of_getElem? (i := 25) rfl)
theorem wn_m0 : (Jvm.Cond.methodLinkNest "BitDesk$Reader" (126 : Nat) ({ cls := "BitDesk", name := "lowest", desc := "(I)I" } : Jvm.MethodName) "BitDesk") ∈ NWL := List.mem_append_right _ (List.mem_of_getElem? (i := 0) rfl)
theorem wn_m1 : (Jvm.Cond.methodLinkNest "BitDesk$Closure" (21 : Nat) ({ cls := "BitDesk", name := "hasOne", desc := "(II)Z" } : Jvm.MethodName) "BitDesk") ∈ NWL := List.mem_append_right _ (List.mem_of_getElem? (i := 1) rfl)
theorem wn_m2 : (Jvm.Cond.methodLinkNest "BitDesk$Closure" (29 : Nat) ({ cls := "BitDesk", name := "columnOf", desc := "([III)I" } : Jvm.MethodName) "BitDesk") ∈ NWL := List.mem_append_right _ (List.mem_of_getElem? (i := 2) rfl)
theorem wn_m3 : (Jvm.Cond.methodLinkNest "BitDesk$Closure" (46 : Nat) ({ cls := "BitDesk", name := "reachedFrom", desc := "([III)I" } : Jvm.MethodName) "BitDesk") ∈ NWL := List.mem_append_right _ (List.mem_of_getElem? (i := 3) rfl)
theorem wn_m4 : (Jvm.Cond.methodLinkNest "BitDesk$Multiplier" (67 : Nat) ({ cls := "BitDesk", name := "lowest", desc := "(I)I" } : Jvm.MethodName) "BitDesk") ∈ NWL := List.mem_append_right _ (List.mem_of_getElem? (i := 4) rfl)
theorem wn_m5 : (Jvm.Cond.methodLinkNest "BitDesk$Multiplier" (60 : Nat) ({ cls := "BitDesk", name := "hasOne", desc := "(II)Z" } : Jvm.MethodName) "BitDesk") ∈ NWL := List.mem_append_right _ (List.mem_of_getElem? (i := 5) rfl)
theorem wn_m6 : (Jvm.Cond.methodLinkNest "BitDesk$Elimination" (47 : Nat) ({ cls := "BitDesk", name := "hasOne", desc := "(II)Z" } : Jvm.MethodName) "BitDesk") ∈ NWL := List.mem_append_right _ (List.mem_of_getElem? (i := 6) rfl)
theorem wd_224 : (Jvm.Cond.methodLink "BitDesk$Closure" (3 : Nat) ({ cls := "java/lang/Object", name := "<init>", desc := "()V" } : Jvm.MethodName)) ∈ WS := ws_c1 140 rfl rfl
theorem wd_121 : (Jvm.Cond.instanceMethod ({ cls := "java/lang/Object", name := "<init>", desc := "()V" } : Jvm.MethodName)) ∈ WS := ws_c1 37 rfl rfl
theorem wd_122 : (Jvm.Cond.code ({ cls := "java/lang/Object", name := "<init>", desc := "()V" } : Jvm.MethodName) object_method_1_code (1 : Nat) (Option.none : Option Jvm.ClassFile.FieldType)) ∈ WS := ws_c1 38 rfl rfl
theorem wd_225 : (Jvm.Cond.fieldLink "BitDesk$Closure" (9 : Nat) "BitDesk$Closure" "reach" "[I") ∈ WS := ws_c1 141 rfl rfl
theorem fp_X0_9 : FP RX0 9 0 0 (.array .int) true := ⟨RX0, TX0, 2, tyX0, "BitDesk$Closure", rfl, by decide, rfl, ⟨(Or.inl rfl), fun h => ⟨rfl, rfl⟩⟩, (Or.inl wd_225), inW0, tyX0_ok, nmX0, rfl, tyX0_ok 0 (by decide), rfl⟩
theorem fk_X0_9 : FK RX0 9 0 0 (.array .int) := ⟨RX0, TX0, 2, "BitDesk$Closure", rfl, by decide, rfl, (Or.inl rfl), (Or.inl wd_225), inW0⟩
theorem wd_790 : (Jvm.Cond.methodLink "BitDesk$Closure" (15 : Nat) ({ cls := "java/lang/System", name := "arraycopy", desc := "(Ljava/lang/Object;ILjava/lang/Object;II)V" } : Jvm.MethodName)) ∈ WS := ws_c4 156 rfl rfl
theorem wd_510 : (Jvm.Cond.native ({ cls := "java/lang/System", name := "arraycopy", desc := "(Ljava/lang/Object;ILjava/lang/Object;II)V" } : Jvm.MethodName)) ∈ WS := ws_c2 33 rfl rfl
theorem wd_509 : (Jvm.Cond.static ({ cls := "java/lang/System", name := "arraycopy", desc := "(Ljava/lang/Object;ILjava/lang/Object;II)V" } : Jvm.MethodName)) ∈ WS := ws_c2 32 rfl rfl
theorem wd_661 : (Jvm.Cond.code ({ cls := "BitDesk", name := "hasOne", desc := "(II)Z" } : Jvm.MethodName) prog_1_method_85_code (2 : Nat) (Option.some Jvm.ClassFile.FieldType.boolean)) ∈ WS := ws_c4 146 rfl rfl
theorem wd_660 : (Jvm.Cond.static ({ cls := "BitDesk", name := "hasOne", desc := "(II)Z" } : Jvm.MethodName)) ∈ WS := ws_c4 145 rfl rfl
theorem lk_X0_21 : LkSN RX0 21 jX6_hasOne 2 := ⟨⟨⟨_, wn_m1⟩, ⟨rfl, (by rw [cwd_nil rfl]; exact wd_661)⟩, wd_95, ⟨by decide +kernel, by decide +kernel⟩, by decide +kernel⟩, wd_660⟩
theorem wd_227 : (Jvm.Cond.fieldLink "BitDesk$Closure" (25 : Nat) "BitDesk$Closure" "isCurrent" "Z") ∈ WS := ws_c1 143 rfl rfl
theorem fp_X0_25 : FP RX0 25 0 1 (.boolean) false := ⟨RX0, TX0, 2, tyX0, "BitDesk$Closure", rfl, by decide, rfl, ⟨(Or.inl rfl), fun h => nomatch h⟩, (Or.inl wd_227), inW0, tyX0_ok, nmX0, rfl, tyX0_ok 1 (by decide), rfl⟩
theorem wd_716 : (Jvm.Cond.code ({ cls := "BitDesk", name := "columnOf", desc := "([III)I" } : Jvm.MethodName) prog_1_method_90_code (5 : Nat) (Option.some Jvm.ClassFile.FieldType.int)) ∈ WS := ws_c4 164 rfl rfl
theorem wd_715 : (Jvm.Cond.static ({ cls := "BitDesk", name := "columnOf", desc := "([III)I" } : Jvm.MethodName)) ∈ WS := ws_c4 163 rfl rfl
theorem lk_X0_29 : LkSN RX0 29 jX6_columnOf 3 := ⟨⟨⟨_, wn_m2⟩, ⟨rfl, (by rw [cwd_nil rfl]; exact wd_716)⟩, wd_95, ⟨by decide +kernel, by decide +kernel⟩, by decide +kernel⟩, wd_715⟩
theorem wd_683 : (Jvm.Cond.code ({ cls := "java/lang/Integer", name := "bitCount", desc := "(I)I" } : Jvm.MethodName) prog_20_method_49_code (1 : Nat) (Option.some Jvm.ClassFile.FieldType.int)) ∈ WS := ws_c4 167 rfl rfl
theorem wd_900 : (Jvm.Cond.methodLink "BitDesk$Closure" (37 : Nat) ({ cls := "java/lang/Integer", name := "bitCount", desc := "(I)I" } : Jvm.MethodName)) ∈ WS := ws_c4 179 rfl rfl
theorem wd_682 : (Jvm.Cond.static ({ cls := "java/lang/Integer", name := "bitCount", desc := "(I)I" } : Jvm.MethodName)) ∈ WS := ws_c4 166 rfl rfl
theorem lk_X0_37 : LkS RX0 37 jJ6_bitCount_0f7a4 1 := ⟨⟨wd_900, ⟨rfl, (by rw [cwd_nil rfl]; exact wd_683)⟩, wd_114, ⟨by decide +kernel, by decide +kernel⟩, by decide +kernel⟩, wd_682⟩
theorem wd_899 : (Jvm.Cond.code ({ cls := "BitDesk$Closure", name := "gainWith", desc := "(III)I" } : Jvm.MethodName) prog_2_method_5_code (7 : Nat) (Option.some Jvm.ClassFile.FieldType.int)) ∈ WS := ws_c4 178 rfl rfl
theorem wd_1025 : (Jvm.Cond.methodLink "BitDesk$Closure" (42 : Nat) ({ cls := "BitDesk$Closure", name := "gainWith", desc := "(III)I" } : Jvm.MethodName)) ∈ WS := ws_c4 175 rfl rfl
theorem wd_897 : (Jvm.Cond.instanceMethod ({ cls := "BitDesk$Closure", name := "gainWith", desc := "(III)I" } : Jvm.MethodName)) ∈ WS := ws_c4 176 rfl rfl
theorem wd_898 : (Jvm.Cond.selects "BitDesk$Closure" ({ cls := "BitDesk$Closure", name := "gainWith", desc := "(III)I" } : Jvm.MethodName) ({ cls := "BitDesk$Closure", name := "gainWith", desc := "(III)I" } : Jvm.MethodName)) ∈ WS := ws_c4 177 rfl rfl
theorem lk_X0_42 : LkV RX0 42 jX0_gainWith 3 := ⟨⟨wd_1025, ⟨rfl, (by rw [cwd_nil rfl]; exact wd_899)⟩, wd_99, ⟨by decide +kernel, by decide +kernel⟩, by decide +kernel⟩, wd_897, wd_898⟩
theorem wd_919 : (Jvm.Cond.code ({ cls := "BitDesk", name := "reachedFrom", desc := "([III)I" } : Jvm.MethodName) prog_1_method_91_code (7 : Nat) (Option.some Jvm.ClassFile.FieldType.int)) ∈ WS := ws_c4 186 rfl rfl
theorem wd_918 : (Jvm.Cond.static ({ cls := "BitDesk", name := "reachedFrom", desc := "([III)I" } : Jvm.MethodName)) ∈ WS := ws_c4 185 rfl rfl
theorem lk_X0_46 : LkSN RX0 46 jX6_reachedFrom 3 := ⟨⟨⟨_, wn_m3⟩, ⟨rfl, (by rw [cwd_nil rfl]; exact wd_919)⟩, wd_95, ⟨by decide +kernel, by decide +kernel⟩, by decide +kernel⟩, wd_918⟩
theorem wd_273 : (Jvm.Cond.methodLink "BitDesk$Elimination" (3 : Nat) ({ cls := "java/lang/Object", name := "<init>", desc := "()V" } : Jvm.MethodName)) ∈ WS := ws_c1 189 rfl rfl
theorem wd_274 : (Jvm.Cond.fieldLink "BitDesk$Elimination" (9 : Nat) "BitDesk$Elimination" "left" "[I") ∈ WS := ws_c1 190 rfl rfl
theorem fp_X1_9 : FP RX1 9 1 0 (.array .int) true := ⟨RX1, TX1, 4, tyX1, "BitDesk$Elimination", rfl, by decide, rfl, ⟨(Or.inl rfl), fun h => ⟨rfl, rfl⟩⟩, (Or.inl wd_274), inW1, tyX1_ok, nmX1, rfl, tyX1_ok 0 (by decide), rfl⟩
theorem wd_275 : (Jvm.Cond.fieldLink "BitDesk$Elimination" (15 : Nat) "BitDesk$Elimination" "right" "[I") ∈ WS := ws_c1 191 rfl rfl
theorem fp_X1_15 : FP RX1 15 1 1 (.array .int) true := ⟨RX1, TX1, 4, tyX1, "BitDesk$Elimination", rfl, by decide, rfl, ⟨(Or.inl rfl), fun h => ⟨rfl, rfl⟩⟩, (Or.inl wd_275), inW1, tyX1_ok, nmX1, rfl, tyX1_ok 1 (by decide), rfl⟩
theorem wd_277 : (Jvm.Cond.fieldLink "BitDesk$Elimination" (18 : Nat) "BitDesk$Elimination" "pivots" "[I") ∈ WS := ws_c1 193 rfl rfl
theorem fp_X1_18 : FP RX1 18 1 2 (.array .int) true := ⟨RX1, TX1, 4, tyX1, "BitDesk$Elimination", rfl, by decide, rfl, ⟨(Or.inl rfl), fun h => ⟨rfl, rfl⟩⟩, (Or.inl wd_277), inW1, tyX1_ok, nmX1, rfl, tyX1_ok 2 (by decide), rfl⟩
theorem fk_X1_15 : FK RX1 15 1 1 (.array .int) := ⟨RX1, TX1, 4, "BitDesk$Elimination", rfl, by decide, rfl, (Or.inl rfl), (Or.inl wd_275), inW1⟩
theorem wd_959 : (Jvm.Cond.code ({ cls := "BitDesk$Elimination", name := "eliminateAll", desc := "([II)V" } : Jvm.MethodName) prog_3_method_7_code (5 : Nat) (Option.none : Option Jvm.ClassFile.FieldType)) ∈ WS := ws_c5 78 rfl rfl
theorem wd_956 : (Jvm.Cond.methodLink "BitDesk$Elimination" (21 : Nat) ({ cls := "BitDesk$Elimination", name := "eliminateAll", desc := "([II)V" } : Jvm.MethodName)) ∈ WS := ws_c5 75 rfl rfl
theorem wd_958 : (Jvm.Cond.instanceMethod ({ cls := "BitDesk$Elimination", name := "eliminateAll", desc := "([II)V" } : Jvm.MethodName)) ∈ WS := ws_c5 77 rfl rfl
theorem wd_33 : (Jvm.Cond.selects "BitDesk$Elimination" (⟨"BitDesk$Elimination", "eliminateAll", "([II)V"⟩ : Jvm.MethodName) (⟨"BitDesk$Elimination", "eliminateAll", "([II)V"⟩ : Jvm.MethodName)) ∈ WS := ws_c0 35 rfl rfl
theorem lk_X1_21 : LkV RX1 21 jX1_eliminateAll 2 := ⟨⟨wd_956, ⟨rfl, (by rw [cwd_nil rfl]; exact wd_959)⟩, wd_101, ⟨by decide +kernel, by decide +kernel⟩, by decide +kernel⟩, wd_958, wd_33⟩
theorem fk_X1_9 : FK RX1 9 1 0 (.array .int) := ⟨RX1, TX1, 4, "BitDesk$Elimination", rfl, by decide, rfl, (Or.inl rfl), (Or.inl wd_274), inW1⟩
theorem wd_960 : (Jvm.Cond.methodLink "BitDesk$Elimination" (29 : Nat) ({ cls := "java/lang/System", name := "arraycopy", desc := "(Ljava/lang/Object;ILjava/lang/Object;II)V" } : Jvm.MethodName)) ∈ WS := ws_c5 79 rfl rfl
theorem wd_278 : (Jvm.Cond.fieldLink "BitDesk$Elimination" (25 : Nat) "BitDesk$Elimination" "pivotCount" "I") ∈ WS := ws_c1 194 rfl rfl
theorem fp_X1_25 : FP RX1 25 1 3 (.int) false := ⟨RX1, TX1, 4, tyX1, "BitDesk$Elimination", rfl, by decide, rfl, ⟨(Or.inl rfl), fun h => nomatch h⟩, (Or.inl wd_278), inW1, tyX1_ok, nmX1, rfl, tyX1_ok 3 (by decide), rfl⟩
theorem wd_964 : (Jvm.Cond.code ({ cls := "BitDesk$Elimination", name := "rowNotTaken", desc := "(II)I" } : Jvm.MethodName) prog_3_method_8_code (4 : Nat) (Option.some Jvm.ClassFile.FieldType.int)) ∈ WS := ws_c5 83 rfl rfl
theorem wd_961 : (Jvm.Cond.methodLink "BitDesk$Elimination" (35 : Nat) ({ cls := "BitDesk$Elimination", name := "rowNotTaken", desc := "(II)I" } : Jvm.MethodName)) ∈ WS := ws_c5 80 rfl rfl
theorem wd_963 : (Jvm.Cond.instanceMethod ({ cls := "BitDesk$Elimination", name := "rowNotTaken", desc := "(II)I" } : Jvm.MethodName)) ∈ WS := ws_c5 82 rfl rfl
theorem wd_34 : (Jvm.Cond.selects "BitDesk$Elimination" (⟨"BitDesk$Elimination", "rowNotTaken", "(II)I"⟩ : Jvm.MethodName) (⟨"BitDesk$Elimination", "rowNotTaken", "(II)I"⟩ : Jvm.MethodName)) ∈ WS := ws_c0 36 rfl rfl
theorem lk_X1_35 : LkV RX1 35 jX1_rowNotTaken 2 := ⟨⟨wd_961, ⟨rfl, (by rw [cwd_nil rfl]; exact wd_964)⟩, wd_101, ⟨by decide +kernel, by decide +kernel⟩, by decide +kernel⟩, wd_963, wd_34⟩
theorem fk_X1_25 : FK RX1 25 1 3 (.int) := ⟨RX1, TX1, 4, "BitDesk$Elimination", rfl, by decide, rfl, (Or.inl rfl), (Or.inl wd_278), inW1⟩
theorem wd_969 : (Jvm.Cond.code ({ cls := "BitDesk$Elimination", name := "swapRows", desc := "(II)V" } : Jvm.MethodName) prog_3_method_9_code (5 : Nat) (Option.none : Option Jvm.ClassFile.FieldType)) ∈ WS := ws_c5 88 rfl rfl
theorem wd_966 : (Jvm.Cond.methodLink "BitDesk$Elimination" (39 : Nat) ({ cls := "BitDesk$Elimination", name := "swapRows", desc := "(II)V" } : Jvm.MethodName)) ∈ WS := ws_c5 85 rfl rfl
theorem wd_968 : (Jvm.Cond.instanceMethod ({ cls := "BitDesk$Elimination", name := "swapRows", desc := "(II)V" } : Jvm.MethodName)) ∈ WS := ws_c5 87 rfl rfl
theorem wd_35 : (Jvm.Cond.selects "BitDesk$Elimination" (⟨"BitDesk$Elimination", "swapRows", "(II)V"⟩ : Jvm.MethodName) (⟨"BitDesk$Elimination", "swapRows", "(II)V"⟩ : Jvm.MethodName)) ∈ WS := ws_c0 37 rfl rfl
theorem lk_X1_39 : LkV RX1 39 jX1_swapRows 2 := ⟨⟨wd_966, ⟨rfl, (by rw [cwd_nil rfl]; exact wd_969)⟩, wd_101, ⟨by decide +kernel, by decide +kernel⟩, by decide +kernel⟩, wd_968, wd_35⟩
theorem wd_973 : (Jvm.Cond.code ({ cls := "BitDesk$Elimination", name := "clearOthers", desc := "(III)V" } : Jvm.MethodName) prog_3_method_10_code (5 : Nat) (Option.none : Option Jvm.ClassFile.FieldType)) ∈ WS := ws_c5 92 rfl rfl
theorem wd_970 : (Jvm.Cond.methodLink "BitDesk$Elimination" (43 : Nat) ({ cls := "BitDesk$Elimination", name := "clearOthers", desc := "(III)V" } : Jvm.MethodName)) ∈ WS := ws_c5 89 rfl rfl
theorem wd_972 : (Jvm.Cond.instanceMethod ({ cls := "BitDesk$Elimination", name := "clearOthers", desc := "(III)V" } : Jvm.MethodName)) ∈ WS := ws_c5 91 rfl rfl
theorem wd_36 : (Jvm.Cond.selects "BitDesk$Elimination" (⟨"BitDesk$Elimination", "clearOthers", "(III)V"⟩ : Jvm.MethodName) (⟨"BitDesk$Elimination", "clearOthers", "(III)V"⟩ : Jvm.MethodName)) ∈ WS := ws_c0 38 rfl rfl
theorem lk_X1_43 : LkV RX1 43 jX1_clearOthers 3 := ⟨⟨wd_970, ⟨rfl, (by rw [cwd_nil rfl]; exact wd_973)⟩, wd_101, ⟨by decide +kernel, by decide +kernel⟩, by decide +kernel⟩, wd_972, wd_36⟩
theorem fk_X1_18 : FK RX1 18 1 2 (.array .int) := ⟨RX1, TX1, 4, "BitDesk$Elimination", rfl, by decide, rfl, (Or.inl rfl), (Or.inl wd_277), inW1⟩
theorem lk_X1_47 : LkSN RX1 47 jX6_hasOne 2 := ⟨⟨⟨_, wn_m6⟩, ⟨rfl, (by rw [cwd_nil rfl]; exact wd_661)⟩, wd_95, ⟨by decide +kernel, by decide +kernel⟩, by decide +kernel⟩, wd_660⟩
theorem wd_167 : (Jvm.Cond.methodLink "BitDesk$Matrix" (3 : Nat) ({ cls := "java/lang/Object", name := "<init>", desc := "()V" } : Jvm.MethodName)) ∈ WS := ws_c1 83 rfl rfl
theorem wd_168 : (Jvm.Cond.fieldLink "BitDesk$Matrix" (9 : Nat) "BitDesk$Matrix" "rows" "[I") ∈ WS := ws_c1 84 rfl rfl
theorem fp_X2_9 : FP RX2 9 2 0 (.array .int) true := ⟨RX2, TX2, 5, tyX2, "BitDesk$Matrix", rfl, by decide, rfl, ⟨(Or.inl rfl), fun h => ⟨rfl, rfl⟩⟩, (Or.inl wd_168), inW2, tyX2_ok, nmX2, rfl, tyX2_ok 0 (by decide), rfl⟩
theorem fk_X2_9 : FK RX2 9 2 0 (.array .int) := ⟨RX2, TX2, 5, "BitDesk$Matrix", rfl, by decide, rfl, (Or.inl rfl), (Or.inl wd_168), inW2⟩
theorem wd_171 : (Jvm.Cond.fieldLink "BitDesk$Matrix" (15 : Nat) "BitDesk$Matrix" "isKept" "Z") ∈ WS := ws_c1 87 rfl rfl
theorem fp_X2_15 : FP RX2 15 2 1 (.boolean) false := ⟨RX2, TX2, 5, tyX2, "BitDesk$Matrix", rfl, by decide, rfl, ⟨(Or.inl rfl), fun h => nomatch h⟩, (Or.inl wd_171), inW2, tyX2_ok, nmX2, rfl, tyX2_ok 1 (by decide), rfl⟩
theorem wd_174 : (Jvm.Cond.fieldLink "BitDesk$Matrix" (19 : Nat) "BitDesk$Matrix" "lookedLately" "I") ∈ WS := ws_c1 90 rfl rfl
theorem fp_X2_19 : FP RX2 19 2 2 (.int) false := ⟨RX2, TX2, 5, tyX2, "BitDesk$Matrix", rfl, by decide, rfl, ⟨(Or.inl rfl), fun h => nomatch h⟩, (Or.inl wd_174), inW2, tyX2_ok, nmX2, rfl, tyX2_ok 2 (by decide), rfl⟩
theorem wd_176 : (Jvm.Cond.fieldLink "BitDesk$Matrix" (23 : Nat) "BitDesk$Matrix" "lookedInAll" "I") ∈ WS := ws_c1 92 rfl rfl
theorem fp_X2_23 : FP RX2 23 2 3 (.int) false := ⟨RX2, TX2, 5, tyX2, "BitDesk$Matrix", rfl, by decide, rfl, ⟨(Or.inl rfl), fun h => nomatch h⟩, (Or.inl wd_176), inW2, tyX2_ok, nmX2, rfl, tyX2_ok 3 (by decide), rfl⟩
theorem wd_178 : (Jvm.Cond.fieldLink "BitDesk$Matrix" (26 : Nat) "BitDesk$Matrix" "timesMadeAnew" "I") ∈ WS := ws_c1 94 rfl rfl
theorem fp_X2_26 : FP RX2 26 2 4 (.int) false := ⟨RX2, TX2, 5, tyX2, "BitDesk$Matrix", rfl, by decide, rfl, ⟨(Or.inl rfl), fun h => nomatch h⟩, (Or.inl wd_178), inW2, tyX2_ok, nmX2, rfl, tyX2_ok 4 (by decide), rfl⟩
theorem wd_508 : (Jvm.Cond.methodLink "BitDesk$Matrix" (29 : Nat) ({ cls := "java/lang/System", name := "arraycopy", desc := "(Ljava/lang/Object;ILjava/lang/Object;II)V" } : Jvm.MethodName)) ∈ WS := ws_c2 31 rfl rfl
theorem fk_X2_15 : FK RX2 15 2 1 (.boolean) := ⟨RX2, TX2, 5, "BitDesk$Matrix", rfl, by decide, rfl, (Or.inl rfl), (Or.inl wd_171), inW2⟩
theorem fk_X2_19 : FK RX2 19 2 2 (.int) := ⟨RX2, TX2, 5, "BitDesk$Matrix", rfl, by decide, rfl, (Or.inl rfl), (Or.inl wd_174), inW2⟩
theorem fk_X2_23 : FK RX2 23 2 3 (.int) := ⟨RX2, TX2, 5, "BitDesk$Matrix", rfl, by decide, rfl, (Or.inl rfl), (Or.inl wd_176), inW2⟩
theorem fk_X2_26 : FK RX2 26 2 4 (.int) := ⟨RX2, TX2, 5, "BitDesk$Matrix", rfl, by decide, rfl, (Or.inl rfl), (Or.inl wd_178), inW2⟩
theorem wd_495 : (Jvm.Cond.code ({ cls := "BitDesk$Matrix", name := "noteLooked", desc := "(I)V" } : Jvm.MethodName) prog_4_method_4_code (2 : Nat) (Option.none : Option Jvm.ClassFile.FieldType)) ∈ WS := ws_c3 86 rfl rfl
theorem wd_492 : (Jvm.Cond.methodLink "BitDesk$Matrix" (35 : Nat) ({ cls := "BitDesk$Matrix", name := "noteLooked", desc := "(I)V" } : Jvm.MethodName)) ∈ WS := ws_c3 83 rfl rfl
theorem wd_493 : (Jvm.Cond.instanceMethod ({ cls := "BitDesk$Matrix", name := "noteLooked", desc := "(I)V" } : Jvm.MethodName)) ∈ WS := ws_c3 84 rfl rfl
theorem wd_494 : (Jvm.Cond.selects "BitDesk$Matrix" ({ cls := "BitDesk$Matrix", name := "noteLooked", desc := "(I)V" } : Jvm.MethodName) ({ cls := "BitDesk$Matrix", name := "noteLooked", desc := "(I)V" } : Jvm.MethodName)) ∈ WS := ws_c3 85 rfl rfl
theorem lk_X2_35 : LkV RX2 35 jX2_noteLooked 1 := ⟨⟨wd_492, ⟨rfl, (by rw [cwd_nil rfl]; exact wd_495)⟩, wd_98, ⟨by decide +kernel, by decide +kernel⟩, by decide +kernel⟩, wd_493, wd_494⟩
theorem wd_240 : (Jvm.Cond.methodLink "BitDesk$Multiplier" (3 : Nat) ({ cls := "java/lang/Object", name := "<init>", desc := "()V" } : Jvm.MethodName)) ∈ WS := ws_c1 156 rfl rfl
theorem wd_241 : (Jvm.Cond.fieldLink "BitDesk$Multiplier" (9 : Nat) "BitDesk$Multiplier" "table" "[I") ∈ WS := ws_c1 157 rfl rfl
theorem fp_X3_9 : FP RX3 9 3 0 (.array .int) true := ⟨RX3, TX3, 8, tyX3, "BitDesk$Multiplier", rfl, by decide, rfl, ⟨(Or.inl rfl), fun h => ⟨rfl, rfl⟩⟩, (Or.inl wd_241), inW3, tyX3_ok, nmX3, rfl, tyX3_ok 0 (by decide), rfl⟩
theorem wd_242 : (Jvm.Cond.fieldLink "BitDesk$Multiplier" (15 : Nat) "BitDesk$Multiplier" "first" "[I") ∈ WS := ws_c1 158 rfl rfl
theorem fp_X3_15 : FP RX3 15 3 1 (.array .int) true := ⟨RX3, TX3, 8, tyX3, "BitDesk$Multiplier", rfl, by decide, rfl, ⟨(Or.inl rfl), fun h => ⟨rfl, rfl⟩⟩, (Or.inl wd_242), inW3, tyX3_ok, nmX3, rfl, tyX3_ok 1 (by decide), rfl⟩
theorem wd_243 : (Jvm.Cond.fieldLink "BitDesk$Multiplier" (18 : Nat) "BitDesk$Multiplier" "second" "[I") ∈ WS := ws_c1 159 rfl rfl
theorem fp_X3_18 : FP RX3 18 3 2 (.array .int) true := ⟨RX3, TX3, 8, tyX3, "BitDesk$Multiplier", rfl, by decide, rfl, ⟨(Or.inl rfl), fun h => ⟨rfl, rfl⟩⟩, (Or.inl wd_243), inW3, tyX3_ok, nmX3, rfl, tyX3_ok 2 (by decide), rfl⟩
theorem fk_X3_21 : FK RX3 21 5 1 (.int) := ⟨RX5, TX5, 5, "BitDesk$State", rfl, by decide, rfl, (Or.inl rfl), (Or.inr ⟨_, wn_f12⟩), inW5⟩
theorem wd_244 : (Jvm.Cond.fieldLink "BitDesk$Multiplier" (27 : Nat) "BitDesk$Multiplier" "size" "I") ∈ WS := ws_c1 160 rfl rfl
theorem fp_X3_27 : FP RX3 27 3 3 (.int) false := ⟨RX3, TX3, 8, tyX3, "BitDesk$Multiplier", rfl, by decide, rfl, ⟨(Or.inl rfl), fun h => nomatch h⟩, (Or.inl wd_244), inW3, tyX3_ok, nmX3, rfl, tyX3_ok 3 (by decide), rfl⟩
theorem fk_X3_28 : FK RX3 28 5 2 (.int) := ⟨RX5, TX5, 5, "BitDesk$State", rfl, by decide, rfl, (Or.inl rfl), (Or.inr ⟨_, wn_f15⟩), inW5⟩
theorem wd_245 : (Jvm.Cond.fieldLink "BitDesk$Multiplier" (31 : Nat) "BitDesk$Multiplier" "block" "I") ∈ WS := ws_c1 161 rfl rfl
theorem fp_X3_31 : FP RX3 31 3 4 (.int) false := ⟨RX3, TX3, 8, tyX3, "BitDesk$Multiplier", rfl, by decide, rfl, ⟨(Or.inl rfl), fun h => nomatch h⟩, (Or.inl wd_245), inW3, tyX3_ok, nmX3, rfl, tyX3_ok 4 (by decide), rfl⟩
theorem wd_246 : (Jvm.Cond.fieldLink "BitDesk$Multiplier" (32 : Nat) "BitDesk$Multiplier" "isField" "Z") ∈ WS := ws_c1 162 rfl rfl
theorem fp_X3_32 : FP RX3 32 3 5 (.boolean) false := ⟨RX3, TX3, 8, tyX3, "BitDesk$Multiplier", rfl, by decide, rfl, ⟨(Or.inl rfl), fun h => nomatch h⟩, (Or.inl wd_246), inW3, tyX3_ok, nmX3, rfl, tyX3_ok 5 (by decide), rfl⟩
theorem wd_247 : (Jvm.Cond.fieldLink "BitDesk$Multiplier" (36 : Nat) "BitDesk$Multiplier" "entriesMade" "I") ∈ WS := ws_c1 163 rfl rfl
theorem fp_X3_36 : FP RX3 36 3 6 (.int) false := ⟨RX3, TX3, 8, tyX3, "BitDesk$Multiplier", rfl, by decide, rfl, ⟨(Or.inl rfl), fun h => nomatch h⟩, (Or.inl wd_247), inW3, tyX3_ok, nmX3, rfl, tyX3_ok 6 (by decide), rfl⟩
theorem wd_249 : (Jvm.Cond.fieldLink "BitDesk$Multiplier" (39 : Nat) "BitDesk$Multiplier" "entriesTaken" "I") ∈ WS := ws_c1 165 rfl rfl
theorem fp_X3_39 : FP RX3 39 3 7 (.int) false := ⟨RX3, TX3, 8, tyX3, "BitDesk$Multiplier", rfl, by decide, rfl, ⟨(Or.inl rfl), fun h => nomatch h⟩, (Or.inl wd_249), inW3, tyX3_ok, nmX3, rfl, tyX3_ok 7 (by decide), rfl⟩
theorem fk_X3_27 : FK RX3 27 3 3 (.int) := ⟨RX3, TX3, 8, "BitDesk$Multiplier", rfl, by decide, rfl, (Or.inl rfl), (Or.inl wd_244), inW3⟩
theorem fk_X3_31 : FK RX3 31 3 4 (.int) := ⟨RX3, TX3, 8, "BitDesk$Multiplier", rfl, by decide, rfl, (Or.inl rfl), (Or.inl wd_245), inW3⟩
theorem wd_431 : (Jvm.Cond.code ({ cls := "java/lang/Math", name := "min", desc := "(II)I" } : Jvm.MethodName) prog_23_method_69_code (2 : Nat) (Option.some Jvm.ClassFile.FieldType.int)) ∈ WS := ws_c3 22 rfl rfl
theorem wd_1085 : (Jvm.Cond.methodLink "BitDesk$Multiplier" (42 : Nat) ({ cls := "java/lang/Math", name := "min", desc := "(II)I" } : Jvm.MethodName)) ∈ WS := ws_c5 12 rfl rfl
theorem wd_430 : (Jvm.Cond.static ({ cls := "java/lang/Math", name := "min", desc := "(II)I" } : Jvm.MethodName)) ∈ WS := ws_c3 21 rfl rfl
theorem lk_X3_42 : LkS RX3 42 jJ9_min_7cf53 2 := ⟨⟨wd_1085, ⟨rfl, (by rw [cwd_nil rfl]; exact wd_431)⟩, wd_107, ⟨by decide +kernel, by decide +kernel⟩, by decide +kernel⟩, wd_430⟩
theorem wd_1089 : (Jvm.Cond.code ({ cls := "BitDesk$Multiplier", name := "fillTable", desc := "([III)V" } : Jvm.MethodName) prog_5_method_5_code (7 : Nat) (Option.none : Option Jvm.ClassFile.FieldType)) ∈ WS := ws_c5 16 rfl rfl
theorem wd_1086 : (Jvm.Cond.methodLink "BitDesk$Multiplier" (48 : Nat) ({ cls := "BitDesk$Multiplier", name := "fillTable", desc := "([III)V" } : Jvm.MethodName)) ∈ WS := ws_c5 13 rfl rfl
theorem wd_1088 : (Jvm.Cond.instanceMethod ({ cls := "BitDesk$Multiplier", name := "fillTable", desc := "([III)V" } : Jvm.MethodName)) ∈ WS := ws_c5 15 rfl rfl
theorem wd_40 : (Jvm.Cond.selects "BitDesk$Multiplier" (⟨"BitDesk$Multiplier", "fillTable", "([III)V"⟩ : Jvm.MethodName) (⟨"BitDesk$Multiplier", "fillTable", "([III)V"⟩ : Jvm.MethodName)) ∈ WS := ws_c0 31 rfl rfl
theorem lk_X3_48 : LkV RX3 48 jX3_fillTable 3 := ⟨⟨wd_1086, ⟨rfl, (by rw [cwd_nil rfl]; exact wd_1089)⟩, wd_100, ⟨by decide +kernel, by decide +kernel⟩, by decide +kernel⟩, wd_1088, wd_40⟩
theorem wd_1097 : (Jvm.Cond.code ({ cls := "BitDesk$Multiplier", name := "takeEntries", desc := "([I[III)V" } : Jvm.MethodName) prog_5_method_6_code (7 : Nat) (Option.none : Option Jvm.ClassFile.FieldType)) ∈ WS := ws_c5 24 rfl rfl
theorem wd_1094 : (Jvm.Cond.methodLink "BitDesk$Multiplier" (52 : Nat) ({ cls := "BitDesk$Multiplier", name := "takeEntries", desc := "([I[III)V" } : Jvm.MethodName)) ∈ WS := ws_c5 21 rfl rfl
theorem wd_1096 : (Jvm.Cond.instanceMethod ({ cls := "BitDesk$Multiplier", name := "takeEntries", desc := "([I[III)V" } : Jvm.MethodName)) ∈ WS := ws_c5 23 rfl rfl
theorem wd_42 : (Jvm.Cond.selects "BitDesk$Multiplier" (⟨"BitDesk$Multiplier", "takeEntries", "([I[III)V"⟩ : Jvm.MethodName) (⟨"BitDesk$Multiplier", "takeEntries", "([I[III)V"⟩ : Jvm.MethodName)) ∈ WS := ws_c0 33 rfl rfl
theorem lk_X3_52 : LkV RX3 52 jX3_takeEntries 4 := ⟨⟨wd_1094, ⟨rfl, (by rw [cwd_nil rfl]; exact wd_1097)⟩, wd_100, ⟨by decide +kernel, by decide +kernel⟩, by decide +kernel⟩, wd_1096, wd_42⟩
theorem fk_X3_15 : FK RX3 15 3 1 (.array .int) := ⟨RX3, TX3, 8, "BitDesk$Multiplier", rfl, by decide, rfl, (Or.inl rfl), (Or.inl wd_242), inW3⟩
theorem fk_X3_18 : FK RX3 18 3 2 (.array .int) := ⟨RX3, TX3, 8, "BitDesk$Multiplier", rfl, by decide, rfl, (Or.inl rfl), (Or.inl wd_243), inW3⟩
theorem wd_1084 : (Jvm.Cond.code ({ cls := "BitDesk$Multiplier", name := "multiply", desc := "([I[I[I)V" } : Jvm.MethodName) prog_5_method_3_code (6 : Nat) (Option.none : Option Jvm.ClassFile.FieldType)) ∈ WS := ws_c5 11 rfl rfl
theorem wd_1115 : (Jvm.Cond.methodLink "BitDesk$Multiplier" (56 : Nat) ({ cls := "BitDesk$Multiplier", name := "multiply", desc := "([I[I[I)V" } : Jvm.MethodName)) ∈ WS := ws_c5 49 rfl rfl
theorem wd_1082 : (Jvm.Cond.instanceMethod ({ cls := "BitDesk$Multiplier", name := "multiply", desc := "([I[I[I)V" } : Jvm.MethodName)) ∈ WS := ws_c5 9 rfl rfl
theorem wd_1083 : (Jvm.Cond.selects "BitDesk$Multiplier" ({ cls := "BitDesk$Multiplier", name := "multiply", desc := "([I[I[I)V" } : Jvm.MethodName) ({ cls := "BitDesk$Multiplier", name := "multiply", desc := "([I[I[I)V" } : Jvm.MethodName)) ∈ WS := ws_c5 10 rfl rfl
theorem lk_X3_56 : LkV RX3 56 jX3_multiply 3 := ⟨⟨wd_1115, ⟨rfl, (by rw [cwd_nil rfl]; exact wd_1084)⟩, wd_100, ⟨by decide +kernel, by decide +kernel⟩, by decide +kernel⟩, wd_1082, wd_1083⟩
theorem lk_X3_60 : LkSN RX3 60 jX6_hasOne 2 := ⟨⟨⟨_, wn_m5⟩, ⟨rfl, (by rw [cwd_nil rfl]; exact wd_661)⟩, wd_95, ⟨by decide +kernel, by decide +kernel⟩, by decide +kernel⟩, wd_660⟩
theorem fk_X3_9 : FK RX3 9 3 0 (.array .int) := ⟨RX3, TX3, 8, "BitDesk$Multiplier", rfl, by decide, rfl, (Or.inl rfl), (Or.inl wd_241), inW3⟩
theorem wd_1093 : (Jvm.Cond.code ({ cls := "BitDesk$Multiplier", name := "joined", desc := "(II)I" } : Jvm.MethodName) prog_5_method_7_code (3 : Nat) (Option.some Jvm.ClassFile.FieldType.int)) ∈ WS := ws_c5 20 rfl rfl
theorem wd_1090 : (Jvm.Cond.methodLink "BitDesk$Multiplier" (64 : Nat) ({ cls := "BitDesk$Multiplier", name := "joined", desc := "(II)I" } : Jvm.MethodName)) ∈ WS := ws_c5 17 rfl rfl
theorem wd_1092 : (Jvm.Cond.instanceMethod ({ cls := "BitDesk$Multiplier", name := "joined", desc := "(II)I" } : Jvm.MethodName)) ∈ WS := ws_c5 19 rfl rfl
theorem wd_41 : (Jvm.Cond.selects "BitDesk$Multiplier" (⟨"BitDesk$Multiplier", "joined", "(II)I"⟩ : Jvm.MethodName) (⟨"BitDesk$Multiplier", "joined", "(II)I"⟩ : Jvm.MethodName)) ∈ WS := ws_c0 32 rfl rfl
theorem lk_X3_64 : LkV RX3 64 jX3_joined 2 := ⟨⟨wd_1090, ⟨rfl, (by rw [cwd_nil rfl]; exact wd_1093)⟩, wd_100, ⟨by decide +kernel, by decide +kernel⟩, by decide +kernel⟩, wd_1092, wd_41⟩
theorem fk_X3_36 : FK RX3 36 3 6 (.int) := ⟨RX3, TX3, 8, "BitDesk$Multiplier", rfl, by decide, rfl, (Or.inl rfl), (Or.inl wd_247), inW3⟩
theorem wd_479 : (Jvm.Cond.code ({ cls := "BitDesk", name := "lowest", desc := "(I)I" } : Jvm.MethodName) prog_1_method_86_code (1 : Nat) (Option.some Jvm.ClassFile.FieldType.int)) ∈ WS := ws_c3 70 rfl rfl
theorem wd_478 : (Jvm.Cond.static ({ cls := "BitDesk", name := "lowest", desc := "(I)I" } : Jvm.MethodName)) ∈ WS := ws_c3 69 rfl rfl
theorem lk_X3_67 : LkSN RX3 67 jX6_lowest 1 := ⟨⟨⟨_, wn_m4⟩, ⟨rfl, (by rw [cwd_nil rfl]; exact wd_479)⟩, wd_95, ⟨by decide +kernel, by decide +kernel⟩, by decide +kernel⟩, wd_478⟩
theorem fk_X3_39 : FK RX3 39 3 7 (.int) := ⟨RX3, TX3, 8, "BitDesk$Multiplier", rfl, by decide, rfl, (Or.inl rfl), (Or.inl wd_249), inW3⟩
theorem fk_X3_32 : FK RX3 32 3 5 (.boolean) := ⟨RX3, TX3, 8, "BitDesk$Multiplier", rfl, by decide, rfl, (Or.inl rfl), (Or.inl wd_246), inW3⟩
theorem wd_128 : (Jvm.Cond.methodLink "BitDesk$Reader" (3 : Nat) ({ cls := "java/lang/Object", name := "<init>", desc := "()V" } : Jvm.MethodName)) ∈ WS := ws_c1 44 rfl rfl
theorem wd_129 : (Jvm.Cond.fieldLink "BitDesk$Reader" (9 : Nat) "BitDesk$Reader" "text" "[I") ∈ WS := ws_c1 45 rfl rfl
theorem fp_X4_9 : FP RX4 9 4 0 (.array .int) true := ⟨RX4, TX4, 7, tyX4, "BitDesk$Reader", rfl, by decide, rfl, ⟨(Or.inl rfl), fun h => ⟨rfl, rfl⟩⟩, (Or.inl wd_129), inW4, tyX4_ok, nmX4, rfl, tyX4_ok 0 (by decide), rfl⟩
theorem wd_343 : (Jvm.Cond.constantLong "BitDesk$Reader" (15 : Nat) (255 : Int64)) ∈ WS := ws_c2 220 rfl rfl
theorem wd_130 : (Jvm.Cond.fieldLink "BitDesk$Reader" (17 : Nat) "BitDesk$Reader" "length" "I") ∈ WS := ws_c1 46 rfl rfl
theorem fk_X4_17 : FK RX4 17 4 1 (.int) := ⟨RX4, TX4, 7, "BitDesk$Reader", rfl, by decide, rfl, (Or.inl rfl), (Or.inl wd_130), inW4⟩
theorem fk_X4_9 : FK RX4 9 4 0 (.array .int) := ⟨RX4, TX4, 7, "BitDesk$Reader", rfl, by decide, rfl, (Or.inl rfl), (Or.inl wd_129), inW4⟩
theorem fp_X4_17 : FP RX4 17 4 1 (.int) false := ⟨RX4, TX4, 7, tyX4, "BitDesk$Reader", rfl, by decide, rfl, ⟨(Or.inl rfl), fun h => nomatch h⟩, (Or.inl wd_130), inW4, tyX4_ok, nmX4, rfl, tyX4_ok 1 (by decide), rfl⟩
theorem wd_131 : (Jvm.Cond.fieldLink "BitDesk$Reader" (21 : Nat) "BitDesk$Reader" "position" "I") ∈ WS := ws_c1 47 rfl rfl
theorem fp_X4_21 : FP RX4 21 4 2 (.int) false := ⟨RX4, TX4, 7, tyX4, "BitDesk$Reader", rfl, by decide, rfl, ⟨(Or.inl rfl), fun h => nomatch h⟩, (Or.inl wd_131), inW4, tyX4_ok, nmX4, rfl, tyX4_ok 2 (by decide), rfl⟩
theorem wd_133 : (Jvm.Cond.fieldLink "BitDesk$Reader" (24 : Nat) "BitDesk$Reader" "statement" "I") ∈ WS := ws_c1 49 rfl rfl
theorem fp_X4_24 : FP RX4 24 4 4 (.int) false := ⟨RX4, TX4, 7, tyX4, "BitDesk$Reader", rfl, by decide, rfl, ⟨(Or.inl rfl), fun h => nomatch h⟩, (Or.inl wd_133), inW4, tyX4_ok, nmX4, rfl, tyX4_ok 4 (by decide), rfl⟩
theorem wd_135 : (Jvm.Cond.fieldLink "BitDesk$Reader" (27 : Nat) "BitDesk$Reader" "error" "I") ∈ WS := ws_c1 51 rfl rfl
theorem fp_X4_27 : FP RX4 27 4 5 (.int) false := ⟨RX4, TX4, 7, tyX4, "BitDesk$Reader", rfl, by decide, rfl, ⟨(Or.inl rfl), fun h => nomatch h⟩, (Or.inl wd_135), inW4, tyX4_ok, nmX4, rfl, tyX4_ok 5 (by decide), rfl⟩
theorem wd_137 : (Jvm.Cond.fieldLink "BitDesk$Reader" (30 : Nat) "BitDesk$Reader" "errorPosition" "I") ∈ WS := ws_c1 53 rfl rfl
theorem fp_X4_30 : FP RX4 30 4 6 (.int) false := ⟨RX4, TX4, 7, tyX4, "BitDesk$Reader", rfl, by decide, rfl, ⟨(Or.inl rfl), fun h => nomatch h⟩, (Or.inl wd_137), inW4, tyX4_ok, nmX4, rfl, tyX4_ok 6 (by decide), rfl⟩
theorem wd_355 : (Jvm.Cond.code ({ cls := "BitDesk$Reader", name := "readSize", desc := "(LBitDesk$State;)V" } : Jvm.MethodName) prog_6_method_4_code (2 : Nat) (Option.none : Option Jvm.ClassFile.FieldType)) ∈ WS := ws_c2 232 rfl rfl
theorem wd_352 : (Jvm.Cond.methodLink "BitDesk$Reader" (33 : Nat) ({ cls := "BitDesk$Reader", name := "readSize", desc := "(LBitDesk$State;)V" } : Jvm.MethodName)) ∈ WS := ws_c2 229 rfl rfl
theorem wd_354 : (Jvm.Cond.instanceMethod ({ cls := "BitDesk$Reader", name := "readSize", desc := "(LBitDesk$State;)V" } : Jvm.MethodName)) ∈ WS := ws_c2 231 rfl rfl
theorem wd_0 : (Jvm.Cond.selects "BitDesk$Reader" (⟨"BitDesk$Reader", "readSize", "(LBitDesk$State;)V"⟩ : Jvm.MethodName) (⟨"BitDesk$Reader", "readSize", "(LBitDesk$State;)V"⟩ : Jvm.MethodName)) ∈ WS := ws_c0 4 rfl rfl
theorem lk_X4_33 : LkV RX4 33 jX4_readSize 1 := ⟨⟨wd_352, ⟨rfl, (by rw [cwd_nil rfl]; exact wd_355)⟩, wd_96, ⟨by decide +kernel, by decide +kernel⟩, by decide +kernel⟩, wd_354, wd_0⟩
theorem wd_443 : (Jvm.Cond.code ({ cls := "BitDesk$Reader", name := "hasMore", desc := "()Z" } : Jvm.MethodName) prog_6_method_11_code (1 : Nat) (Option.some Jvm.ClassFile.FieldType.boolean)) ∈ WS := ws_c3 34 rfl rfl
theorem wd_440 : (Jvm.Cond.methodLink "BitDesk$Reader" (37 : Nat) ({ cls := "BitDesk$Reader", name := "hasMore", desc := "()Z" } : Jvm.MethodName)) ∈ WS := ws_c3 31 rfl rfl
theorem wd_442 : (Jvm.Cond.instanceMethod ({ cls := "BitDesk$Reader", name := "hasMore", desc := "()Z" } : Jvm.MethodName)) ∈ WS := ws_c3 33 rfl rfl
theorem wd_7 : (Jvm.Cond.selects "BitDesk$Reader" (⟨"BitDesk$Reader", "hasMore", "()Z"⟩ : Jvm.MethodName) (⟨"BitDesk$Reader", "hasMore", "()Z"⟩ : Jvm.MethodName)) ∈ WS := ws_c0 11 rfl rfl
theorem lk_X4_37 : LkV RX4 37 jX4_hasMore 0 := ⟨⟨wd_440, ⟨rfl, (by rw [cwd_nil rfl]; exact wd_443)⟩, wd_96, ⟨by decide +kernel, by decide +kernel⟩, by decide +kernel⟩, wd_442, wd_7⟩
theorem wd_447 : (Jvm.Cond.code ({ cls := "BitDesk$Reader", name := "takeSemicolon", desc := "()V" } : Jvm.MethodName) prog_6_method_12_code (1 : Nat) (Option.none : Option Jvm.ClassFile.FieldType)) ∈ WS := ws_c3 38 rfl rfl
theorem wd_444 : (Jvm.Cond.methodLink "BitDesk$Reader" (41 : Nat) ({ cls := "BitDesk$Reader", name := "takeSemicolon", desc := "()V" } : Jvm.MethodName)) ∈ WS := ws_c3 35 rfl rfl
theorem wd_446 : (Jvm.Cond.instanceMethod ({ cls := "BitDesk$Reader", name := "takeSemicolon", desc := "()V" } : Jvm.MethodName)) ∈ WS := ws_c3 37 rfl rfl
theorem wd_8 : (Jvm.Cond.selects "BitDesk$Reader" (⟨"BitDesk$Reader", "takeSemicolon", "()V"⟩ : Jvm.MethodName) (⟨"BitDesk$Reader", "takeSemicolon", "()V"⟩ : Jvm.MethodName)) ∈ WS := ws_c0 12 rfl rfl
theorem lk_X4_41 : LkV RX4 41 jX4_takeSemicolon 0 := ⟨⟨wd_444, ⟨rfl, (by rw [cwd_nil rfl]; exact wd_447)⟩, wd_96, ⟨by decide +kernel, by decide +kernel⟩, by decide +kernel⟩, wd_446, wd_8⟩
theorem fk_X4_27 : FK RX4 27 4 5 (.int) := ⟨RX4, TX4, 7, "BitDesk$Reader", rfl, by decide, rfl, (Or.inl rfl), (Or.inl wd_135), inW4⟩
theorem wd_451 : (Jvm.Cond.code ({ cls := "BitDesk$Reader", name := "readStatement", desc := "(LBitDesk$State;)V" } : Jvm.MethodName) prog_6_method_5_code (2 : Nat) (Option.none : Option Jvm.ClassFile.FieldType)) ∈ WS := ws_c3 42 rfl rfl
theorem wd_448 : (Jvm.Cond.methodLink "BitDesk$Reader" (44 : Nat) ({ cls := "BitDesk$Reader", name := "readStatement", desc := "(LBitDesk$State;)V" } : Jvm.MethodName)) ∈ WS := ws_c3 39 rfl rfl
theorem wd_450 : (Jvm.Cond.instanceMethod ({ cls := "BitDesk$Reader", name := "readStatement", desc := "(LBitDesk$State;)V" } : Jvm.MethodName)) ∈ WS := ws_c3 41 rfl rfl
theorem wd_9 : (Jvm.Cond.selects "BitDesk$Reader" (⟨"BitDesk$Reader", "readStatement", "(LBitDesk$State;)V"⟩ : Jvm.MethodName) (⟨"BitDesk$Reader", "readStatement", "(LBitDesk$State;)V"⟩ : Jvm.MethodName)) ∈ WS := ws_c0 13 rfl rfl
theorem lk_X4_44 : LkV RX4 44 jX4_readStatement 1 := ⟨⟨wd_448, ⟨rfl, (by rw [cwd_nil rfl]; exact wd_451)⟩, wd_96, ⟨by decide +kernel, by decide +kernel⟩, by decide +kernel⟩, wd_450, wd_9⟩
theorem fk_X4_47 : FK RX4 47 5 0 (.array (.object "BitDesk$Matrix")) := ⟨RX5, TX5, 5, "BitDesk$State", rfl, by decide, rfl, (Or.inl rfl), (Or.inr ⟨_, wn_f10⟩), inW5⟩
theorem fk_X4_53 : FK RX4 53 5 1 (.int) := ⟨RX5, TX5, 5, "BitDesk$State", rfl, by decide, rfl, (Or.inl rfl), (Or.inr ⟨_, wn_f14⟩), inW5⟩
theorem wd_491 : (Jvm.Cond.code ({ cls := "BitDesk$Matrix", name := "noteMadeAnew", desc := "(I)V" } : Jvm.MethodName) prog_4_method_5_code (2 : Nat) (Option.none : Option Jvm.ClassFile.FieldType)) ∈ WS := ws_c3 82 rfl rfl
theorem wd_488 : (Jvm.Cond.methodLink "BitDesk$Reader" (56 : Nat) ({ cls := "BitDesk$Matrix", name := "noteMadeAnew", desc := "(I)V" } : Jvm.MethodName)) ∈ WS := ws_c3 79 rfl rfl
theorem wd_489 : (Jvm.Cond.instanceMethod ({ cls := "BitDesk$Matrix", name := "noteMadeAnew", desc := "(I)V" } : Jvm.MethodName)) ∈ WS := ws_c3 80 rfl rfl
theorem wd_490 : (Jvm.Cond.selects "BitDesk$Matrix" ({ cls := "BitDesk$Matrix", name := "noteMadeAnew", desc := "(I)V" } : Jvm.MethodName) ({ cls := "BitDesk$Matrix", name := "noteMadeAnew", desc := "(I)V" } : Jvm.MethodName)) ∈ WS := ws_c3 81 rfl rfl
theorem lk_X4_56 : LkV RX4 56 jX2_noteMadeAnew 1 := ⟨⟨wd_488, ⟨rfl, (by rw [cwd_nil rfl]; exact wd_491)⟩, wd_98, ⟨by decide +kernel, by decide +kernel⟩, by decide +kernel⟩, wd_489, wd_490⟩
theorem wd_359 : (Jvm.Cond.code ({ cls := "BitDesk$Reader", name := "takeWord", desc := "()V" } : Jvm.MethodName) prog_6_method_13_code (1 : Nat) (Option.none : Option Jvm.ClassFile.FieldType)) ∈ WS := ws_c2 236 rfl rfl
theorem wd_356 : (Jvm.Cond.methodLink "BitDesk$Reader" (62 : Nat) ({ cls := "BitDesk$Reader", name := "takeWord", desc := "()V" } : Jvm.MethodName)) ∈ WS := ws_c2 233 rfl rfl
theorem wd_358 : (Jvm.Cond.instanceMethod ({ cls := "BitDesk$Reader", name := "takeWord", desc := "()V" } : Jvm.MethodName)) ∈ WS := ws_c2 235 rfl rfl
theorem wd_1 : (Jvm.Cond.selects "BitDesk$Reader" (⟨"BitDesk$Reader", "takeWord", "()V"⟩ : Jvm.MethodName) (⟨"BitDesk$Reader", "takeWord", "()V"⟩ : Jvm.MethodName)) ∈ WS := ws_c0 5 rfl rfl
theorem lk_X4_62 : LkV RX4 62 jX4_takeWord 0 := ⟨⟨wd_356, ⟨rfl, (by rw [cwd_nil rfl]; exact wd_359)⟩, wd_96, ⟨by decide +kernel, by decide +kernel⟩, by decide +kernel⟩, wd_358, wd_1⟩
theorem wd_368 : (Jvm.Cond.code ({ cls := "BitDesk$Reader", name := "isWord", desc := "(Ljava/lang/String;)Z" } : Jvm.MethodName) prog_6_method_18_code (3 : Nat) (Option.some Jvm.ClassFile.FieldType.boolean)) ∈ WS := ws_c3 5 rfl rfl
theorem wd_365 : (Jvm.Cond.methodLink "BitDesk$Reader" (66 : Nat) ({ cls := "BitDesk$Reader", name := "isWord", desc := "(Ljava/lang/String;)Z" } : Jvm.MethodName)) ∈ WS := ws_c3 2 rfl rfl
theorem wd_367 : (Jvm.Cond.instanceMethod ({ cls := "BitDesk$Reader", name := "isWord", desc := "(Ljava/lang/String;)Z" } : Jvm.MethodName)) ∈ WS := ws_c3 4 rfl rfl
theorem wd_3 : (Jvm.Cond.selects "BitDesk$Reader" (⟨"BitDesk$Reader", "isWord", "(Ljava/lang/String;)Z"⟩ : Jvm.MethodName) (⟨"BitDesk$Reader", "isWord", "(Ljava/lang/String;)Z"⟩ : Jvm.MethodName)) ∈ WS := ws_c0 7 rfl rfl
theorem lk_X4_66 : LkV RX4 66 jX4_isWord 1 := ⟨⟨wd_365, ⟨rfl, (by rw [cwd_nil rfl]; exact wd_368)⟩, wd_96, ⟨by decide +kernel, by decide +kernel⟩, by decide +kernel⟩, wd_367, wd_3⟩
theorem wd_132 : (Jvm.Cond.fieldLink "BitDesk$Reader" (70 : Nat) "BitDesk$Reader" "start" "I") ∈ WS := ws_c1 48 rfl rfl
theorem fk_X4_70 : FK RX4 70 4 3 (.int) := ⟨RX4, TX4, 7, "BitDesk$Reader", rfl, by decide, rfl, (Or.inl rfl), (Or.inl wd_132), inW4⟩
theorem wd_420 : (Jvm.Cond.code ({ cls := "BitDesk$Reader", name := "fail", desc := "(II)V" } : Jvm.MethodName) prog_6_method_19_code (3 : Nat) (Option.none : Option Jvm.ClassFile.FieldType)) ∈ WS := ws_c3 11 rfl rfl
theorem wd_417 : (Jvm.Cond.methodLink "BitDesk$Reader" (73 : Nat) ({ cls := "BitDesk$Reader", name := "fail", desc := "(II)V" } : Jvm.MethodName)) ∈ WS := ws_c3 8 rfl rfl
theorem wd_419 : (Jvm.Cond.instanceMethod ({ cls := "BitDesk$Reader", name := "fail", desc := "(II)V" } : Jvm.MethodName)) ∈ WS := ws_c3 10 rfl rfl
theorem wd_4 : (Jvm.Cond.selects "BitDesk$Reader" (⟨"BitDesk$Reader", "fail", "(II)V"⟩ : Jvm.MethodName) (⟨"BitDesk$Reader", "fail", "(II)V"⟩ : Jvm.MethodName)) ∈ WS := ws_c0 8 rfl rfl
theorem lk_X4_73 : LkV RX4 73 jX4_fail 2 := ⟨⟨wd_417, ⟨rfl, (by rw [cwd_nil rfl]; exact wd_420)⟩, wd_96, ⟨by decide +kernel, by decide +kernel⟩, by decide +kernel⟩, wd_419, wd_4⟩
theorem wd_424 : (Jvm.Cond.code ({ cls := "BitDesk$Reader", name := "takeNumber", desc := "(II)I" } : Jvm.MethodName) prog_6_method_15_code (5 : Nat) (Option.some Jvm.ClassFile.FieldType.int)) ∈ WS := ws_c3 15 rfl rfl
theorem wd_421 : (Jvm.Cond.methodLink "BitDesk$Reader" (77 : Nat) ({ cls := "BitDesk$Reader", name := "takeNumber", desc := "(II)I" } : Jvm.MethodName)) ∈ WS := ws_c3 12 rfl rfl
theorem wd_423 : (Jvm.Cond.instanceMethod ({ cls := "BitDesk$Reader", name := "takeNumber", desc := "(II)I" } : Jvm.MethodName)) ∈ WS := ws_c3 14 rfl rfl
theorem wd_5 : (Jvm.Cond.selects "BitDesk$Reader" (⟨"BitDesk$Reader", "takeNumber", "(II)I"⟩ : Jvm.MethodName) (⟨"BitDesk$Reader", "takeNumber", "(II)I"⟩ : Jvm.MethodName)) ∈ WS := ws_c0 9 rfl rfl
theorem lk_X4_77 : LkV RX4 77 jX4_takeNumber 2 := ⟨⟨wd_421, ⟨rfl, (by rw [cwd_nil rfl]; exact wd_424)⟩, wd_96, ⟨by decide +kernel, by decide +kernel⟩, by decide +kernel⟩, wd_423, wd_5⟩
theorem wd_435 : (Jvm.Cond.code ({ cls := "BitDesk$State", name := "makeEmpty", desc := "(I)V" } : Jvm.MethodName) prog_7_method_2_code (3 : Nat) (Option.none : Option Jvm.ClassFile.FieldType)) ∈ WS := ws_c3 26 rfl rfl
theorem wd_432 : (Jvm.Cond.methodLink "BitDesk$Reader" (81 : Nat) ({ cls := "BitDesk$State", name := "makeEmpty", desc := "(I)V" } : Jvm.MethodName)) ∈ WS := ws_c3 23 rfl rfl
theorem wd_433 : (Jvm.Cond.instanceMethod ({ cls := "BitDesk$State", name := "makeEmpty", desc := "(I)V" } : Jvm.MethodName)) ∈ WS := ws_c3 24 rfl rfl
theorem wd_434 : (Jvm.Cond.selects "BitDesk$State" ({ cls := "BitDesk$State", name := "makeEmpty", desc := "(I)V" } : Jvm.MethodName) ({ cls := "BitDesk$State", name := "makeEmpty", desc := "(I)V" } : Jvm.MethodName)) ∈ WS := ws_c3 25 rfl rfl
theorem lk_X4_81 : LkV RX4 81 jX5_makeEmpty 1 := ⟨⟨wd_432, ⟨rfl, (by rw [cwd_nil rfl]; exact wd_435)⟩, wd_97, ⟨by decide +kernel, by decide +kernel⟩, by decide +kernel⟩, wd_433, wd_434⟩
theorem wd_456 : (Jvm.Cond.code ({ cls := "BitDesk$Reader", name := "readEdge", desc := "(LBitDesk$State;)V" } : Jvm.MethodName) prog_6_method_6_code (5 : Nat) (Option.none : Option Jvm.ClassFile.FieldType)) ∈ WS := ws_c3 47 rfl rfl
theorem wd_453 : (Jvm.Cond.methodLink "BitDesk$Reader" (86 : Nat) ({ cls := "BitDesk$Reader", name := "readEdge", desc := "(LBitDesk$State;)V" } : Jvm.MethodName)) ∈ WS := ws_c3 44 rfl rfl
theorem wd_455 : (Jvm.Cond.instanceMethod ({ cls := "BitDesk$Reader", name := "readEdge", desc := "(LBitDesk$State;)V" } : Jvm.MethodName)) ∈ WS := ws_c3 46 rfl rfl
theorem wd_10 : (Jvm.Cond.selects "BitDesk$Reader" (⟨"BitDesk$Reader", "readEdge", "(LBitDesk$State;)V"⟩ : Jvm.MethodName) (⟨"BitDesk$Reader", "readEdge", "(LBitDesk$State;)V"⟩ : Jvm.MethodName)) ∈ WS := ws_c0 14 rfl rfl
theorem lk_X4_86 : LkV RX4 86 jX4_readEdge 1 := ⟨⟨wd_453, ⟨rfl, (by rw [cwd_nil rfl]; exact wd_456)⟩, wd_96, ⟨by decide +kernel, by decide +kernel⟩, by decide +kernel⟩, wd_455, wd_10⟩
theorem wd_461 : (Jvm.Cond.code ({ cls := "BitDesk$Reader", name := "readRow", desc := "(LBitDesk$State;)V" } : Jvm.MethodName) prog_6_method_7_code (4 : Nat) (Option.none : Option Jvm.ClassFile.FieldType)) ∈ WS := ws_c3 52 rfl rfl
theorem wd_458 : (Jvm.Cond.methodLink "BitDesk$Reader" (91 : Nat) ({ cls := "BitDesk$Reader", name := "readRow", desc := "(LBitDesk$State;)V" } : Jvm.MethodName)) ∈ WS := ws_c3 49 rfl rfl
theorem wd_460 : (Jvm.Cond.instanceMethod ({ cls := "BitDesk$Reader", name := "readRow", desc := "(LBitDesk$State;)V" } : Jvm.MethodName)) ∈ WS := ws_c3 51 rfl rfl
theorem wd_11 : (Jvm.Cond.selects "BitDesk$Reader" (⟨"BitDesk$Reader", "readRow", "(LBitDesk$State;)V"⟩ : Jvm.MethodName) (⟨"BitDesk$Reader", "readRow", "(LBitDesk$State;)V"⟩ : Jvm.MethodName)) ∈ WS := ws_c0 15 rfl rfl
theorem lk_X4_91 : LkV RX4 91 jX4_readRow 1 := ⟨⟨wd_458, ⟨rfl, (by rw [cwd_nil rfl]; exact wd_461)⟩, wd_96, ⟨by decide +kernel, by decide +kernel⟩, by decide +kernel⟩, wd_460, wd_11⟩
theorem wd_470 : (Jvm.Cond.code ({ cls := "BitDesk$Reader", name := "readFill", desc := "(LBitDesk$State;)V" } : Jvm.MethodName) prog_6_method_9_code (4 : Nat) (Option.none : Option Jvm.ClassFile.FieldType)) ∈ WS := ws_c3 61 rfl rfl
theorem wd_467 : (Jvm.Cond.methodLink "BitDesk$Reader" (96 : Nat) ({ cls := "BitDesk$Reader", name := "readFill", desc := "(LBitDesk$State;)V" } : Jvm.MethodName)) ∈ WS := ws_c3 58 rfl rfl
theorem wd_469 : (Jvm.Cond.instanceMethod ({ cls := "BitDesk$Reader", name := "readFill", desc := "(LBitDesk$State;)V" } : Jvm.MethodName)) ∈ WS := ws_c3 60 rfl rfl
theorem wd_13 : (Jvm.Cond.selects "BitDesk$Reader" (⟨"BitDesk$Reader", "readFill", "(LBitDesk$State;)V"⟩ : Jvm.MethodName) (⟨"BitDesk$Reader", "readFill", "(LBitDesk$State;)V"⟩ : Jvm.MethodName)) ∈ WS := ws_c0 17 rfl rfl
theorem lk_X4_96 : LkV RX4 96 jX4_readFill 1 := ⟨⟨wd_467, ⟨rfl, (by rw [cwd_nil rfl]; exact wd_470)⟩, wd_96, ⟨by decide +kernel, by decide +kernel⟩, by decide +kernel⟩, wd_469, wd_13⟩
theorem wd_486 : (Jvm.Cond.code ({ cls := "BitDesk$Reader", name := "readKeep", desc := "(LBitDesk$State;)V" } : Jvm.MethodName) prog_6_method_8_code (3 : Nat) (Option.none : Option Jvm.ClassFile.FieldType)) ∈ WS := ws_c3 77 rfl rfl
theorem wd_483 : (Jvm.Cond.methodLink "BitDesk$Reader" (101 : Nat) ({ cls := "BitDesk$Reader", name := "readKeep", desc := "(LBitDesk$State;)V" } : Jvm.MethodName)) ∈ WS := ws_c3 74 rfl rfl
theorem wd_485 : (Jvm.Cond.instanceMethod ({ cls := "BitDesk$Reader", name := "readKeep", desc := "(LBitDesk$State;)V" } : Jvm.MethodName)) ∈ WS := ws_c3 76 rfl rfl
theorem wd_15 : (Jvm.Cond.selects "BitDesk$Reader" (⟨"BitDesk$Reader", "readKeep", "(LBitDesk$State;)V"⟩ : Jvm.MethodName) (⟨"BitDesk$Reader", "readKeep", "(LBitDesk$State;)V"⟩ : Jvm.MethodName)) ∈ WS := ws_c0 19 rfl rfl
theorem lk_X4_101 : LkV RX4 101 jX4_readKeep 1 := ⟨⟨wd_483, ⟨rfl, (by rw [cwd_nil rfl]; exact wd_486)⟩, wd_96, ⟨by decide +kernel, by decide +kernel⟩, by decide +kernel⟩, wd_485, wd_15⟩
theorem fp_X4_106 : FP RX4 106 5 2 (.int) false := ⟨RX5, TX5, 5, tyX5, "BitDesk$State", rfl, by decide, rfl, ⟨(Or.inl rfl), fun h => nomatch h⟩, (Or.inr ⟨_, wn_f16⟩), inW5, tyX5_ok, nmX5, rfl, tyX5_ok 2 (by decide), rfl⟩
theorem fk_X4_108 : FK RX4 108 2 0 (.array .int) := ⟨RX2, TX2, 5, "BitDesk$Matrix", rfl, by decide, rfl, (Or.inl rfl), (Or.inr ⟨_, wn_f3⟩), inW2⟩
theorem wd_465 : (Jvm.Cond.code ({ cls := "BitDesk$Reader", name := "takeBits", desc := "(I)I" } : Jvm.MethodName) prog_6_method_16_code (5 : Nat) (Option.some Jvm.ClassFile.FieldType.int)) ∈ WS := ws_c3 56 rfl rfl
theorem wd_462 : (Jvm.Cond.methodLink "BitDesk$Reader" (111 : Nat) ({ cls := "BitDesk$Reader", name := "takeBits", desc := "(I)I" } : Jvm.MethodName)) ∈ WS := ws_c3 53 rfl rfl
theorem wd_464 : (Jvm.Cond.instanceMethod ({ cls := "BitDesk$Reader", name := "takeBits", desc := "(I)I" } : Jvm.MethodName)) ∈ WS := ws_c3 55 rfl rfl
theorem wd_12 : (Jvm.Cond.selects "BitDesk$Reader" (⟨"BitDesk$Reader", "takeBits", "(I)I"⟩ : Jvm.MethodName) (⟨"BitDesk$Reader", "takeBits", "(I)I"⟩ : Jvm.MethodName)) ∈ WS := ws_c0 16 rfl rfl
theorem lk_X4_111 : LkV RX4 111 jX4_takeBits 1 := ⟨⟨wd_462, ⟨rfl, (by rw [cwd_nil rfl]; exact wd_465)⟩, wd_96, ⟨by decide +kernel, by decide +kernel⟩, by decide +kernel⟩, wd_464, wd_12⟩
theorem fk_X4_115 : FK RX4 115 2 1 (.boolean) := ⟨RX2, TX2, 5, "BitDesk$Matrix", rfl, by decide, rfl, (Or.inl rfl), (Or.inr ⟨_, wn_f5⟩), inW2⟩
theorem fp_X4_115 : FP RX4 115 2 1 (.boolean) false := ⟨RX2, TX2, 5, tyX2, "BitDesk$Matrix", rfl, by decide, rfl, ⟨(Or.inl rfl), fun h => nomatch h⟩, (Or.inr ⟨_, wn_f5⟩), inW2, tyX2_ok, nmX2, rfl, tyX2_ok 1 (by decide), rfl⟩
theorem wd_474 : (Jvm.Cond.code ({ cls := "BitDesk$Reader", name := "rowOfKind", desc := "(II)I" } : Jvm.MethodName) prog_6_method_10_code (3 : Nat) (Option.some Jvm.ClassFile.FieldType.int)) ∈ WS := ws_c3 65 rfl rfl
theorem wd_471 : (Jvm.Cond.methodLink "BitDesk$Reader" (119 : Nat) ({ cls := "BitDesk$Reader", name := "rowOfKind", desc := "(II)I" } : Jvm.MethodName)) ∈ WS := ws_c3 62 rfl rfl
theorem wd_473 : (Jvm.Cond.instanceMethod ({ cls := "BitDesk$Reader", name := "rowOfKind", desc := "(II)I" } : Jvm.MethodName)) ∈ WS := ws_c3 64 rfl rfl
theorem wd_14 : (Jvm.Cond.selects "BitDesk$Reader" (⟨"BitDesk$Reader", "rowOfKind", "(II)I"⟩ : Jvm.MethodName) (⟨"BitDesk$Reader", "rowOfKind", "(II)I"⟩ : Jvm.MethodName)) ∈ WS := ws_c0 18 rfl rfl
theorem lk_X4_119 : LkV RX4 119 jX4_rowOfKind 2 := ⟨⟨wd_471, ⟨rfl, (by rw [cwd_nil rfl]; exact wd_474)⟩, wd_96, ⟨by decide +kernel, by decide +kernel⟩, by decide +kernel⟩, wd_473, wd_14⟩
theorem lk_X4_126 : LkSN RX4 126 jX6_lowest 1 := ⟨⟨⟨_, wn_m0⟩, ⟨rfl, (by rw [cwd_nil rfl]; exact wd_479)⟩, wd_95, ⟨by decide +kernel, by decide +kernel⟩, by decide +kernel⟩, wd_478⟩
theorem wd_363 : (Jvm.Cond.code ({ cls := "BitDesk$Reader", name := "skipSpaces", desc := "()V" } : Jvm.MethodName) prog_6_method_17_code (1 : Nat) (Option.none : Option Jvm.ClassFile.FieldType)) ∈ WS := ws_c3 0 rfl rfl
theorem wd_360 : (Jvm.Cond.methodLink "BitDesk$Reader" (133 : Nat) ({ cls := "BitDesk$Reader", name := "skipSpaces", desc := "()V" } : Jvm.MethodName)) ∈ WS := ws_c2 237 rfl rfl
theorem wd_362 : (Jvm.Cond.instanceMethod ({ cls := "BitDesk$Reader", name := "skipSpaces", desc := "()V" } : Jvm.MethodName)) ∈ WS := ws_c2 239 rfl rfl
theorem wd_2 : (Jvm.Cond.selects "BitDesk$Reader" (⟨"BitDesk$Reader", "skipSpaces", "()V"⟩ : Jvm.MethodName) (⟨"BitDesk$Reader", "skipSpaces", "()V"⟩ : Jvm.MethodName)) ∈ WS := ws_c0 6 rfl rfl
theorem lk_X4_133 : LkV RX4 133 jX4_skipSpaces 0 := ⟨⟨wd_360, ⟨rfl, (by rw [cwd_nil rfl]; exact wd_363)⟩, wd_96, ⟨by decide +kernel, by decide +kernel⟩, by decide +kernel⟩, wd_362, wd_2⟩
theorem fk_X4_21 : FK RX4 21 4 2 (.int) := ⟨RX4, TX4, 7, "BitDesk$Reader", rfl, by decide, rfl, (Or.inl rfl), (Or.inl wd_131), inW4⟩
theorem fk_X4_24 : FK RX4 24 4 4 (.int) := ⟨RX4, TX4, 7, "BitDesk$Reader", rfl, by decide, rfl, (Or.inl rfl), (Or.inl wd_133), inW4⟩
theorem fp_X4_70 : FP RX4 70 4 3 (.int) false := ⟨RX4, TX4, 7, tyX4, "BitDesk$Reader", rfl, by decide, rfl, ⟨(Or.inl rfl), fun h => nomatch h⟩, (Or.inl wd_132), inW4, tyX4_ok, nmX4, rfl, tyX4_ok 3 (by decide), rfl⟩
theorem wd_428 : (Jvm.Cond.code ({ cls := "BitDesk$Reader", name := "takeDigits", desc := "()V" } : Jvm.MethodName) prog_6_method_14_code (1 : Nat) (Option.none : Option Jvm.ClassFile.FieldType)) ∈ WS := ws_c3 19 rfl rfl
theorem wd_425 : (Jvm.Cond.methodLink "BitDesk$Reader" (136 : Nat) ({ cls := "BitDesk$Reader", name := "takeDigits", desc := "()V" } : Jvm.MethodName)) ∈ WS := ws_c3 16 rfl rfl
theorem wd_427 : (Jvm.Cond.instanceMethod ({ cls := "BitDesk$Reader", name := "takeDigits", desc := "()V" } : Jvm.MethodName)) ∈ WS := ws_c3 18 rfl rfl
theorem wd_6 : (Jvm.Cond.selects "BitDesk$Reader" (⟨"BitDesk$Reader", "takeDigits", "()V"⟩ : Jvm.MethodName) (⟨"BitDesk$Reader", "takeDigits", "()V"⟩ : Jvm.MethodName)) ∈ WS := ws_c0 10 rfl rfl
theorem lk_X4_136 : LkV RX4 136 jX4_takeDigits 0 := ⟨⟨wd_425, ⟨rfl, (by rw [cwd_nil rfl]; exact wd_428)⟩, wd_96, ⟨by decide +kernel, by decide +kernel⟩, by decide +kernel⟩, wd_427, wd_6⟩
theorem wd_429 : (Jvm.Cond.methodLink "BitDesk$Reader" (139 : Nat) ({ cls := "java/lang/Math", name := "min", desc := "(II)I" } : Jvm.MethodName)) ∈ WS := ws_c3 20 rfl rfl
theorem lk_X4_139 : LkS RX4 139 jJ9_min_7cf53 2 := ⟨⟨wd_429, ⟨rfl, (by rw [cwd_nil rfl]; exact wd_431)⟩, wd_107, ⟨by decide +kernel, by decide +kernel⟩, by decide +kernel⟩, wd_430⟩
theorem wd_372 : (Jvm.Cond.code ({ cls := "java/lang/String", name := "length", desc := "()I" } : Jvm.MethodName) prog_26_method_54_code (1 : Nat) (Option.some Jvm.ClassFile.FieldType.int)) ∈ WS := ws_c2 167 rfl rfl
theorem wd_369 : (Jvm.Cond.methodLink "BitDesk$Reader" (144 : Nat) ({ cls := "java/lang/String", name := "length", desc := "()I" } : Jvm.MethodName)) ∈ WS := ws_c3 6 rfl rfl
theorem wd_370 : (Jvm.Cond.instanceMethod ({ cls := "java/lang/String", name := "length", desc := "()I" } : Jvm.MethodName)) ∈ WS := ws_c2 165 rfl rfl
theorem wd_371 : (Jvm.Cond.selects "java/lang/String" ({ cls := "java/lang/String", name := "length", desc := "()I" } : Jvm.MethodName) ({ cls := "java/lang/String", name := "length", desc := "()I" } : Jvm.MethodName)) ∈ WS := ws_c2 166 rfl rfl
theorem lk_X4_144 : LkV RX4 144 jJ0_length_8abf5 0 := ⟨⟨wd_369, ⟨rfl, (by rw [cwd_nil rfl]; exact wd_372)⟩, wd_103, ⟨by decide +kernel, by decide +kernel⟩, by decide +kernel⟩, wd_370, wd_371⟩
theorem wd_382 : (Jvm.Cond.code ({ cls := "java/lang/String", name := "charAt", desc := "(I)C" } : Jvm.MethodName) prog_26_method_56_code (2 : Nat) (Option.some Jvm.ClassFile.FieldType.char)) ∈ WS := ws_c2 177 rfl rfl
theorem wd_379 : (Jvm.Cond.methodLink "BitDesk$Reader" (149 : Nat) ({ cls := "java/lang/String", name := "charAt", desc := "(I)C" } : Jvm.MethodName)) ∈ WS := ws_c3 7 rfl rfl
theorem wd_380 : (Jvm.Cond.instanceMethod ({ cls := "java/lang/String", name := "charAt", desc := "(I)C" } : Jvm.MethodName)) ∈ WS := ws_c2 175 rfl rfl
theorem wd_381 : (Jvm.Cond.selects "java/lang/String" ({ cls := "java/lang/String", name := "charAt", desc := "(I)C" } : Jvm.MethodName) ({ cls := "java/lang/String", name := "charAt", desc := "(I)C" } : Jvm.MethodName)) ∈ WS := ws_c2 176 rfl rfl
theorem lk_X4_149 : LkV RX4 149 jJ0_charAt_5068e 1 := ⟨⟨wd_379, ⟨rfl, (by rw [cwd_nil rfl]; exact wd_382)⟩, wd_103, ⟨by decide +kernel, by decide +kernel⟩, by decide +kernel⟩, wd_380, wd_381⟩
theorem wd_160 : (Jvm.Cond.methodLink "BitDesk$State" (3 : Nat) ({ cls := "java/lang/Object", name := "<init>", desc := "()V" } : Jvm.MethodName)) ∈ WS := ws_c1 76 rfl rfl
theorem wd_161 : (Jvm.Cond.classLink "BitDesk$State" (9 : Nat) "BitDesk$Matrix") ∈ WS := ws_c1 77 rfl rfl
theorem wd_191 : (Jvm.Cond.fieldLink "BitDesk$State" (11 : Nat) "BitDesk$State" "slots" "[LBitDesk$Matrix;") ∈ WS := ws_c1 107 rfl rfl
theorem fp_X5_11 : FP RX5 11 5 0 (.array (.object "BitDesk$Matrix")) true := ⟨RX5, TX5, 5, tyX5, "BitDesk$State", rfl, by decide, rfl, ⟨(Or.inl rfl), fun h => ⟨rfl, rfl⟩⟩, (Or.inl wd_191), inW5, tyX5_ok, nmX5, rfl, tyX5_ok 0 (by decide), rfl⟩
theorem fk_X5_11 : FK RX5 11 5 0 (.array (.object "BitDesk$Matrix")) := ⟨RX5, TX5, 5, "BitDesk$State", rfl, by decide, rfl, (Or.inl rfl), (Or.inl wd_191), inW5⟩
theorem wd_163 : (Jvm.Cond.instantiable "BitDesk$Matrix" (5 : Nat)) ∈ WS := ws_c1 79 rfl rfl
theorem wd_166 : (Jvm.Cond.code ({ cls := "BitDesk$Matrix", name := "<init>", desc := "()V" } : Jvm.MethodName) prog_4_method_1_code (1 : Nat) (Option.none : Option Jvm.ClassFile.FieldType)) ∈ WS := ws_c1 82 rfl rfl
theorem wd_164 : (Jvm.Cond.methodLink "BitDesk$State" (17 : Nat) ({ cls := "BitDesk$Matrix", name := "<init>", desc := "()V" } : Jvm.MethodName)) ∈ WS := ws_c1 80 rfl rfl
theorem wd_165 : (Jvm.Cond.instanceMethod ({ cls := "BitDesk$Matrix", name := "<init>", desc := "()V" } : Jvm.MethodName)) ∈ WS := ws_c1 81 rfl rfl
theorem lk_X5_17 : LkI RX5 17 jX2_init 0 := ⟨⟨wd_164, ⟨rfl, (by rw [cwd_nil rfl]; exact wd_166)⟩, wd_98, ⟨by decide +kernel, by decide +kernel⟩, by decide +kernel⟩, wd_165, rfl, rfl⟩
theorem wd_194 : (Jvm.Cond.fieldLink "BitDesk$State" (18 : Nat) "BitDesk$State" "size" "I") ∈ WS := ws_c1 110 rfl rfl
theorem fp_X5_18 : FP RX5 18 5 1 (.int) false := ⟨RX5, TX5, 5, tyX5, "BitDesk$State", rfl, by decide, rfl, ⟨(Or.inl rfl), fun h => nomatch h⟩, (Or.inl wd_194), inW5, tyX5_ok, nmX5, rfl, tyX5_ok 1 (by decide), rfl⟩
theorem wd_198 : (Jvm.Cond.fieldLink "BitDesk$State" (22 : Nat) "BitDesk$State" "block" "I") ∈ WS := ws_c1 114 rfl rfl
theorem fp_X5_22 : FP RX5 22 5 2 (.int) false := ⟨RX5, TX5, 5, tyX5, "BitDesk$State", rfl, by decide, rfl, ⟨(Or.inl rfl), fun h => nomatch h⟩, (Or.inl wd_198), inW5, tyX5_ok, nmX5, rfl, tyX5_ok 2 (by decide), rfl⟩
theorem wd_439 : (Jvm.Cond.code ({ cls := "BitDesk$Matrix", name := "makeEmpty", desc := "()V" } : Jvm.MethodName) prog_4_method_2_code (2 : Nat) (Option.none : Option Jvm.ClassFile.FieldType)) ∈ WS := ws_c3 30 rfl rfl
theorem wd_436 : (Jvm.Cond.methodLink "BitDesk$State" (25 : Nat) ({ cls := "BitDesk$Matrix", name := "makeEmpty", desc := "()V" } : Jvm.MethodName)) ∈ WS := ws_c3 27 rfl rfl
theorem wd_437 : (Jvm.Cond.instanceMethod ({ cls := "BitDesk$Matrix", name := "makeEmpty", desc := "()V" } : Jvm.MethodName)) ∈ WS := ws_c3 28 rfl rfl
theorem wd_438 : (Jvm.Cond.selects "BitDesk$Matrix" ({ cls := "BitDesk$Matrix", name := "makeEmpty", desc := "()V" } : Jvm.MethodName) ({ cls := "BitDesk$Matrix", name := "makeEmpty", desc := "()V" } : Jvm.MethodName)) ∈ WS := ws_c3 29 rfl rfl
theorem lk_X5_25 : LkV RX5 25 jX2_makeEmpty 0 := ⟨⟨wd_436, ⟨rfl, (by rw [cwd_nil rfl]; exact wd_439)⟩, wd_98, ⟨by decide +kernel, by decide +kernel⟩, by decide +kernel⟩, wd_437, wd_438⟩
theorem wd_202 : (Jvm.Cond.fieldLink "BitDesk$State" (28 : Nat) "BitDesk$State" "entriesMade" "I") ∈ WS := ws_c1 118 rfl rfl
theorem fp_X5_28 : FP RX5 28 5 3 (.int) false := ⟨RX5, TX5, 5, tyX5, "BitDesk$State", rfl, by decide, rfl, ⟨(Or.inl rfl), fun h => nomatch h⟩, (Or.inl wd_202), inW5, tyX5_ok, nmX5, rfl, tyX5_ok 3 (by decide), rfl⟩
theorem wd_204 : (Jvm.Cond.fieldLink "BitDesk$State" (31 : Nat) "BitDesk$State" "entriesTaken" "I") ∈ WS := ws_c1 120 rfl rfl
theorem fp_X5_31 : FP RX5 31 5 4 (.int) false := ⟨RX5, TX5, 5, tyX5, "BitDesk$State", rfl, by decide, rfl, ⟨(Or.inl rfl), fun h => nomatch h⟩, (Or.inl wd_204), inW5, tyX5_ok, nmX5, rfl, tyX5_ok 4 (by decide), rfl⟩
theorem wd_507 : (Jvm.Cond.code ({ cls := "BitDesk$Matrix", name := "takeFrom", desc := "(LBitDesk$Matrix;)V" } : Jvm.MethodName) prog_4_method_3_code (2 : Nat) (Option.none : Option Jvm.ClassFile.FieldType)) ∈ WS := ws_c2 30 rfl rfl
theorem wd_504 : (Jvm.Cond.methodLink "BitDesk$State" (34 : Nat) ({ cls := "BitDesk$Matrix", name := "takeFrom", desc := "(LBitDesk$Matrix;)V" } : Jvm.MethodName)) ∈ WS := ws_c2 27 rfl rfl
theorem wd_505 : (Jvm.Cond.instanceMethod ({ cls := "BitDesk$Matrix", name := "takeFrom", desc := "(LBitDesk$Matrix;)V" } : Jvm.MethodName)) ∈ WS := ws_c2 28 rfl rfl
theorem wd_506 : (Jvm.Cond.selects "BitDesk$Matrix" ({ cls := "BitDesk$Matrix", name := "takeFrom", desc := "(LBitDesk$Matrix;)V" } : Jvm.MethodName) ({ cls := "BitDesk$Matrix", name := "takeFrom", desc := "(LBitDesk$Matrix;)V" } : Jvm.MethodName)) ∈ WS := ws_c2 29 rfl rfl
theorem lk_X5_34 : LkV RX5 34 jX2_takeFrom 1 := ⟨⟨wd_504, ⟨rfl, (by rw [cwd_nil rfl]; exact wd_507)⟩, wd_98, ⟨by decide +kernel, by decide +kernel⟩, by decide +kernel⟩, wd_505, wd_506⟩
theorem fk_X5_18 : FK RX5 18 5 1 (.int) := ⟨RX5, TX5, 5, "BitDesk$State", rfl, by decide, rfl, (Or.inl rfl), (Or.inl wd_194), inW5⟩
theorem fk_X5_22 : FK RX5 22 5 2 (.int) := ⟨RX5, TX5, 5, "BitDesk$State", rfl, by decide, rfl, (Or.inl rfl), (Or.inl wd_198), inW5⟩
theorem fk_X5_28 : FK RX5 28 5 3 (.int) := ⟨RX5, TX5, 5, "BitDesk$State", rfl, by decide, rfl, (Or.inl rfl), (Or.inl wd_202), inW5⟩
theorem fk_X5_31 : FK RX5 31 5 4 (.int) := ⟨RX5, TX5, 5, "BitDesk$State", rfl, by decide, rfl, (Or.inl rfl), (Or.inl wd_204), inW5⟩
theorem wd_120 : (Jvm.Cond.methodLink "BitDesk" (1 : Nat) ({ cls := "java/lang/Object", name := "<init>", desc := "()V" } : Jvm.MethodName)) ∈ WS := ws_c1 36 rfl rfl
theorem wd_123 : (Jvm.Cond.classLink "BitDesk" (7 : Nat) "BitDesk$Reader") ∈ WS := ws_c1 39 rfl rfl
theorem wd_124 : (Jvm.Cond.instantiable "BitDesk$Reader" (7 : Nat)) ∈ WS := ws_c1 40 rfl rfl
theorem wd_127 : (Jvm.Cond.code ({ cls := "BitDesk$Reader", name := "<init>", desc := "()V" } : Jvm.MethodName) prog_6_method_1_code (1 : Nat) (Option.none : Option Jvm.ClassFile.FieldType)) ∈ WS := ws_c1 43 rfl rfl
theorem wd_125 : (Jvm.Cond.methodLink "BitDesk" (9 : Nat) ({ cls := "BitDesk$Reader", name := "<init>", desc := "()V" } : Jvm.MethodName)) ∈ WS := ws_c1 41 rfl rfl
theorem wd_126 : (Jvm.Cond.instanceMethod ({ cls := "BitDesk$Reader", name := "<init>", desc := "()V" } : Jvm.MethodName)) ∈ WS := ws_c1 42 rfl rfl
theorem lk_X6_9 : LkI RX6 9 jX4_init 0 := ⟨⟨wd_125, ⟨rfl, (by rw [cwd_nil rfl]; exact wd_127)⟩, wd_96, ⟨by decide +kernel, by decide +kernel⟩, by decide +kernel⟩, wd_126, rfl, rfl⟩
theorem wd_289 : (Jvm.Cond.fieldLink "BitDesk" (10 : Nat) "BitDesk" "reader" "LBitDesk$Reader;") ∈ WS := ws_c1 205 rfl rfl
theorem fp_X6_10 : FP RX6 10 6 0 (.object "BitDesk$Reader") true := ⟨RX6, TX6, 15, tyX6, "BitDesk", rfl, by decide, rfl, ⟨(Or.inl rfl), fun h => ⟨rfl, rfl⟩⟩, (Or.inl wd_289), inW6, tyX6_ok, nmX6, rfl, tyX6_ok 0 (by decide), rfl⟩
theorem wd_155 : (Jvm.Cond.classLink "BitDesk" (16 : Nat) "BitDesk$State") ∈ WS := ws_c1 71 rfl rfl
theorem wd_156 : (Jvm.Cond.instantiable "BitDesk$State" (5 : Nat)) ∈ WS := ws_c1 72 rfl rfl
theorem wd_159 : (Jvm.Cond.code ({ cls := "BitDesk$State", name := "<init>", desc := "()V" } : Jvm.MethodName) prog_7_method_1_code (2 : Nat) (Option.none : Option Jvm.ClassFile.FieldType)) ∈ WS := ws_c1 75 rfl rfl
theorem wd_157 : (Jvm.Cond.methodLink "BitDesk" (18 : Nat) ({ cls := "BitDesk$State", name := "<init>", desc := "()V" } : Jvm.MethodName)) ∈ WS := ws_c1 73 rfl rfl
theorem wd_158 : (Jvm.Cond.instanceMethod ({ cls := "BitDesk$State", name := "<init>", desc := "()V" } : Jvm.MethodName)) ∈ WS := ws_c1 74 rfl rfl
theorem lk_X6_18 : LkI RX6 18 jX5_init 0 := ⟨⟨wd_157, ⟨rfl, (by rw [cwd_nil rfl]; exact wd_159)⟩, wd_97, ⟨by decide +kernel, by decide +kernel⟩, by decide +kernel⟩, wd_158, rfl, rfl⟩
theorem wd_290 : (Jvm.Cond.fieldLink "BitDesk" (19 : Nat) "BitDesk" "state" "LBitDesk$State;") ∈ WS := ws_c1 206 rfl rfl
theorem fp_X6_19 : FP RX6 19 6 1 (.object "BitDesk$State") true := ⟨RX6, TX6, 15, tyX6, "BitDesk", rfl, by decide, rfl, ⟨(Or.inl rfl), fun h => ⟨rfl, rfl⟩⟩, (Or.inl wd_290), inW6, tyX6_ok, nmX6, rfl, tyX6_ok 1 (by decide), rfl⟩
theorem wd_291 : (Jvm.Cond.fieldLink "BitDesk" (23 : Nat) "BitDesk" "described" "LBitDesk$State;") ∈ WS := ws_c1 207 rfl rfl
theorem fp_X6_23 : FP RX6 23 6 2 (.object "BitDesk$State") true := ⟨RX6, TX6, 15, tyX6, "BitDesk", rfl, by decide, rfl, ⟨(Or.inl rfl), fun h => ⟨rfl, rfl⟩⟩, (Or.inl wd_291), inW6, tyX6_ok, nmX6, rfl, tyX6_ok 2 (by decide), rfl⟩
theorem wd_292 : (Jvm.Cond.fieldLink "BitDesk" (26 : Nat) "BitDesk" "past" "[LBitDesk$State;") ∈ WS := ws_c1 208 rfl rfl
theorem fp_X6_26 : FP RX6 26 6 3 (.array (.object "BitDesk$State")) true := ⟨RX6, TX6, 15, tyX6, "BitDesk", rfl, by decide, rfl, ⟨(Or.inl rfl), fun h => ⟨rfl, rfl⟩⟩, (Or.inl wd_292), inW6, tyX6_ok, nmX6, rfl, tyX6_ok 3 (by decide), rfl⟩
theorem fk_X6_26 : FK RX6 26 6 3 (.array (.object "BitDesk$State")) := ⟨RX6, TX6, 15, "BitDesk", rfl, by decide, rfl, (Or.inl rfl), (Or.inl wd_292), inW6⟩
theorem wd_295 : (Jvm.Cond.fieldLink "BitDesk" (30 : Nat) "BitDesk" "snapshots" "[LBitDesk$State;") ∈ WS := ws_c1 211 rfl rfl
theorem fp_X6_30 : FP RX6 30 6 6 (.array (.object "BitDesk$State")) true := ⟨RX6, TX6, 15, tyX6, "BitDesk", rfl, by decide, rfl, ⟨(Or.inl rfl), fun h => ⟨rfl, rfl⟩⟩, (Or.inl wd_295), inW6, tyX6_ok, nmX6, rfl, tyX6_ok 6 (by decide), rfl⟩
theorem fk_X6_30 : FK RX6 30 6 6 (.array (.object "BitDesk$State")) := ⟨RX6, TX6, 15, "BitDesk", rfl, by decide, rfl, (Or.inl rfl), (Or.inl wd_295), inW6⟩
theorem wd_296 : (Jvm.Cond.fieldLink "BitDesk" (33 : Nat) "BitDesk" "isSaved" "[Z") ∈ WS := ws_c1 212 rfl rfl
theorem fp_X6_33 : FP RX6 33 6 7 (.array .boolean) true := ⟨RX6, TX6, 15, tyX6, "BitDesk", rfl, by decide, rfl, ⟨(Or.inl rfl), fun h => ⟨rfl, rfl⟩⟩, (Or.inl wd_296), inW6, tyX6_ok, nmX6, rfl, tyX6_ok 7 (by decide), rfl⟩
theorem wd_218 : (Jvm.Cond.classLink "BitDesk" (37 : Nat) "BitDesk$Closure") ∈ WS := ws_c1 134 rfl rfl
theorem wd_297 : (Jvm.Cond.fieldLink "BitDesk" (39 : Nat) "BitDesk" "closures" "[LBitDesk$Closure;") ∈ WS := ws_c1 213 rfl rfl
theorem fp_X6_39 : FP RX6 39 6 8 (.array (.object "BitDesk$Closure")) true := ⟨RX6, TX6, 15, tyX6, "BitDesk", rfl, by decide, rfl, ⟨(Or.inl rfl), fun h => ⟨rfl, rfl⟩⟩, (Or.inl wd_297), inW6, tyX6_ok, nmX6, rfl, tyX6_ok 8 (by decide), rfl⟩
theorem fk_X6_39 : FK RX6 39 6 8 (.array (.object "BitDesk$Closure")) := ⟨RX6, TX6, 15, "BitDesk", rfl, by decide, rfl, (Or.inl rfl), (Or.inl wd_297), inW6⟩
theorem wd_220 : (Jvm.Cond.instantiable "BitDesk$Closure" (2 : Nat)) ∈ WS := ws_c1 136 rfl rfl
theorem wd_223 : (Jvm.Cond.code ({ cls := "BitDesk$Closure", name := "<init>", desc := "()V" } : Jvm.MethodName) prog_2_method_1_code (1 : Nat) (Option.none : Option Jvm.ClassFile.FieldType)) ∈ WS := ws_c1 139 rfl rfl
theorem wd_221 : (Jvm.Cond.methodLink "BitDesk" (43 : Nat) ({ cls := "BitDesk$Closure", name := "<init>", desc := "()V" } : Jvm.MethodName)) ∈ WS := ws_c1 137 rfl rfl
theorem wd_222 : (Jvm.Cond.instanceMethod ({ cls := "BitDesk$Closure", name := "<init>", desc := "()V" } : Jvm.MethodName)) ∈ WS := ws_c1 138 rfl rfl
theorem lk_X6_43 : LkI RX6 43 jX0_init 0 := ⟨⟨wd_221, ⟨rfl, (by rw [cwd_nil rfl]; exact wd_223)⟩, wd_99, ⟨by decide +kernel, by decide +kernel⟩, by decide +kernel⟩, wd_222, rfl, rfl⟩
theorem wd_235 : (Jvm.Cond.classLink "BitDesk" (44 : Nat) "BitDesk$Multiplier") ∈ WS := ws_c1 151 rfl rfl
theorem wd_236 : (Jvm.Cond.instantiable "BitDesk$Multiplier" (8 : Nat)) ∈ WS := ws_c1 152 rfl rfl
theorem wd_239 : (Jvm.Cond.code ({ cls := "BitDesk$Multiplier", name := "<init>", desc := "()V" } : Jvm.MethodName) prog_5_method_1_code (1 : Nat) (Option.none : Option Jvm.ClassFile.FieldType)) ∈ WS := ws_c1 155 rfl rfl
theorem wd_237 : (Jvm.Cond.methodLink "BitDesk" (46 : Nat) ({ cls := "BitDesk$Multiplier", name := "<init>", desc := "()V" } : Jvm.MethodName)) ∈ WS := ws_c1 153 rfl rfl
theorem wd_238 : (Jvm.Cond.instanceMethod ({ cls := "BitDesk$Multiplier", name := "<init>", desc := "()V" } : Jvm.MethodName)) ∈ WS := ws_c1 154 rfl rfl
theorem lk_X6_46 : LkI RX6 46 jX3_init 0 := ⟨⟨wd_237, ⟨rfl, (by rw [cwd_nil rfl]; exact wd_239)⟩, wd_100, ⟨by decide +kernel, by decide +kernel⟩, by decide +kernel⟩, wd_238, rfl, rfl⟩
theorem wd_298 : (Jvm.Cond.fieldLink "BitDesk" (47 : Nat) "BitDesk" "multiplier" "LBitDesk$Multiplier;") ∈ WS := ws_c1 214 rfl rfl
theorem fp_X6_47 : FP RX6 47 6 9 (.object "BitDesk$Multiplier") true := ⟨RX6, TX6, 15, tyX6, "BitDesk", rfl, by decide, rfl, ⟨(Or.inl rfl), fun h => ⟨rfl, rfl⟩⟩, (Or.inl wd_298), inW6, tyX6_ok, nmX6, rfl, tyX6_ok 9 (by decide), rfl⟩
theorem wd_268 : (Jvm.Cond.classLink "BitDesk" (51 : Nat) "BitDesk$Elimination") ∈ WS := ws_c1 184 rfl rfl
theorem wd_269 : (Jvm.Cond.instantiable "BitDesk$Elimination" (4 : Nat)) ∈ WS := ws_c1 185 rfl rfl
theorem wd_272 : (Jvm.Cond.code ({ cls := "BitDesk$Elimination", name := "<init>", desc := "()V" } : Jvm.MethodName) prog_3_method_1_code (1 : Nat) (Option.none : Option Jvm.ClassFile.FieldType)) ∈ WS := ws_c1 188 rfl rfl
theorem wd_270 : (Jvm.Cond.methodLink "BitDesk" (53 : Nat) ({ cls := "BitDesk$Elimination", name := "<init>", desc := "()V" } : Jvm.MethodName)) ∈ WS := ws_c1 186 rfl rfl
theorem wd_271 : (Jvm.Cond.instanceMethod ({ cls := "BitDesk$Elimination", name := "<init>", desc := "()V" } : Jvm.MethodName)) ∈ WS := ws_c1 187 rfl rfl
theorem lk_X6_53 : LkI RX6 53 jX1_init 0 := ⟨⟨wd_270, ⟨rfl, (by rw [cwd_nil rfl]; exact wd_272)⟩, wd_101, ⟨by decide +kernel, by decide +kernel⟩, by decide +kernel⟩, wd_271, rfl, rfl⟩
theorem wd_299 : (Jvm.Cond.fieldLink "BitDesk" (54 : Nat) "BitDesk" "elimination" "LBitDesk$Elimination;") ∈ WS := ws_c1 215 rfl rfl
theorem fp_X6_54 : FP RX6 54 6 10 (.object "BitDesk$Elimination") true := ⟨RX6, TX6, 15, tyX6, "BitDesk", rfl, by decide, rfl, ⟨(Or.inl rfl), fun h => ⟨rfl, rfl⟩⟩, (Or.inl wd_299), inW6, tyX6_ok, nmX6, rfl, tyX6_ok 10 (by decide), rfl⟩
theorem wd_300 : (Jvm.Cond.fieldLink "BitDesk" (58 : Nat) "BitDesk" "made" "[I") ∈ WS := ws_c1 216 rfl rfl
theorem fp_X6_58 : FP RX6 58 6 11 (.array .int) true := ⟨RX6, TX6, 15, tyX6, "BitDesk", rfl, by decide, rfl, ⟨(Or.inl rfl), fun h => ⟨rfl, rfl⟩⟩, (Or.inl wd_300), inW6, tyX6_ok, nmX6, rfl, tyX6_ok 11 (by decide), rfl⟩
theorem wd_301 : (Jvm.Cond.fieldLink "BitDesk" (62 : Nat) "BitDesk" "levels" "[I") ∈ WS := ws_c1 217 rfl rfl
theorem fp_X6_62 : FP RX6 62 6 12 (.array .int) true := ⟨RX6, TX6, 15, tyX6, "BitDesk", rfl, by decide, rfl, ⟨(Or.inl rfl), fun h => ⟨rfl, rfl⟩⟩, (Or.inl wd_301), inW6, tyX6_ok, nmX6, rfl, tyX6_ok 12 (by decide), rfl⟩
theorem wd_302 : (Jvm.Cond.fieldLink "BitDesk" (65 : Nat) "BitDesk" "output" "[I") ∈ WS := ws_c1 218 rfl rfl
theorem fp_X6_65 : FP RX6 65 6 13 (.array .int) true := ⟨RX6, TX6, 15, tyX6, "BitDesk", rfl, by decide, rfl, ⟨(Or.inl rfl), fun h => ⟨rfl, rfl⟩⟩, (Or.inl wd_302), inW6, tyX6_ok, nmX6, rfl, tyX6_ok 13 (by decide), rfl⟩
theorem fk_X6_10 : FK RX6 10 6 0 (.object "BitDesk$Reader") := ⟨RX6, TX6, 15, "BitDesk", rfl, by decide, rfl, (Or.inl rfl), (Or.inl wd_289), inW6⟩
theorem wd_342 : (Jvm.Cond.code ({ cls := "BitDesk$Reader", name := "addBytes", desc := "(J)I" } : Jvm.MethodName) prog_6_method_2_code (6 : Nat) (Option.some Jvm.ClassFile.FieldType.int)) ∈ WS := ws_c2 219 rfl rfl
theorem wd_339 : (Jvm.Cond.methodLink "BitDesk" (68 : Nat) ({ cls := "BitDesk$Reader", name := "addBytes", desc := "(J)I" } : Jvm.MethodName)) ∈ WS := ws_c2 216 rfl rfl
theorem wd_340 : (Jvm.Cond.instanceMethod ({ cls := "BitDesk$Reader", name := "addBytes", desc := "(J)I" } : Jvm.MethodName)) ∈ WS := ws_c2 217 rfl rfl
theorem wd_341 : (Jvm.Cond.selects "BitDesk$Reader" ({ cls := "BitDesk$Reader", name := "addBytes", desc := "(J)I" } : Jvm.MethodName) ({ cls := "BitDesk$Reader", name := "addBytes", desc := "(J)I" } : Jvm.MethodName)) ∈ WS := ws_c2 218 rfl rfl
theorem lk_X6_68 : LkV RX6 68 jX4_addBytes 1 := ⟨⟨wd_339, ⟨rfl, (by rw [cwd_nil rfl]; exact wd_342)⟩, wd_96, ⟨by decide +kernel, by decide +kernel⟩, by decide +kernel⟩, wd_340, wd_341⟩
theorem fk_X6_23 : FK RX6 23 6 2 (.object "BitDesk$State") := ⟨RX6, TX6, 15, "BitDesk", rfl, by decide, rfl, (Or.inl rfl), (Or.inl wd_291), inW6⟩
theorem wd_351 : (Jvm.Cond.code ({ cls := "BitDesk$Reader", name := "readInto", desc := "(LBitDesk$State;)V" } : Jvm.MethodName) prog_6_method_3_code (3 : Nat) (Option.none : Option Jvm.ClassFile.FieldType)) ∈ WS := ws_c2 228 rfl rfl
theorem wd_348 : (Jvm.Cond.methodLink "BitDesk" (72 : Nat) ({ cls := "BitDesk$Reader", name := "readInto", desc := "(LBitDesk$State;)V" } : Jvm.MethodName)) ∈ WS := ws_c2 225 rfl rfl
theorem wd_349 : (Jvm.Cond.instanceMethod ({ cls := "BitDesk$Reader", name := "readInto", desc := "(LBitDesk$State;)V" } : Jvm.MethodName)) ∈ WS := ws_c2 226 rfl rfl
theorem wd_350 : (Jvm.Cond.selects "BitDesk$Reader" ({ cls := "BitDesk$Reader", name := "readInto", desc := "(LBitDesk$State;)V" } : Jvm.MethodName) ({ cls := "BitDesk$Reader", name := "readInto", desc := "(LBitDesk$State;)V" } : Jvm.MethodName)) ∈ WS := ws_c2 227 rfl rfl
theorem lk_X6_72 : LkV RX6 72 jX4_readInto 1 := ⟨⟨wd_348, ⟨rfl, (by rw [cwd_nil rfl]; exact wd_351)⟩, wd_96, ⟨by decide +kernel, by decide +kernel⟩, by decide +kernel⟩, wd_349, wd_350⟩
theorem fk_X6_76 : FK RX6 76 4 5 (.int) := ⟨RX4, TX4, 7, "BitDesk$Reader", rfl, by decide, rfl, (Or.inl rfl), (Or.inr ⟨_, wn_f1⟩), inW4⟩
theorem fk_X6_80 : FK RX6 80 4 6 (.int) := ⟨RX4, TX4, 7, "BitDesk$Reader", rfl, by decide, rfl, (Or.inl rfl), (Or.inr ⟨_, wn_f2⟩), inW4⟩
theorem wd_499 : (Jvm.Cond.code ({ cls := "BitDesk", name := "replaceState", desc := "(LBitDesk$State;)V" } : Jvm.MethodName) prog_1_method_68_code (2 : Nat) (Option.none : Option Jvm.ClassFile.FieldType)) ∈ WS := ws_c2 116 rfl rfl
theorem wd_496 : (Jvm.Cond.methodLink "BitDesk" (83 : Nat) ({ cls := "BitDesk", name := "replaceState", desc := "(LBitDesk$State;)V" } : Jvm.MethodName)) ∈ WS := ws_c2 113 rfl rfl
theorem wd_498 : (Jvm.Cond.instanceMethod ({ cls := "BitDesk", name := "replaceState", desc := "(LBitDesk$State;)V" } : Jvm.MethodName)) ∈ WS := ws_c2 115 rfl rfl
theorem wd_16 : (Jvm.Cond.selects "BitDesk" (⟨"BitDesk", "replaceState", "(LBitDesk$State;)V"⟩ : Jvm.MethodName) (⟨"BitDesk", "replaceState", "(LBitDesk$State;)V"⟩ : Jvm.MethodName)) ∈ WS := ws_c0 3 rfl rfl
theorem lk_X6_83 : LkV RX6 83 jX6_replaceState 1 := ⟨⟨wd_496, ⟨rfl, (by rw [cwd_nil rfl]; exact wd_499)⟩, wd_95, ⟨by decide +kernel, by decide +kernel⟩, by decide +kernel⟩, wd_498, wd_16⟩
theorem wd_303 : (Jvm.Cond.fieldLink "BitDesk" (86 : Nat) "BitDesk" "outputLength" "I") ∈ WS := ws_c1 219 rfl rfl
theorem fp_X6_86 : FP RX6 86 6 14 (.int) false := ⟨RX6, TX6, 15, tyX6, "BitDesk", rfl, by decide, rfl, ⟨(Or.inl rfl), fun h => nomatch h⟩, (Or.inl wd_303), inW6, tyX6_ok, nmX6, rfl, tyX6_ok 14 (by decide), rfl⟩
theorem fk_X6_19 : FK RX6 19 6 1 (.object "BitDesk$State") := ⟨RX6, TX6, 15, "BitDesk", rfl, by decide, rfl, (Or.inl rfl), (Or.inl wd_290), inW6⟩
theorem fk_X6_89 : FK RX6 89 5 1 (.int) := ⟨RX5, TX5, 5, "BitDesk$State", rfl, by decide, rfl, (Or.inl rfl), (Or.inr ⟨_, wn_f13⟩), inW5⟩
theorem fk_X6_92 : FK RX6 92 4 4 (.int) := ⟨RX4, TX4, 7, "BitDesk$Reader", rfl, by decide, rfl, (Or.inl rfl), (Or.inr ⟨_, wn_f0⟩), inW4⟩
theorem wd_543 : (Jvm.Cond.code ({ cls := "BitDesk", name := "needRange", desc := "(III)V" } : Jvm.MethodName) prog_1_method_64_code (4 : Nat) (Option.none : Option Jvm.ClassFile.FieldType)) ∈ WS := ws_c2 45 rfl rfl
theorem wd_540 : (Jvm.Cond.methodLink "BitDesk" (95 : Nat) ({ cls := "BitDesk", name := "needRange", desc := "(III)V" } : Jvm.MethodName)) ∈ WS := ws_c2 42 rfl rfl
theorem wd_542 : (Jvm.Cond.instanceMethod ({ cls := "BitDesk", name := "needRange", desc := "(III)V" } : Jvm.MethodName)) ∈ WS := ws_c2 44 rfl rfl
theorem wd_18 : (Jvm.Cond.selects "BitDesk" (⟨"BitDesk", "needRange", "(III)V"⟩ : Jvm.MethodName) (⟨"BitDesk", "needRange", "(III)V"⟩ : Jvm.MethodName)) ∈ WS := ws_c0 1 rfl rfl
theorem lk_X6_95 : LkV RX6 95 jX6_needRange 3 := ⟨⟨wd_540, ⟨rfl, (by rw [cwd_nil rfl]; exact wd_543)⟩, wd_95, ⟨by decide +kernel, by decide +kernel⟩, by decide +kernel⟩, wd_542, wd_18⟩
theorem fk_X6_99 : FK RX6 99 5 2 (.int) := ⟨RX5, TX5, 5, "BitDesk$State", rfl, by decide, rfl, (Or.inl rfl), (Or.inr ⟨_, wn_f17⟩), inW5⟩
theorem wd_613 : (Jvm.Cond.code ({ cls := "BitDesk", name := "keptSlots", desc := "()I" } : Jvm.MethodName) prog_1_method_66_code (3 : Nat) (Option.some Jvm.ClassFile.FieldType.int)) ∈ WS := ws_c4 74 rfl rfl
theorem wd_610 : (Jvm.Cond.methodLink "BitDesk" (102 : Nat) ({ cls := "BitDesk", name := "keptSlots", desc := "()I" } : Jvm.MethodName)) ∈ WS := ws_c4 71 rfl rfl
theorem wd_612 : (Jvm.Cond.instanceMethod ({ cls := "BitDesk", name := "keptSlots", desc := "()I" } : Jvm.MethodName)) ∈ WS := ws_c4 73 rfl rfl
theorem wd_20 : (Jvm.Cond.selects "BitDesk" (⟨"BitDesk", "keptSlots", "()I"⟩ : Jvm.MethodName) (⟨"BitDesk", "keptSlots", "()I"⟩ : Jvm.MethodName)) ∈ WS := ws_c0 24 rfl rfl
theorem lk_X6_102 : LkV RX6 102 jX6_keptSlots 0 := ⟨⟨wd_610, ⟨rfl, (by rw [cwd_nil rfl]; exact wd_613)⟩, wd_95, ⟨by decide +kernel, by decide +kernel⟩, by decide +kernel⟩, wd_612, wd_20⟩
theorem wd_294 : (Jvm.Cond.fieldLink "BitDesk" (106 : Nat) "BitDesk" "pastCount" "I") ∈ WS := ws_c1 210 rfl rfl
theorem fk_X6_106 : FK RX6 106 6 5 (.int) := ⟨RX6, TX6, 15, "BitDesk", rfl, by decide, rfl, (Or.inl rfl), (Or.inl wd_294), inW6⟩
theorem wd_625 : (Jvm.Cond.code ({ cls := "BitDesk", name := "needCell", desc := "(III)V" } : Jvm.MethodName) prog_1_method_63_code (4 : Nat) (Option.none : Option Jvm.ClassFile.FieldType)) ∈ WS := ws_c4 138 rfl rfl
theorem wd_622 : (Jvm.Cond.methodLink "BitDesk" (109 : Nat) ({ cls := "BitDesk", name := "needCell", desc := "(III)V" } : Jvm.MethodName)) ∈ WS := ws_c4 135 rfl rfl
theorem wd_624 : (Jvm.Cond.instanceMethod ({ cls := "BitDesk", name := "needCell", desc := "(III)V" } : Jvm.MethodName)) ∈ WS := ws_c4 137 rfl rfl
theorem wd_21 : (Jvm.Cond.selects "BitDesk" (⟨"BitDesk", "needCell", "(III)V"⟩ : Jvm.MethodName) (⟨"BitDesk", "needCell", "(III)V"⟩ : Jvm.MethodName)) ∈ WS := ws_c0 26 rfl rfl
theorem lk_X6_109 : LkV RX6 109 jX6_needCell 3 := ⟨⟨wd_622, ⟨rfl, (by rw [cwd_nil rfl]; exact wd_625)⟩, wd_95, ⟨by decide +kernel, by decide +kernel⟩, by decide +kernel⟩, wd_624, wd_21⟩
theorem wd_658 : (Jvm.Cond.code ({ cls := "BitDesk", name := "rowsOf", desc := "(I)[I" } : Jvm.MethodName) prog_1_method_65_code (2 : Nat) (Option.some (Jvm.ClassFile.FieldType.array Jvm.ClassFile.FieldType.int))) ∈ WS := ws_c4 58 rfl rfl
theorem wd_655 : (Jvm.Cond.methodLink "BitDesk" (112 : Nat) ({ cls := "BitDesk", name := "rowsOf", desc := "(I)[I" } : Jvm.MethodName)) ∈ WS := ws_c4 55 rfl rfl
theorem wd_657 : (Jvm.Cond.instanceMethod ({ cls := "BitDesk", name := "rowsOf", desc := "(I)[I" } : Jvm.MethodName)) ∈ WS := ws_c4 57 rfl rfl
theorem wd_25 : (Jvm.Cond.selects "BitDesk" (⟨"BitDesk", "rowsOf", "(I)[I"⟩ : Jvm.MethodName) (⟨"BitDesk", "rowsOf", "(I)[I"⟩ : Jvm.MethodName)) ∈ WS := ws_c0 23 rfl rfl
theorem lk_X6_112 : LkV RX6 112 jX6_rowsOf 1 := ⟨⟨wd_655, ⟨rfl, (by rw [cwd_nil rfl]; exact wd_658)⟩, wd_95, ⟨by decide +kernel, by decide +kernel⟩, by decide +kernel⟩, wd_657, wd_25⟩
theorem wd_659 : (Jvm.Cond.methodLink "BitDesk" (116 : Nat) ({ cls := "BitDesk", name := "hasOne", desc := "(II)Z" } : Jvm.MethodName)) ∈ WS := ws_c4 144 rfl rfl
theorem lk_X6_116 : LkS RX6 116 jX6_hasOne 2 := ⟨⟨wd_659, ⟨rfl, (by rw [cwd_nil rfl]; exact wd_661)⟩, wd_95, ⟨by decide +kernel, by decide +kernel⟩, by decide +kernel⟩, wd_660⟩
theorem wd_629 : (Jvm.Cond.code ({ cls := "BitDesk", name := "needRow", desc := "(II)V" } : Jvm.MethodName) prog_1_method_62_code (3 : Nat) (Option.none : Option Jvm.ClassFile.FieldType)) ∈ WS := ws_c4 49 rfl rfl
theorem wd_626 : (Jvm.Cond.methodLink "BitDesk" (120 : Nat) ({ cls := "BitDesk", name := "needRow", desc := "(II)V" } : Jvm.MethodName)) ∈ WS := ws_c4 46 rfl rfl
theorem wd_628 : (Jvm.Cond.instanceMethod ({ cls := "BitDesk", name := "needRow", desc := "(II)V" } : Jvm.MethodName)) ∈ WS := ws_c4 48 rfl rfl
theorem wd_22 : (Jvm.Cond.selects "BitDesk" (⟨"BitDesk", "needRow", "(II)V"⟩ : Jvm.MethodName) (⟨"BitDesk", "needRow", "(II)V"⟩ : Jvm.MethodName)) ∈ WS := ws_c0 21 rfl rfl
theorem lk_X6_120 : LkV RX6 120 jX6_needRow 2 := ⟨⟨wd_626, ⟨rfl, (by rw [cwd_nil rfl]; exact wd_629)⟩, wd_95, ⟨by decide +kernel, by decide +kernel⟩, by decide +kernel⟩, wd_628, wd_22⟩
theorem wd_671 : (Jvm.Cond.code ({ cls := "BitDesk", name := "unsigned", desc := "(I)J" } : Jvm.MethodName) prog_1_method_84_code (1 : Nat) (Option.some Jvm.ClassFile.FieldType.long)) ∈ WS := ws_c4 61 rfl rfl
theorem wd_669 : (Jvm.Cond.methodLink "BitDesk" (124 : Nat) ({ cls := "BitDesk", name := "unsigned", desc := "(I)J" } : Jvm.MethodName)) ∈ WS := ws_c4 59 rfl rfl
theorem wd_670 : (Jvm.Cond.static ({ cls := "BitDesk", name := "unsigned", desc := "(I)J" } : Jvm.MethodName)) ∈ WS := ws_c4 60 rfl rfl
theorem lk_X6_124 : LkS RX6 124 jX6_unsigned 1 := ⟨⟨wd_669, ⟨rfl, (by rw [cwd_nil rfl]; exact wd_671)⟩, wd_95, ⟨by decide +kernel, by decide +kernel⟩, by decide +kernel⟩, wd_670⟩
theorem wd_680 : (Jvm.Cond.methodLink "BitDesk" (128 : Nat) ({ cls := "BitDesk", name := "lowest", desc := "(I)I" } : Jvm.MethodName)) ∈ WS := ws_c4 194 rfl rfl
theorem lk_X6_128 : LkS RX6 128 jX6_lowest 1 := ⟨⟨wd_680, ⟨rfl, (by rw [cwd_nil rfl]; exact wd_479)⟩, wd_95, ⟨by decide +kernel, by decide +kernel⟩, by decide +kernel⟩, wd_478⟩
theorem wd_681 : (Jvm.Cond.methodLink "BitDesk" (132 : Nat) ({ cls := "java/lang/Integer", name := "bitCount", desc := "(I)I" } : Jvm.MethodName)) ∈ WS := ws_c4 165 rfl rfl
theorem lk_X6_132 : LkS RX6 132 jJ6_bitCount_0f7a4 1 := ⟨⟨wd_681, ⟨rfl, (by rw [cwd_nil rfl]; exact wd_683)⟩, wd_114, ⟨by decide +kernel, by decide +kernel⟩, by decide +kernel⟩, wd_682⟩
theorem wd_1018 : (Jvm.Cond.code ({ cls := "BitDesk", name := "remember", desc := "()V" } : Jvm.MethodName) prog_1_method_67_code (1 : Nat) (Option.none : Option Jvm.ClassFile.FieldType)) ∈ WS := ws_c4 142 rfl rfl
theorem wd_1015 : (Jvm.Cond.methodLink "BitDesk" (222 : Nat) ({ cls := "BitDesk", name := "remember", desc := "()V" } : Jvm.MethodName)) ∈ WS := ws_c4 139 rfl rfl
theorem wd_1017 : (Jvm.Cond.instanceMethod ({ cls := "BitDesk", name := "remember", desc := "()V" } : Jvm.MethodName)) ∈ WS := ws_c4 141 rfl rfl
theorem wd_37 : (Jvm.Cond.selects "BitDesk" (⟨"BitDesk", "remember", "()V"⟩ : Jvm.MethodName) (⟨"BitDesk", "remember", "()V"⟩ : Jvm.MethodName)) ∈ WS := ws_c0 27 rfl rfl
theorem lk_X6_222 : LkV RX6 222 jX6_remember 0 := ⟨⟨wd_1015, ⟨rfl, (by rw [cwd_nil rfl]; exact wd_1018)⟩, wd_95, ⟨by decide +kernel, by decide +kernel⟩, by decide +kernel⟩, wd_1017, wd_37⟩
theorem fk_X6_225 : FK RX6 225 5 0 (.array (.object "BitDesk$Matrix")) := ⟨RX5, TX5, 5, "BitDesk$State", rfl, by decide, rfl, (Or.inl rfl), (Or.inr ⟨_, wn_f11⟩), inW5⟩
theorem fk_X6_229 : FK RX6 229 2 0 (.array .int) := ⟨RX2, TX2, 5, "BitDesk$Matrix", rfl, by decide, rfl, (Or.inl rfl), (Or.inr ⟨_, wn_f4⟩), inW2⟩
theorem wd_1020 : (Jvm.Cond.methodLink "BitDesk" (234 : Nat) ({ cls := "BitDesk$Matrix", name := "noteLooked", desc := "(I)V" } : Jvm.MethodName)) ∈ WS := ws_c4 147 rfl rfl
theorem lk_X6_234 : LkV RX6 234 jX2_noteLooked 1 := ⟨⟨wd_1020, ⟨rfl, (by rw [cwd_nil rfl]; exact wd_495)⟩, wd_98, ⟨by decide +kernel, by decide +kernel⟩, by decide +kernel⟩, wd_493, wd_494⟩
theorem wd_785 : (Jvm.Cond.code ({ cls := "BitDesk", name := "closureOf", desc := "(I)LBitDesk$Closure;" } : Jvm.MethodName) prog_1_method_70_code (3 : Nat) (Option.some (Jvm.ClassFile.FieldType.object "BitDesk$Closure"))) ∈ WS := ws_c4 151 rfl rfl
theorem wd_782 : (Jvm.Cond.methodLink "BitDesk" (162 : Nat) ({ cls := "BitDesk", name := "closureOf", desc := "(I)LBitDesk$Closure;" } : Jvm.MethodName)) ∈ WS := ws_c4 148 rfl rfl
theorem wd_784 : (Jvm.Cond.instanceMethod ({ cls := "BitDesk", name := "closureOf", desc := "(I)LBitDesk$Closure;" } : Jvm.MethodName)) ∈ WS := ws_c4 150 rfl rfl
theorem wd_28 : (Jvm.Cond.selects "BitDesk" (⟨"BitDesk", "closureOf", "(I)LBitDesk$Closure;"⟩ : Jvm.MethodName) (⟨"BitDesk", "closureOf", "(I)LBitDesk$Closure;"⟩ : Jvm.MethodName)) ∈ WS := ws_c0 28 rfl rfl
theorem lk_X6_162 : LkV RX6 162 jX6_closureOf 1 := ⟨⟨wd_782, ⟨rfl, (by rw [cwd_nil rfl]; exact wd_785)⟩, wd_95, ⟨by decide +kernel, by decide +kernel⟩, by decide +kernel⟩, wd_784, wd_28⟩
theorem wd_895 : (Jvm.Cond.code ({ cls := "BitDesk$Closure", name := "nodesTo", desc := "(II)I" } : Jvm.MethodName) prog_2_method_3_code (3 : Nat) (Option.some Jvm.ClassFile.FieldType.int)) ∈ WS := ws_c4 161 rfl rfl
theorem wd_892 : (Jvm.Cond.methodLink "BitDesk" (192 : Nat) ({ cls := "BitDesk$Closure", name := "nodesTo", desc := "(II)I" } : Jvm.MethodName)) ∈ WS := ws_c4 158 rfl rfl
theorem wd_893 : (Jvm.Cond.instanceMethod ({ cls := "BitDesk$Closure", name := "nodesTo", desc := "(II)I" } : Jvm.MethodName)) ∈ WS := ws_c4 159 rfl rfl
theorem wd_894 : (Jvm.Cond.selects "BitDesk$Closure" ({ cls := "BitDesk$Closure", name := "nodesTo", desc := "(II)I" } : Jvm.MethodName) ({ cls := "BitDesk$Closure", name := "nodesTo", desc := "(II)I" } : Jvm.MethodName)) ∈ WS := ws_c4 160 rfl rfl
theorem lk_X6_192 : LkV RX6 192 jX0_nodesTo 2 := ⟨⟨wd_892, ⟨rfl, (by rw [cwd_nil rfl]; exact wd_895)⟩, wd_99, ⟨by decide +kernel, by decide +kernel⟩, by decide +kernel⟩, wd_893, wd_894⟩
theorem wd_1024 : (Jvm.Cond.code ({ cls := "BitDesk$Closure", name := "extend", desc := "(III)I" } : Jvm.MethodName) prog_2_method_6_code (7 : Nat) (Option.some Jvm.ClassFile.FieldType.int)) ∈ WS := ws_c4 174 rfl rfl
theorem wd_1021 : (Jvm.Cond.methodLink "BitDesk" (237 : Nat) ({ cls := "BitDesk$Closure", name := "extend", desc := "(III)I" } : Jvm.MethodName)) ∈ WS := ws_c4 171 rfl rfl
theorem wd_1022 : (Jvm.Cond.instanceMethod ({ cls := "BitDesk$Closure", name := "extend", desc := "(III)I" } : Jvm.MethodName)) ∈ WS := ws_c4 172 rfl rfl
theorem wd_1023 : (Jvm.Cond.selects "BitDesk$Closure" ({ cls := "BitDesk$Closure", name := "extend", desc := "(III)I" } : Jvm.MethodName) ({ cls := "BitDesk$Closure", name := "extend", desc := "(III)I" } : Jvm.MethodName)) ∈ WS := ws_c4 173 rfl rfl
theorem lk_X6_237 : LkV RX6 237 jX0_extend 3 := ⟨⟨wd_1021, ⟨rfl, (by rw [cwd_nil rfl]; exact wd_1024)⟩, wd_99, ⟨by decide +kernel, by decide +kernel⟩, by decide +kernel⟩, wd_1022, wd_1023⟩
theorem wd_1029 : (Jvm.Cond.code ({ cls := "BitDesk$Closure", name := "mend", desc := "(I[II)I" } : Jvm.MethodName) prog_2_method_7_code (7 : Nat) (Option.some Jvm.ClassFile.FieldType.int)) ∈ WS := ws_c4 183 rfl rfl
theorem wd_1026 : (Jvm.Cond.methodLink "BitDesk" (240 : Nat) ({ cls := "BitDesk$Closure", name := "mend", desc := "(I[II)I" } : Jvm.MethodName)) ∈ WS := ws_c4 180 rfl rfl
theorem wd_1027 : (Jvm.Cond.instanceMethod ({ cls := "BitDesk$Closure", name := "mend", desc := "(I[II)I" } : Jvm.MethodName)) ∈ WS := ws_c4 181 rfl rfl
theorem wd_1028 : (Jvm.Cond.selects "BitDesk$Closure" ({ cls := "BitDesk$Closure", name := "mend", desc := "(I[II)I" } : Jvm.MethodName) ({ cls := "BitDesk$Closure", name := "mend", desc := "(I[II)I" } : Jvm.MethodName)) ∈ WS := ws_c4 182 rfl rfl
theorem lk_X6_240 : LkV RX6 240 jX0_mend 3 := ⟨⟨wd_1026, ⟨rfl, (by rw [cwd_nil rfl]; exact wd_1029)⟩, wd_99, ⟨by decide +kernel, by decide +kernel⟩, by decide +kernel⟩, wd_1027, wd_1028⟩
theorem wd_1040 : (Jvm.Cond.code ({ cls := "BitDesk", name := "noteChange", desc := "(I)V" } : Jvm.MethodName) prog_1_method_72_code (2 : Nat) (Option.none : Option Jvm.ClassFile.FieldType)) ∈ WS := ws_c4 198 rfl rfl
theorem wd_1037 : (Jvm.Cond.methodLink "BitDesk" (244 : Nat) ({ cls := "BitDesk", name := "noteChange", desc := "(I)V" } : Jvm.MethodName)) ∈ WS := ws_c4 195 rfl rfl
theorem wd_1039 : (Jvm.Cond.instanceMethod ({ cls := "BitDesk", name := "noteChange", desc := "(I)V" } : Jvm.MethodName)) ∈ WS := ws_c4 197 rfl rfl
theorem wd_38 : (Jvm.Cond.selects "BitDesk" (⟨"BitDesk", "noteChange", "(I)V"⟩ : Jvm.MethodName) (⟨"BitDesk", "noteChange", "(I)V"⟩ : Jvm.MethodName)) ∈ WS := ws_c0 29 rfl rfl
theorem lk_X6_244 : LkV RX6 244 jX6_noteChange 1 := ⟨⟨wd_1037, ⟨rfl, (by rw [cwd_nil rfl]; exact wd_1040)⟩, wd_95, ⟨by decide +kernel, by decide +kernel⟩, by decide +kernel⟩, wd_1039, wd_38⟩
theorem wd_633 : (Jvm.Cond.code ({ cls := "BitDesk", name := "needSlot", desc := "(I)V" } : Jvm.MethodName) prog_1_method_60_code (2 : Nat) (Option.none : Option Jvm.ClassFile.FieldType)) ∈ WS := ws_c4 25 rfl rfl
theorem wd_630 : (Jvm.Cond.methodLink "BitDesk" (141 : Nat) ({ cls := "BitDesk", name := "needSlot", desc := "(I)V" } : Jvm.MethodName)) ∈ WS := ws_c4 22 rfl rfl
theorem wd_632 : (Jvm.Cond.instanceMethod ({ cls := "BitDesk", name := "needSlot", desc := "(I)V" } : Jvm.MethodName)) ∈ WS := ws_c4 24 rfl rfl
theorem wd_23 : (Jvm.Cond.selects "BitDesk" (⟨"BitDesk", "needSlot", "(I)V"⟩ : Jvm.MethodName) (⟨"BitDesk", "needSlot", "(I)V"⟩ : Jvm.MethodName)) ∈ WS := ws_c0 20 rfl rfl
theorem lk_X6_141 : LkV RX6 141 jX6_needSlot 1 := ⟨⟨wd_630, ⟨rfl, (by rw [cwd_nil rfl]; exact wd_633)⟩, wd_95, ⟨by decide +kernel, by decide +kernel⟩, by decide +kernel⟩, wd_632, wd_23⟩
theorem wd_1052 : (Jvm.Cond.code ({ cls := "BitDesk", name := "store", desc := "([II)I" } : Jvm.MethodName) prog_1_method_71_code (3 : Nat) (Option.some Jvm.ClassFile.FieldType.int)) ∈ WS := ws_c4 217 rfl rfl
theorem wd_1049 : (Jvm.Cond.methodLink "BitDesk" (247 : Nat) ({ cls := "BitDesk", name := "store", desc := "([II)I" } : Jvm.MethodName)) ∈ WS := ws_c4 214 rfl rfl
theorem wd_1051 : (Jvm.Cond.instanceMethod ({ cls := "BitDesk", name := "store", desc := "([II)I" } : Jvm.MethodName)) ∈ WS := ws_c4 216 rfl rfl
theorem wd_39 : (Jvm.Cond.selects "BitDesk" (⟨"BitDesk", "store", "([II)I"⟩ : Jvm.MethodName) (⟨"BitDesk", "store", "([II)I"⟩ : Jvm.MethodName)) ∈ WS := ws_c0 30 rfl rfl
theorem lk_X6_247 : LkV RX6 247 jX6_store 2 := ⟨⟨wd_1049, ⟨rfl, (by rw [cwd_nil rfl]; exact wd_1052)⟩, wd_95, ⟨by decide +kernel, by decide +kernel⟩, by decide +kernel⟩, wd_1051, wd_39⟩
theorem fk_X6_58 : FK RX6 58 6 11 (.array .int) := ⟨RX6, TX6, 15, "BitDesk", rfl, by decide, rfl, (Or.inl rfl), (Or.inl wd_300), inW6⟩
theorem wd_714 : (Jvm.Cond.methodLink "BitDesk" (149 : Nat) ({ cls := "BitDesk", name := "columnOf", desc := "([III)I" } : Jvm.MethodName)) ∈ WS := ws_c4 226 rfl rfl
theorem lk_X6_149 : LkS RX6 149 jX6_columnOf 3 := ⟨⟨wd_714, ⟨rfl, (by rw [cwd_nil rfl]; exact wd_716)⟩, wd_95, ⟨by decide +kernel, by decide +kernel⟩, by decide +kernel⟩, wd_715⟩
theorem wd_1069 : (Jvm.Cond.code ({ cls := "BitDesk", name := "combined", desc := "(III)I" } : Jvm.MethodName) prog_1_method_81_code (3 : Nat) (Option.some Jvm.ClassFile.FieldType.int)) ∈ WS := ws_c4 234 rfl rfl
theorem wd_1067 : (Jvm.Cond.methodLink "BitDesk" (250 : Nat) ({ cls := "BitDesk", name := "combined", desc := "(III)I" } : Jvm.MethodName)) ∈ WS := ws_c4 232 rfl rfl
theorem wd_1068 : (Jvm.Cond.static ({ cls := "BitDesk", name := "combined", desc := "(III)I" } : Jvm.MethodName)) ∈ WS := ws_c4 233 rfl rfl
theorem lk_X6_250 : LkS RX6 250 jX6_combined 3 := ⟨⟨wd_1067, ⟨rfl, (by rw [cwd_nil rfl]; exact wd_1069)⟩, wd_95, ⟨by decide +kernel, by decide +kernel⟩, by decide +kernel⟩, wd_1068⟩
theorem fk_X6_47 : FK RX6 47 6 9 (.object "BitDesk$Multiplier") := ⟨RX6, TX6, 15, "BitDesk", rfl, by decide, rfl, (Or.inl rfl), (Or.inl wd_298), inW6⟩
theorem wd_1080 : (Jvm.Cond.code ({ cls := "BitDesk$Multiplier", name := "begin", desc := "(LBitDesk$State;Z)V" } : Jvm.MethodName) prog_5_method_2_code (3 : Nat) (Option.none : Option Jvm.ClassFile.FieldType)) ∈ WS := ws_c5 7 rfl rfl
theorem wd_1077 : (Jvm.Cond.methodLink "BitDesk" (253 : Nat) ({ cls := "BitDesk$Multiplier", name := "begin", desc := "(LBitDesk$State;Z)V" } : Jvm.MethodName)) ∈ WS := ws_c5 4 rfl rfl
theorem wd_1078 : (Jvm.Cond.instanceMethod ({ cls := "BitDesk$Multiplier", name := "begin", desc := "(LBitDesk$State;Z)V" } : Jvm.MethodName)) ∈ WS := ws_c5 5 rfl rfl
theorem wd_1079 : (Jvm.Cond.selects "BitDesk$Multiplier" ({ cls := "BitDesk$Multiplier", name := "begin", desc := "(LBitDesk$State;Z)V" } : Jvm.MethodName) ({ cls := "BitDesk$Multiplier", name := "begin", desc := "(LBitDesk$State;Z)V" } : Jvm.MethodName)) ∈ WS := ws_c5 6 rfl rfl
theorem lk_X6_253 : LkV RX6 253 jX3_begin 2 := ⟨⟨wd_1077, ⟨rfl, (by rw [cwd_nil rfl]; exact wd_1080)⟩, wd_100, ⟨by decide +kernel, by decide +kernel⟩, by decide +kernel⟩, wd_1078, wd_1079⟩
theorem wd_1081 : (Jvm.Cond.methodLink "BitDesk" (257 : Nat) ({ cls := "BitDesk$Multiplier", name := "multiply", desc := "([I[I[I)V" } : Jvm.MethodName)) ∈ WS := ws_c5 8 rfl rfl
theorem lk_X6_257 : LkV RX6 257 jX3_multiply 3 := ⟨⟨wd_1081, ⟨rfl, (by rw [cwd_nil rfl]; exact wd_1084)⟩, wd_100, ⟨by decide +kernel, by decide +kernel⟩, by decide +kernel⟩, wd_1082, wd_1083⟩
theorem wd_1102 : (Jvm.Cond.code ({ cls := "BitDesk", name := "noteWork", desc := "()V" } : Jvm.MethodName) prog_1_method_73_code (1 : Nat) (Option.none : Option Jvm.ClassFile.FieldType)) ∈ WS := ws_c5 29 rfl rfl
theorem wd_1099 : (Jvm.Cond.methodLink "BitDesk" (261 : Nat) ({ cls := "BitDesk", name := "noteWork", desc := "()V" } : Jvm.MethodName)) ∈ WS := ws_c5 26 rfl rfl
theorem wd_1101 : (Jvm.Cond.instanceMethod ({ cls := "BitDesk", name := "noteWork", desc := "()V" } : Jvm.MethodName)) ∈ WS := ws_c5 28 rfl rfl
theorem wd_43 : (Jvm.Cond.selects "BitDesk" (⟨"BitDesk", "noteWork", "()V"⟩ : Jvm.MethodName) (⟨"BitDesk", "noteWork", "()V"⟩ : Jvm.MethodName)) ∈ WS := ws_c0 34 rfl rfl
theorem lk_X6_261 : LkV RX6 261 jX6_noteWork 0 := ⟨⟨wd_1099, ⟨rfl, (by rw [cwd_nil rfl]; exact wd_1102)⟩, wd_95, ⟨by decide +kernel, by decide +kernel⟩, by decide +kernel⟩, wd_1101, wd_43⟩
theorem wd_1110 : (Jvm.Cond.constant "BitDesk" (264 : Nat) (1000000 : Int32)) ∈ WS := ws_c5 44 rfl rfl
theorem wd_1114 : (Jvm.Cond.code ({ cls := "BitDesk$Multiplier", name := "raise", desc := "([II)[I" } : Jvm.MethodName) prog_5_method_4_code (7 : Nat) (Option.some (Jvm.ClassFile.FieldType.array Jvm.ClassFile.FieldType.int))) ∈ WS := ws_c5 48 rfl rfl
theorem wd_1111 : (Jvm.Cond.methodLink "BitDesk" (265 : Nat) ({ cls := "BitDesk$Multiplier", name := "raise", desc := "([II)[I" } : Jvm.MethodName)) ∈ WS := ws_c5 45 rfl rfl
theorem wd_1112 : (Jvm.Cond.instanceMethod ({ cls := "BitDesk$Multiplier", name := "raise", desc := "([II)[I" } : Jvm.MethodName)) ∈ WS := ws_c5 46 rfl rfl
theorem wd_1113 : (Jvm.Cond.selects "BitDesk$Multiplier" ({ cls := "BitDesk$Multiplier", name := "raise", desc := "([II)[I" } : Jvm.MethodName) ({ cls := "BitDesk$Multiplier", name := "raise", desc := "([II)[I" } : Jvm.MethodName)) ∈ WS := ws_c5 47 rfl rfl
theorem lk_X6_265 : LkV RX6 265 jX3_raise 2 := ⟨⟨wd_1111, ⟨rfl, (by rw [cwd_nil rfl]; exact wd_1114)⟩, wd_100, ⟨by decide +kernel, by decide +kernel⟩, by decide +kernel⟩, wd_1112, wd_1113⟩
theorem fk_X6_54 : FK RX6 54 6 10 (.object "BitDesk$Elimination") := ⟨RX6, TX6, 15, "BitDesk", rfl, by decide, rfl, (Or.inl rfl), (Or.inl wd_299), inW6⟩
theorem wd_1127 : (Jvm.Cond.code ({ cls := "BitDesk$Elimination", name := "eliminateBesideUnit", desc := "([II)V" } : Jvm.MethodName) prog_3_method_3_code (4 : Nat) (Option.none : Option Jvm.ClassFile.FieldType)) ∈ WS := ws_c5 74 rfl rfl
theorem wd_1124 : (Jvm.Cond.methodLink "BitDesk" (269 : Nat) ({ cls := "BitDesk$Elimination", name := "eliminateBesideUnit", desc := "([II)V" } : Jvm.MethodName)) ∈ WS := ws_c5 71 rfl rfl
theorem wd_1125 : (Jvm.Cond.instanceMethod ({ cls := "BitDesk$Elimination", name := "eliminateBesideUnit", desc := "([II)V" } : Jvm.MethodName)) ∈ WS := ws_c5 72 rfl rfl
theorem wd_1126 : (Jvm.Cond.selects "BitDesk$Elimination" ({ cls := "BitDesk$Elimination", name := "eliminateBesideUnit", desc := "([II)V" } : Jvm.MethodName) ({ cls := "BitDesk$Elimination", name := "eliminateBesideUnit", desc := "([II)V" } : Jvm.MethodName)) ∈ WS := ws_c5 73 rfl rfl
theorem lk_X6_269 : LkV RX6 269 jX1_eliminateBesideUnit 2 := ⟨⟨wd_1124, ⟨rfl, (by rw [cwd_nil rfl]; exact wd_1127)⟩, wd_101, ⟨by decide +kernel, by decide +kernel⟩, by decide +kernel⟩, wd_1125, wd_1126⟩
theorem fk_X6_207 : FK RX6 207 1 3 (.int) := ⟨RX1, TX1, 4, "BitDesk$Elimination", rfl, by decide, rfl, (Or.inl rfl), (Or.inr ⟨_, wn_f25⟩), inW1⟩
theorem fk_X6_273 : FK RX6 273 1 1 (.array .int) := ⟨RX1, TX1, 4, "BitDesk$Elimination", rfl, by decide, rfl, (Or.inl rfl), (Or.inr ⟨_, wn_f24⟩), inW1⟩
theorem fk_X6_166 : FK RX6 166 0 0 (.array .int) := ⟨RX0, TX0, 2, "BitDesk$Closure", rfl, by decide, rfl, (Or.inl rfl), (Or.inr ⟨_, wn_f20⟩), inW0⟩
theorem wd_912 : (Jvm.Cond.methodLink "BitDesk" (276 : Nat) ({ cls := "java/lang/System", name := "arraycopy", desc := "(Ljava/lang/Object;ILjava/lang/Object;II)V" } : Jvm.MethodName)) ∈ WS := ws_c4 218 rfl rfl
theorem wd_1145 : (Jvm.Cond.code ({ cls := "BitDesk", name := "dropNeedless", desc := "([II)V" } : Jvm.MethodName) prog_1_method_80_code (5 : Nat) (Option.none : Option Jvm.ClassFile.FieldType)) ∈ WS := ws_c5 110 rfl rfl
theorem wd_1142 : (Jvm.Cond.methodLink "BitDesk" (282 : Nat) ({ cls := "BitDesk", name := "dropNeedless", desc := "([II)V" } : Jvm.MethodName)) ∈ WS := ws_c5 107 rfl rfl
theorem wd_1144 : (Jvm.Cond.instanceMethod ({ cls := "BitDesk", name := "dropNeedless", desc := "([II)V" } : Jvm.MethodName)) ∈ WS := ws_c5 109 rfl rfl
theorem wd_44 : (Jvm.Cond.selects "BitDesk" (⟨"BitDesk", "dropNeedless", "([II)V"⟩ : Jvm.MethodName) (⟨"BitDesk", "dropNeedless", "([II)V"⟩ : Jvm.MethodName)) ∈ WS := ws_c0 39 rfl rfl
theorem lk_X6_282 : LkV RX6 282 jX6_dropNeedless 2 := ⟨⟨wd_1142, ⟨rfl, (by rw [cwd_nil rfl]; exact wd_1145)⟩, wd_95, ⟨by decide +kernel, by decide +kernel⟩, by decide +kernel⟩, wd_1144, wd_44⟩
theorem wd_1156 : (Jvm.Cond.code ({ cls := "BitDesk", name := "exchanged", desc := "(III)I" } : Jvm.MethodName) prog_1_method_82_code (3 : Nat) (Option.some Jvm.ClassFile.FieldType.int)) ∈ WS := ws_c5 118 rfl rfl
theorem wd_1154 : (Jvm.Cond.methodLink "BitDesk" (285 : Nat) ({ cls := "BitDesk", name := "exchanged", desc := "(III)I" } : Jvm.MethodName)) ∈ WS := ws_c5 116 rfl rfl
theorem wd_1155 : (Jvm.Cond.static ({ cls := "BitDesk", name := "exchanged", desc := "(III)I" } : Jvm.MethodName)) ∈ WS := ws_c5 117 rfl rfl
theorem lk_X6_285 : LkS RX6 285 jX6_exchanged 3 := ⟨⟨wd_1154, ⟨rfl, (by rw [cwd_nil rfl]; exact wd_1156)⟩, wd_95, ⟨by decide +kernel, by decide +kernel⟩, by decide +kernel⟩, wd_1155⟩
theorem fp_X6_288 : FP RX6 288 2 1 (.boolean) false := ⟨RX2, TX2, 5, tyX2, "BitDesk$Matrix", rfl, by decide, rfl, ⟨(Or.inl rfl), fun h => nomatch h⟩, (Or.inr ⟨_, wn_f6⟩), inW2, tyX2_ok, nmX2, rfl, tyX2_ok 1 (by decide), rfl⟩
theorem wd_1041 : (Jvm.Cond.methodLink "BitDesk" (292 : Nat) ({ cls := "BitDesk$Matrix", name := "noteMadeAnew", desc := "(I)V" } : Jvm.MethodName)) ∈ WS := ws_c4 199 rfl rfl
theorem lk_X6_292 : LkV RX6 292 jX2_noteMadeAnew 1 := ⟨⟨wd_1041, ⟨rfl, (by rw [cwd_nil rfl]; exact wd_491)⟩, wd_98, ⟨by decide +kernel, by decide +kernel⟩, by decide +kernel⟩, wd_489, wd_490⟩
theorem fp_X6_99 : FP RX6 99 5 2 (.int) false := ⟨RX5, TX5, 5, tyX5, "BitDesk$State", rfl, by decide, rfl, ⟨(Or.inl rfl), fun h => nomatch h⟩, (Or.inr ⟨_, wn_f17⟩), inW5, tyX5_ok, nmX5, rfl, tyX5_ok 2 (by decide), rfl⟩
theorem fk_X6_288 : FK RX6 288 2 1 (.boolean) := ⟨RX2, TX2, 5, "BitDesk$Matrix", rfl, by decide, rfl, (Or.inl rfl), (Or.inr ⟨_, wn_f6⟩), inW2⟩
theorem fk_X6_295 : FK RX6 295 2 2 (.int) := ⟨RX2, TX2, 5, "BitDesk$Matrix", rfl, by decide, rfl, (Or.inl rfl), (Or.inr ⟨_, wn_f7⟩), inW2⟩
theorem fk_X6_298 : FK RX6 298 2 3 (.int) := ⟨RX2, TX2, 5, "BitDesk$Matrix", rfl, by decide, rfl, (Or.inl rfl), (Or.inr ⟨_, wn_f8⟩), inW2⟩
theorem fk_X6_301 : FK RX6 301 2 4 (.int) := ⟨RX2, TX2, 5, "BitDesk$Matrix", rfl, by decide, rfl, (Or.inl rfl), (Or.inr ⟨_, wn_f9⟩), inW2⟩
theorem fk_X6_304 : FK RX6 304 5 3 (.int) := ⟨RX5, TX5, 5, "BitDesk$State", rfl, by decide, rfl, (Or.inl rfl), (Or.inr ⟨_, wn_f18⟩), inW5⟩
theorem fk_X6_307 : FK RX6 307 5 4 (.int) := ⟨RX5, TX5, 5, "BitDesk$State", rfl, by decide, rfl, (Or.inl rfl), (Or.inr ⟨_, wn_f19⟩), inW5⟩
theorem fp_X6_106 : FP RX6 106 6 5 (.int) false := ⟨RX6, TX6, 15, tyX6, "BitDesk", rfl, by decide, rfl, ⟨(Or.inl rfl), fun h => nomatch h⟩, (Or.inl wd_294), inW6, tyX6_ok, nmX6, rfl, tyX6_ok 5 (by decide), rfl⟩
theorem wd_293 : (Jvm.Cond.fieldLink "BitDesk" (310 : Nat) "BitDesk" "pastNext" "I") ∈ WS := ws_c1 209 rfl rfl
theorem fk_X6_310 : FK RX6 310 6 4 (.int) := ⟨RX6, TX6, 15, "BitDesk", rfl, by decide, rfl, (Or.inl rfl), (Or.inl wd_293), inW6⟩
theorem fp_X6_310 : FP RX6 310 6 4 (.int) false := ⟨RX6, TX6, 15, tyX6, "BitDesk", rfl, by decide, rfl, ⟨(Or.inl rfl), fun h => nomatch h⟩, (Or.inl wd_293), inW6, tyX6_ok, nmX6, rfl, tyX6_ok 4 (by decide), rfl⟩
theorem wd_503 : (Jvm.Cond.code ({ cls := "BitDesk$State", name := "takeFrom", desc := "(LBitDesk$State;)V" } : Jvm.MethodName) prog_7_method_3_code (3 : Nat) (Option.none : Option Jvm.ClassFile.FieldType)) ∈ WS := ws_c2 26 rfl rfl
theorem wd_500 : (Jvm.Cond.methodLink "BitDesk" (313 : Nat) ({ cls := "BitDesk$State", name := "takeFrom", desc := "(LBitDesk$State;)V" } : Jvm.MethodName)) ∈ WS := ws_c2 23 rfl rfl
theorem wd_501 : (Jvm.Cond.instanceMethod ({ cls := "BitDesk$State", name := "takeFrom", desc := "(LBitDesk$State;)V" } : Jvm.MethodName)) ∈ WS := ws_c2 24 rfl rfl
theorem wd_502 : (Jvm.Cond.selects "BitDesk$State" ({ cls := "BitDesk$State", name := "takeFrom", desc := "(LBitDesk$State;)V" } : Jvm.MethodName) ({ cls := "BitDesk$State", name := "takeFrom", desc := "(LBitDesk$State;)V" } : Jvm.MethodName)) ∈ WS := ws_c2 25 rfl rfl
theorem lk_X6_313 : LkV RX6 313 jX5_takeFrom 1 := ⟨⟨wd_500, ⟨rfl, (by rw [cwd_nil rfl]; exact wd_503)⟩, wd_97, ⟨by decide +kernel, by decide +kernel⟩, by decide +kernel⟩, wd_501, wd_502⟩
theorem wd_514 : (Jvm.Cond.code ({ cls := "BitDesk", name := "dropClosures", desc := "()V" } : Jvm.MethodName) prog_1_method_69_code (2 : Nat) (Option.none : Option Jvm.ClassFile.FieldType)) ∈ WS := ws_c2 37 rfl rfl
theorem wd_511 : (Jvm.Cond.methodLink "BitDesk" (316 : Nat) ({ cls := "BitDesk", name := "dropClosures", desc := "()V" } : Jvm.MethodName)) ∈ WS := ws_c2 34 rfl rfl
theorem wd_513 : (Jvm.Cond.instanceMethod ({ cls := "BitDesk", name := "dropClosures", desc := "()V" } : Jvm.MethodName)) ∈ WS := ws_c2 36 rfl rfl
theorem wd_17 : (Jvm.Cond.selects "BitDesk" (⟨"BitDesk", "dropClosures", "()V"⟩ : Jvm.MethodName) (⟨"BitDesk", "dropClosures", "()V"⟩ : Jvm.MethodName)) ∈ WS := ws_c0 0 rfl rfl
theorem lk_X6_316 : LkV RX6 316 jX6_dropClosures 0 := ⟨⟨wd_511, ⟨rfl, (by rw [cwd_nil rfl]; exact wd_514)⟩, wd_95, ⟨by decide +kernel, by decide +kernel⟩, by decide +kernel⟩, wd_513, wd_17⟩
theorem fk_X6_33 : FK RX6 33 6 7 (.array .boolean) := ⟨RX6, TX6, 15, "BitDesk", rfl, by decide, rfl, (Or.inl rfl), (Or.inl wd_296), inW6⟩
theorem wd_634 : (Jvm.Cond.classLink "BitDesk" (319 : Nat) "java/lang/IndexOutOfBoundsException") ∈ WS := ws_c4 26 rfl rfl
theorem wd_653 : (Jvm.Cond.code ({ cls := "BitDesk", name := "needNode", desc := "(I)V" } : Jvm.MethodName) prog_1_method_61_code (2 : Nat) (Option.none : Option Jvm.ClassFile.FieldType)) ∈ WS := ws_c4 53 rfl rfl
theorem wd_650 : (Jvm.Cond.methodLink "BitDesk" (328 : Nat) ({ cls := "BitDesk", name := "needNode", desc := "(I)V" } : Jvm.MethodName)) ∈ WS := ws_c4 50 rfl rfl
theorem wd_652 : (Jvm.Cond.instanceMethod ({ cls := "BitDesk", name := "needNode", desc := "(I)V" } : Jvm.MethodName)) ∈ WS := ws_c4 52 rfl rfl
theorem wd_24 : (Jvm.Cond.selects "BitDesk" (⟨"BitDesk", "needNode", "(I)V"⟩ : Jvm.MethodName) (⟨"BitDesk", "needNode", "(I)V"⟩ : Jvm.MethodName)) ∈ WS := ws_c0 22 rfl rfl
theorem lk_X6_328 : LkV RX6 328 jX6_needNode 1 := ⟨⟨wd_650, ⟨rfl, (by rw [cwd_nil rfl]; exact wd_653)⟩, wd_95, ⟨by decide +kernel, by decide +kernel⟩, by decide +kernel⟩, wd_652, wd_24⟩
theorem wd_544 : (Jvm.Cond.classLink "BitDesk" (331 : Nat) "java/lang/IllegalArgumentException") ∈ WS := ws_c2 46 rfl rfl
theorem wd_1019 : (Jvm.Cond.methodLink "BitDesk" (336 : Nat) ({ cls := "java/lang/Math", name := "min", desc := "(II)I" } : Jvm.MethodName)) ∈ WS := ws_c4 143 rfl rfl
theorem lk_X6_336 : LkS RX6 336 jJ9_min_7cf53 2 := ⟨⟨wd_1019, ⟨rfl, (by rw [cwd_nil rfl]; exact wd_431)⟩, wd_107, ⟨by decide +kernel, by decide +kernel⟩, by decide +kernel⟩, wd_430⟩
theorem fp_X6_341 : FP RX6 341 0 1 (.boolean) false := ⟨RX0, TX0, 2, tyX0, "BitDesk$Closure", rfl, by decide, rfl, ⟨(Or.inl rfl), fun h => nomatch h⟩, (Or.inr ⟨_, wn_f21⟩), inW0, tyX0_ok, nmX0, rfl, tyX0_ok 1 (by decide), rfl⟩
theorem fk_X6_341 : FK RX6 341 0 1 (.boolean) := ⟨RX0, TX0, 2, "BitDesk$Closure", rfl, by decide, rfl, (Or.inl rfl), (Or.inr ⟨_, wn_f21⟩), inW0⟩
theorem wd_789 : (Jvm.Cond.code ({ cls := "BitDesk$Closure", name := "makeFrom", desc := "([II)V" } : Jvm.MethodName) prog_2_method_2_code (5 : Nat) (Option.none : Option Jvm.ClassFile.FieldType)) ∈ WS := ws_c4 155 rfl rfl
theorem wd_786 : (Jvm.Cond.methodLink "BitDesk" (344 : Nat) ({ cls := "BitDesk$Closure", name := "makeFrom", desc := "([II)V" } : Jvm.MethodName)) ∈ WS := ws_c4 152 rfl rfl
theorem wd_787 : (Jvm.Cond.instanceMethod ({ cls := "BitDesk$Closure", name := "makeFrom", desc := "([II)V" } : Jvm.MethodName)) ∈ WS := ws_c4 153 rfl rfl
theorem wd_788 : (Jvm.Cond.selects "BitDesk$Closure" ({ cls := "BitDesk$Closure", name := "makeFrom", desc := "([II)V" } : Jvm.MethodName) ({ cls := "BitDesk$Closure", name := "makeFrom", desc := "([II)V" } : Jvm.MethodName)) ∈ WS := ws_c4 154 rfl rfl
theorem lk_X6_344 : LkV RX6 344 jX0_makeFrom 2 := ⟨⟨wd_786, ⟨rfl, (by rw [cwd_nil rfl]; exact wd_789)⟩, wd_99, ⟨by decide +kernel, by decide +kernel⟩, by decide +kernel⟩, wd_787, wd_788⟩
theorem wd_706 : (Jvm.Cond.code ({ cls := "BitDesk", name := "onesOf", desc := "([II)I" } : Jvm.MethodName) prog_1_method_89_code (4 : Nat) (Option.some Jvm.ClassFile.FieldType.int)) ∈ WS := ws_c4 221 rfl rfl
theorem wd_704 : (Jvm.Cond.methodLink "BitDesk" (145 : Nat) ({ cls := "BitDesk", name := "onesOf", desc := "([II)I" } : Jvm.MethodName)) ∈ WS := ws_c4 219 rfl rfl
theorem wd_705 : (Jvm.Cond.static ({ cls := "BitDesk", name := "onesOf", desc := "([II)I" } : Jvm.MethodName)) ∈ WS := ws_c4 220 rfl rfl
theorem lk_X6_145 : LkS RX6 145 jX6_onesOf 2 := ⟨⟨wd_704, ⟨rfl, (by rw [cwd_nil rfl]; exact wd_706)⟩, wd_95, ⟨by decide +kernel, by decide +kernel⟩, by decide +kernel⟩, wd_705⟩
theorem fk_X6_347 : FK RX6 347 3 6 (.int) := ⟨RX3, TX3, 8, "BitDesk$Multiplier", rfl, by decide, rfl, (Or.inl rfl), (Or.inr ⟨_, wn_f22⟩), inW3⟩
theorem fp_X6_304 : FP RX6 304 5 3 (.int) false := ⟨RX5, TX5, 5, tyX5, "BitDesk$State", rfl, by decide, rfl, ⟨(Or.inl rfl), fun h => nomatch h⟩, (Or.inr ⟨_, wn_f18⟩), inW5, tyX5_ok, nmX5, rfl, tyX5_ok 3 (by decide), rfl⟩
theorem fk_X6_348 : FK RX6 348 3 7 (.int) := ⟨RX3, TX3, 8, "BitDesk$Multiplier", rfl, by decide, rfl, (Or.inl rfl), (Or.inr ⟨_, wn_f23⟩), inW3⟩
theorem fp_X6_307 : FP RX6 307 5 4 (.int) false := ⟨RX5, TX5, 5, tyX5, "BitDesk$State", rfl, by decide, rfl, ⟨(Or.inl rfl), fun h => nomatch h⟩, (Or.inr ⟨_, wn_f19⟩), inW5, tyX5_ok, nmX5, rfl, tyX5_ok 4 (by decide), rfl⟩
theorem wd_1146 : (Jvm.Cond.methodLink "BitDesk" (353 : Nat) ({ cls := "BitDesk", name := "reachedFrom", desc := "([III)I" } : Jvm.MethodName)) ∈ WS := ws_c5 111 rfl rfl
theorem lk_X6_353 : LkS RX6 353 jX6_reachedFrom 3 := ⟨⟨wd_1146, ⟨rfl, (by rw [cwd_nil rfl]; exact wd_919)⟩, wd_95, ⟨by decide +kernel, by decide +kernel⟩, by decide +kernel⟩, wd_918⟩
theorem wd_672 : (Jvm.Cond.constantLong "BitDesk" (356 : Nat) (4294967295 : Int64)) ∈ WS := ws_c4 62 rfl rfl
theorem wd_828 : (Jvm.Cond.code ({ cls := "BitDesk", name := "lowestOne", desc := "(I)I" } : Jvm.MethodName) prog_1_method_87_code (1 : Nat) (Option.some Jvm.ClassFile.FieldType.int)) ∈ WS := ws_c4 189 rfl rfl
theorem wd_863 : (Jvm.Cond.methodLink "BitDesk" (186 : Nat) ({ cls := "BitDesk", name := "lowestOne", desc := "(I)I" } : Jvm.MethodName)) ∈ WS := ws_c4 187 rfl rfl
theorem wd_827 : (Jvm.Cond.static ({ cls := "BitDesk", name := "lowestOne", desc := "(I)I" } : Jvm.MethodName)) ∈ WS := ws_c4 188 rfl rfl
theorem lk_X6_186 : LkS RX6 186 jX6_lowestOne 1 := ⟨⟨wd_863, ⟨rfl, (by rw [cwd_nil rfl]; exact wd_828)⟩, wd_95, ⟨by decide +kernel, by decide +kernel⟩, by decide +kernel⟩, wd_827⟩
theorem wd_x405 : (Jvm.Cond.methodLink "BitDeskLaw$Desk" (1 : Nat) ({ cls := "java/lang/Object", name := "<init>", desc := "()V" } : Jvm.MethodName)) ∈ WS := ws_c2 122 rfl rfl
theorem wd_x413 : (Jvm.Cond.fieldLink "BitDeskLaw$Desk" (7 : Nat) "BitDeskLaw$Desk" "block" "I") ∈ WS := ws_c2 130 rfl rfl
theorem fp_X7_7 : FP RX7 7 7 1 (.int) false := ⟨RX7, TX7, 7, tyX7, "BitDeskLaw$Desk", rfl, by decide, rfl, ⟨(Or.inl rfl), fun h => nomatch h⟩, (Or.inl wd_x413), inW7, tyX7_ok, nmX7, rfl, tyX7_ok 1 (by decide), rfl⟩
theorem wd_x421 : (Jvm.Cond.fieldLink "BitDeskLaw$Desk" (13 : Nat) "BitDeskLaw$Desk" "kept" "[Z") ∈ WS := ws_c2 138 rfl rfl
theorem fp_X7_13 : FP RX7 13 7 5 (.array .boolean) false := ⟨RX7, TX7, 7, tyX7, "BitDeskLaw$Desk", rfl, by decide, rfl, ⟨(Or.inl rfl), fun h => nomatch h⟩, (Or.inl wd_x421), inW7, tyX7_ok, nmX7, rfl, tyX7_ok 5 (by decide), rfl⟩
theorem wd_x406 : (Jvm.Cond.classLink "BitDeskLaw$Desk" (17 : Nat) "[[I") ∈ WS := ws_c2 123 rfl rfl
theorem wd_x423 : (Jvm.Cond.fieldLink "BitDeskLaw$Desk" (19 : Nat) "BitDeskLaw$Desk" "numbers" "[[I") ∈ WS := ws_c2 140 rfl rfl
theorem fp_X7_19 : FP RX7 19 7 6 (.array (.array .int)) false := ⟨RX7, TX7, 7, tyX7, "BitDeskLaw$Desk", rfl, by decide, rfl, ⟨(Or.inl rfl), fun h => nomatch h⟩, (Or.inl wd_x423), inW7, tyX7_ok, nmX7, rfl, tyX7_ok 6 (by decide), rfl⟩
theorem wd_x411 : (Jvm.Cond.fieldLink "BitDeskLaw$Desk" (22 : Nat) "BitDeskLaw$Desk" "size" "I") ∈ WS := ws_c2 128 rfl rfl
theorem fp_X7_22 : FP RX7 22 7 0 (.int) true := ⟨RX7, TX7, 7, tyX7, "BitDeskLaw$Desk", rfl, by decide, rfl, ⟨(Or.inl rfl), fun h => ⟨rfl, rfl⟩⟩, (Or.inl wd_x411), inW7, tyX7_ok, nmX7, rfl, tyX7_ok 0 (by decide), rfl⟩
theorem wd_x408 : (Jvm.Cond.classLink "BitDeskLaw$Desk" (25 : Nat) "[[[Z") ∈ WS := ws_c2 125 rfl rfl
theorem wd_x419 : (Jvm.Cond.fieldLink "BitDeskLaw$Desk" (27 : Nat) "BitDeskLaw$Desk" "slots" "[[[Z") ∈ WS := ws_c2 136 rfl rfl
theorem fp_X7_27 : FP RX7 27 7 4 (.array (.array (.array .boolean))) false := ⟨RX7, TX7, 7, tyX7, "BitDeskLaw$Desk", rfl, by decide, rfl, ⟨(Or.inl rfl), fun h => nomatch h⟩, (Or.inl wd_x419), inW7, tyX7_ok, nmX7, rfl, tyX7_ok 4 (by decide), rfl⟩
theorem wd_x868 : (Jvm.Cond.classLink "BitDeskLaw$Desk" (8 : Nat) "BitDeskLaw$Desk") ∈ WS := ws_c4 105 rfl rfl
theorem wd_x401 : (Jvm.Cond.instantiable "BitDeskLaw$Desk" (7 : Nat)) ∈ WS := ws_c2 118 rfl rfl
theorem fk_X7_22 : FK RX7 22 7 0 (.int) := ⟨RX7, TX7, 7, "BitDeskLaw$Desk", rfl, by decide, rfl, (Or.inl rfl), (Or.inl wd_x411), inW7⟩
theorem wd_x404 : (Jvm.Cond.code ({ cls := "BitDeskLaw$Desk", name := "<init>", desc := "(I)V" } : Jvm.MethodName) prog_9_method_1_code (2 : Nat) (Option.none : Option Jvm.ClassFile.FieldType)) ∈ WS := ws_c2 121 rfl rfl
theorem wd_x869 : (Jvm.Cond.methodLink "BitDeskLaw$Desk" (30 : Nat) ({ cls := "BitDeskLaw$Desk", name := "<init>", desc := "(I)V" } : Jvm.MethodName)) ∈ WS := ws_c4 106 rfl rfl
theorem wd_x403 : (Jvm.Cond.instanceMethod ({ cls := "BitDeskLaw$Desk", name := "<init>", desc := "(I)V" } : Jvm.MethodName)) ∈ WS := ws_c2 120 rfl rfl
theorem lk_X7_30 : LkI RX7 30 jX7_init 1 := ⟨⟨wd_x869, ⟨rfl, (by rw [cwd_nil rfl]; exact wd_x404)⟩, wd_x51, ⟨by decide +kernel, by decide +kernel⟩, by decide +kernel⟩, wd_x403, rfl, rfl⟩
theorem fk_X7_7 : FK RX7 7 7 1 (.int) := ⟨RX7, TX7, 7, "BitDeskLaw$Desk", rfl, by decide, rfl, (Or.inl rfl), (Or.inl wd_x413), inW7⟩
theorem wd_x415 : (Jvm.Cond.fieldLink "BitDeskLaw$Desk" (33 : Nat) "BitDeskLaw$Desk" "made" "I") ∈ WS := ws_c2 132 rfl rfl
theorem fk_X7_33 : FK RX7 33 7 2 (.int) := ⟨RX7, TX7, 7, "BitDeskLaw$Desk", rfl, by decide, rfl, (Or.inl rfl), (Or.inl wd_x415), inW7⟩
theorem fp_X7_33 : FP RX7 33 7 2 (.int) false := ⟨RX7, TX7, 7, tyX7, "BitDeskLaw$Desk", rfl, by decide, rfl, ⟨(Or.inl rfl), fun h => nomatch h⟩, (Or.inl wd_x415), inW7, tyX7_ok, nmX7, rfl, tyX7_ok 2 (by decide), rfl⟩
theorem wd_x417 : (Jvm.Cond.fieldLink "BitDeskLaw$Desk" (36 : Nat) "BitDeskLaw$Desk" "taken" "I") ∈ WS := ws_c2 134 rfl rfl
theorem fk_X7_36 : FK RX7 36 7 3 (.int) := ⟨RX7, TX7, 7, "BitDeskLaw$Desk", rfl, by decide, rfl, (Or.inl rfl), (Or.inl wd_x417), inW7⟩
theorem fp_X7_36 : FP RX7 36 7 3 (.int) false := ⟨RX7, TX7, 7, tyX7, "BitDeskLaw$Desk", rfl, by decide, rfl, ⟨(Or.inl rfl), fun h => nomatch h⟩, (Or.inl wd_x417), inW7, tyX7_ok, nmX7, rfl, tyX7_ok 3 (by decide), rfl⟩
theorem fk_X7_27 : FK RX7 27 7 4 (.array (.array (.array .boolean))) := ⟨RX7, TX7, 7, "BitDeskLaw$Desk", rfl, by decide, rfl, (Or.inl rfl), (Or.inl wd_x419), inW7⟩
theorem wd_x870 : (Jvm.Cond.methodLink "BitDeskLaw$Desk" (39 : Nat) ({ cls := "[Z", name := "clone", desc := "()Ljava/lang/Object;" } : Jvm.MethodName)) ∈ WS := ws_c4 107 rfl rfl
theorem wd_x871 : (Jvm.Cond.sameMethod "[Z" "java/lang/Object" "clone" "()Ljava/lang/Object;") ∈ WS := ws_c4 108 rfl rfl
theorem wd_x650 : (Jvm.Cond.native ({ cls := "java/lang/Object", name := "clone", desc := "()Ljava/lang/Object;" } : Jvm.MethodName)) ∈ WS := ws_c3 127 rfl rfl
theorem wd_x651 : (Jvm.Cond.instanceMethod ({ cls := "java/lang/Object", name := "clone", desc := "()Ljava/lang/Object;" } : Jvm.MethodName)) ∈ WS := ws_c3 128 rfl rfl
theorem wd_x872 : (Jvm.Cond.selects "[Z" ({ cls := "[Z", name := "clone", desc := "()Ljava/lang/Object;" } : Jvm.MethodName) ({ cls := "java/lang/Object", name := "clone", desc := "()Ljava/lang/Object;" } : Jvm.MethodName)) ∈ WS := ws_c4 109 rfl rfl
theorem wd_x874 : (Jvm.Cond.classLink "BitDeskLaw$Desk" (40 : Nat) "[Z") ∈ WS := ws_c4 111 rfl rfl
theorem fk_X7_13 : FK RX7 13 7 5 (.array .boolean) := ⟨RX7, TX7, 7, "BitDeskLaw$Desk", rfl, by decide, rfl, (Or.inl rfl), (Or.inl wd_x421), inW7⟩
theorem fk_X7_19 : FK RX7 19 7 6 (.array (.array .int)) := ⟨RX7, TX7, 7, "BitDeskLaw$Desk", rfl, by decide, rfl, (Or.inl rfl), (Or.inl wd_x423), inW7⟩
theorem wd_x875 : (Jvm.Cond.methodLink "BitDeskLaw$Desk" (44 : Nat) ({ cls := "[I", name := "clone", desc := "()Ljava/lang/Object;" } : Jvm.MethodName)) ∈ WS := ws_c4 112 rfl rfl
theorem wd_x876 : (Jvm.Cond.sameMethod "[I" "java/lang/Object" "clone" "()Ljava/lang/Object;") ∈ WS := ws_c4 113 rfl rfl
theorem wd_x877 : (Jvm.Cond.selects "[I" ({ cls := "[I", name := "clone", desc := "()Ljava/lang/Object;" } : Jvm.MethodName) ({ cls := "java/lang/Object", name := "clone", desc := "()Ljava/lang/Object;" } : Jvm.MethodName)) ∈ WS := ws_c4 114 rfl rfl
theorem wd_x879 : (Jvm.Cond.classLink "BitDeskLaw$Desk" (45 : Nat) "[I") ∈ WS := ws_c4 116 rfl rfl
theorem wd_x777 : (Jvm.Cond.code ({ cls := "BitDeskLaw$Desk", name := "look", desc := "(II)V" } : Jvm.MethodName) prog_9_method_3_code (3 : Nat) (Option.none : Option Jvm.ClassFile.FieldType)) ∈ WS := ws_c4 14 rfl rfl
theorem wd_x774 : (Jvm.Cond.methodLink "BitDeskLaw$Desk" (47 : Nat) ({ cls := "BitDeskLaw$Desk", name := "look", desc := "(II)V" } : Jvm.MethodName)) ∈ WS := ws_c4 11 rfl rfl
theorem wd_x775 : (Jvm.Cond.instanceMethod ({ cls := "BitDeskLaw$Desk", name := "look", desc := "(II)V" } : Jvm.MethodName)) ∈ WS := ws_c4 12 rfl rfl
theorem wd_x776 : (Jvm.Cond.selects "BitDeskLaw$Desk" ({ cls := "BitDeskLaw$Desk", name := "look", desc := "(II)V" } : Jvm.MethodName) ({ cls := "BitDeskLaw$Desk", name := "look", desc := "(II)V" } : Jvm.MethodName)) ∈ WS := ws_c4 13 rfl rfl
theorem lk_X7_47 : LkV RX7 47 jX7_look 2 := ⟨⟨wd_x774, ⟨rfl, (by rw [cwd_nil rfl]; exact wd_x777)⟩, wd_x51, ⟨by decide +kernel, by decide +kernel⟩, by decide +kernel⟩, wd_x775, wd_x776⟩
theorem wd_x773 : (Jvm.Cond.code ({ cls := "BitDeskLaw$Desk", name := "anew", desc := "(I)V" } : Jvm.MethodName) prog_9_method_4_code (2 : Nat) (Option.none : Option Jvm.ClassFile.FieldType)) ∈ WS := ws_c4 10 rfl rfl
theorem wd_x968 : (Jvm.Cond.methodLink "BitDeskLaw$Desk" (51 : Nat) ({ cls := "BitDeskLaw$Desk", name := "anew", desc := "(I)V" } : Jvm.MethodName)) ∈ WS := ws_c4 205 rfl rfl
theorem wd_x771 : (Jvm.Cond.instanceMethod ({ cls := "BitDeskLaw$Desk", name := "anew", desc := "(I)V" } : Jvm.MethodName)) ∈ WS := ws_c4 8 rfl rfl
theorem wd_x772 : (Jvm.Cond.selects "BitDeskLaw$Desk" ({ cls := "BitDeskLaw$Desk", name := "anew", desc := "(I)V" } : Jvm.MethodName) ({ cls := "BitDeskLaw$Desk", name := "anew", desc := "(I)V" } : Jvm.MethodName)) ∈ WS := ws_c4 9 rfl rfl
theorem lk_X7_51 : LkV RX7 51 jX7_anew 1 := ⟨⟨wd_x968, ⟨rfl, (by rw [cwd_nil rfl]; exact wd_x773)⟩, wd_x51, ⟨by decide +kernel, by decide +kernel⟩, by decide +kernel⟩, wd_x771, wd_x772⟩
theorem wd_x888 : (Jvm.Cond.classLink "BitDeskLaw$Desk" (54 : Nat) "[[Z") ∈ WS := ws_c4 125 rfl rfl
theorem wd_x887 : (Jvm.Cond.code ({ cls := "BitDeskLaw$Desk", name := "fresh", desc := "()[[Z" } : Jvm.MethodName) prog_9_method_6_code (1 : Nat) (Option.some (Jvm.ClassFile.FieldType.array (Jvm.ClassFile.FieldType.array Jvm.ClassFile.FieldType.boolean)))) ∈ WS := ws_c4 124 rfl rfl
theorem wd_x884 : (Jvm.Cond.methodLink "BitDeskLaw$Desk" (56 : Nat) ({ cls := "BitDeskLaw$Desk", name := "fresh", desc := "()[[Z" } : Jvm.MethodName)) ∈ WS := ws_c4 121 rfl rfl
theorem wd_x885 : (Jvm.Cond.instanceMethod ({ cls := "BitDeskLaw$Desk", name := "fresh", desc := "()[[Z" } : Jvm.MethodName)) ∈ WS := ws_c4 122 rfl rfl
theorem wd_x886 : (Jvm.Cond.selects "BitDeskLaw$Desk" ({ cls := "BitDeskLaw$Desk", name := "fresh", desc := "()[[Z" } : Jvm.MethodName) ({ cls := "BitDeskLaw$Desk", name := "fresh", desc := "()[[Z" } : Jvm.MethodName)) ∈ WS := ws_c4 123 rfl rfl
theorem lk_X7_56 : LkV RX7 56 jX7_fresh 0 := ⟨⟨wd_x884, ⟨rfl, (by rw [cwd_nil rfl]; exact wd_x887)⟩, wd_x51, ⟨by decide +kernel, by decide +kernel⟩, by decide +kernel⟩, wd_x885, wd_x886⟩
theorem wd_x1002 : (Jvm.Cond.methodLink "BitDeskLaw$Desk" (60 : Nat) ({ cls := "java/lang/Math", name := "min", desc := "(II)I" } : Jvm.MethodName)) ∈ WS := ws_c4 239 rfl rfl
theorem lk_X7_60 : LkS RX7 60 jJ9_min_7cf53 2 := ⟨⟨wd_x1002, ⟨rfl, (by rw [cwd_nil rfl]; exact wd_431)⟩, wd_107, ⟨by decide +kernel, by decide +kernel⟩, by decide +kernel⟩, wd_430⟩
theorem wd_x1040 : (Jvm.Cond.code ({ cls := "BitDeskLaw$Desk", name := "unit", desc := "()[[Z" } : Jvm.MethodName) prog_9_method_11_code (3 : Nat) (Option.some (Jvm.ClassFile.FieldType.array (Jvm.ClassFile.FieldType.array Jvm.ClassFile.FieldType.boolean)))) ∈ WS := ws_c5 37 rfl rfl
theorem wd_x1037 : (Jvm.Cond.methodLink "BitDeskLaw$Desk" (66 : Nat) ({ cls := "BitDeskLaw$Desk", name := "unit", desc := "()[[Z" } : Jvm.MethodName)) ∈ WS := ws_c5 34 rfl rfl
theorem wd_x1038 : (Jvm.Cond.instanceMethod ({ cls := "BitDeskLaw$Desk", name := "unit", desc := "()[[Z" } : Jvm.MethodName)) ∈ WS := ws_c5 35 rfl rfl
theorem wd_x1039 : (Jvm.Cond.selects "BitDeskLaw$Desk" ({ cls := "BitDeskLaw$Desk", name := "unit", desc := "()[[Z" } : Jvm.MethodName) ({ cls := "BitDeskLaw$Desk", name := "unit", desc := "()[[Z" } : Jvm.MethodName)) ∈ WS := ws_c5 36 rfl rfl
theorem lk_X7_66 : LkV RX7 66 jX7_unit 0 := ⟨⟨wd_x1037, ⟨rfl, (by rw [cwd_nil rfl]; exact wd_x1040)⟩, wd_x51, ⟨by decide +kernel, by decide +kernel⟩, by decide +kernel⟩, wd_x1038, wd_x1039⟩
theorem wd_x1036 : (Jvm.Cond.code ({ cls := "BitDeskLaw$Desk", name := "power", desc := "([[ZIZ)[[Z" } : Jvm.MethodName) prog_9_method_13_code (6 : Nat) (Option.some (Jvm.ClassFile.FieldType.array (Jvm.ClassFile.FieldType.array Jvm.ClassFile.FieldType.boolean)))) ∈ WS := ws_c5 33 rfl rfl
theorem wd_x1041 : (Jvm.Cond.methodLink "BitDeskLaw$Desk" (69 : Nat) ({ cls := "BitDeskLaw$Desk", name := "power", desc := "([[ZIZ)[[Z" } : Jvm.MethodName)) ∈ WS := ws_c5 38 rfl rfl
theorem wd_x1034 : (Jvm.Cond.instanceMethod ({ cls := "BitDeskLaw$Desk", name := "power", desc := "([[ZIZ)[[Z" } : Jvm.MethodName)) ∈ WS := ws_c5 31 rfl rfl
theorem wd_x1035 : (Jvm.Cond.selects "BitDeskLaw$Desk" ({ cls := "BitDeskLaw$Desk", name := "power", desc := "([[ZIZ)[[Z" } : Jvm.MethodName) ({ cls := "BitDeskLaw$Desk", name := "power", desc := "([[ZIZ)[[Z" } : Jvm.MethodName)) ∈ WS := ws_c5 32 rfl rfl
theorem lk_X7_69 : LkV RX7 69 jX7_power 3 := ⟨⟨wd_x1041, ⟨rfl, (by rw [cwd_nil rfl]; exact wd_x1036)⟩, wd_x51, ⟨by decide +kernel, by decide +kernel⟩, by decide +kernel⟩, wd_x1034, wd_x1035⟩
theorem wd_x1001 : (Jvm.Cond.code ({ cls := "BitDeskLaw$Desk", name := "product", desc := "([[Z[[ZZ)[[Z" } : Jvm.MethodName) prog_9_method_12_code (9 : Nat) (Option.some (Jvm.ClassFile.FieldType.array (Jvm.ClassFile.FieldType.array Jvm.ClassFile.FieldType.boolean)))) ∈ WS := ws_c4 238 rfl rfl
theorem wd_x1042 : (Jvm.Cond.methodLink "BitDeskLaw$Desk" (73 : Nat) ({ cls := "BitDeskLaw$Desk", name := "product", desc := "([[Z[[ZZ)[[Z" } : Jvm.MethodName)) ∈ WS := ws_c5 39 rfl rfl
theorem wd_x999 : (Jvm.Cond.instanceMethod ({ cls := "BitDeskLaw$Desk", name := "product", desc := "([[Z[[ZZ)[[Z" } : Jvm.MethodName)) ∈ WS := ws_c4 236 rfl rfl
theorem wd_x1000 : (Jvm.Cond.selects "BitDeskLaw$Desk" ({ cls := "BitDeskLaw$Desk", name := "product", desc := "([[Z[[ZZ)[[Z" } : Jvm.MethodName) ({ cls := "BitDeskLaw$Desk", name := "product", desc := "([[Z[[ZZ)[[Z" } : Jvm.MethodName)) ∈ WS := ws_c4 237 rfl rfl
theorem lk_X7_73 : LkV RX7 73 jX7_product 3 := ⟨⟨wd_x1042, ⟨rfl, (by rw [cwd_nil rfl]; exact wd_x1001)⟩, wd_x51, ⟨by decide +kernel, by decide +kernel⟩, by decide +kernel⟩, wd_x999, wd_x1000⟩
theorem wd_x1064 : (Jvm.Cond.code ({ cls := "java/lang/Long", name := "numberOfTrailingZeros", desc := "(J)I" } : Jvm.MethodName) prog_22_method_49_code (3 : Nat) (Option.some Jvm.ClassFile.FieldType.int)) ∈ WS := ws_c5 61 rfl rfl
theorem wd_x1062 : (Jvm.Cond.methodLink "BitDeskLaw$Desk" (77 : Nat) ({ cls := "java/lang/Long", name := "numberOfTrailingZeros", desc := "(J)I" } : Jvm.MethodName)) ∈ WS := ws_c5 59 rfl rfl
theorem wd_x1063 : (Jvm.Cond.static ({ cls := "java/lang/Long", name := "numberOfTrailingZeros", desc := "(J)I" } : Jvm.MethodName)) ∈ WS := ws_c5 60 rfl rfl
theorem lk_X7_77 : LkS RX7 77 jJ13_numberOfTrailingZeros_95d88 1 := ⟨⟨wd_x1062, ⟨rfl, (by rw [cwd_nil rfl]; exact wd_x1064)⟩, wd_x73, ⟨by decide +kernel, by decide +kernel⟩, by decide +kernel⟩, wd_x1063⟩
theorem wd_x1069 : (Jvm.Cond.constantLong "BitDeskLaw$Desk" (83 : Nat) (-1 : Int64)) ∈ WS := ws_c5 66 rfl rfl
theorem wd_x1061 : (Jvm.Cond.code ({ cls := "BitDeskLaw$Desk", name := "solve", desc := "([[ZJ)J" } : Jvm.MethodName) prog_9_method_15_code (12 : Nat) (Option.some Jvm.ClassFile.FieldType.long)) ∈ WS := ws_c5 58 rfl rfl
theorem wd_x1058 : (Jvm.Cond.methodLink "BitDeskLaw$Desk" (85 : Nat) ({ cls := "BitDeskLaw$Desk", name := "solve", desc := "([[ZJ)J" } : Jvm.MethodName)) ∈ WS := ws_c5 55 rfl rfl
theorem wd_x1059 : (Jvm.Cond.instanceMethod ({ cls := "BitDeskLaw$Desk", name := "solve", desc := "([[ZJ)J" } : Jvm.MethodName)) ∈ WS := ws_c5 56 rfl rfl
theorem wd_x1060 : (Jvm.Cond.selects "BitDeskLaw$Desk" ({ cls := "BitDeskLaw$Desk", name := "solve", desc := "([[ZJ)J" } : Jvm.MethodName) ({ cls := "BitDeskLaw$Desk", name := "solve", desc := "([[ZJ)J" } : Jvm.MethodName)) ∈ WS := ws_c5 57 rfl rfl
theorem lk_X7_85 : LkV RX7 85 jX7_solve 2 := ⟨⟨wd_x1058, ⟨rfl, (by rw [cwd_nil rfl]; exact wd_x1061)⟩, wd_x51, ⟨by decide +kernel, by decide +kernel⟩, by decide +kernel⟩, wd_x1059, wd_x1060⟩
theorem wd_x883 : (Jvm.Cond.code ({ cls := "BitDeskLaw$Desk", name := "closure", desc := "([[Z)[[Z" } : Jvm.MethodName) prog_9_method_7_code (8 : Nat) (Option.some (Jvm.ClassFile.FieldType.array (Jvm.ClassFile.FieldType.array Jvm.ClassFile.FieldType.boolean)))) ∈ WS := ws_c4 120 rfl rfl
theorem wd_x1100 : (Jvm.Cond.methodLink "BitDeskLaw$Desk" (89 : Nat) ({ cls := "BitDeskLaw$Desk", name := "closure", desc := "([[Z)[[Z" } : Jvm.MethodName)) ∈ WS := ws_c5 97 rfl rfl
theorem wd_x881 : (Jvm.Cond.instanceMethod ({ cls := "BitDeskLaw$Desk", name := "closure", desc := "([[Z)[[Z" } : Jvm.MethodName)) ∈ WS := ws_c4 118 rfl rfl
theorem wd_x882 : (Jvm.Cond.selects "BitDeskLaw$Desk" ({ cls := "BitDeskLaw$Desk", name := "closure", desc := "([[Z)[[Z" } : Jvm.MethodName) ({ cls := "BitDeskLaw$Desk", name := "closure", desc := "([[Z)[[Z" } : Jvm.MethodName)) ∈ WS := ws_c4 119 rfl rfl
theorem lk_X7_89 : LkV RX7 89 jX7_closure 1 := ⟨⟨wd_x1100, ⟨rfl, (by rw [cwd_nil rfl]; exact wd_x883)⟩, wd_x51, ⟨by decide +kernel, by decide +kernel⟩, by decide +kernel⟩, wd_x881, wd_x882⟩
theorem wd_x893 : (Jvm.Cond.code ({ cls := "BitDeskLaw$Desk", name := "differ", desc := "([[Z[[Z)I" } : Jvm.MethodName) prog_9_method_9_code (6 : Nat) (Option.some Jvm.ClassFile.FieldType.int)) ∈ WS := ws_c4 130 rfl rfl
theorem wd_x1101 : (Jvm.Cond.methodLink "BitDeskLaw$Desk" (93 : Nat) ({ cls := "BitDeskLaw$Desk", name := "differ", desc := "([[Z[[Z)I" } : Jvm.MethodName)) ∈ WS := ws_c5 98 rfl rfl
theorem wd_x891 : (Jvm.Cond.instanceMethod ({ cls := "BitDeskLaw$Desk", name := "differ", desc := "([[Z[[Z)I" } : Jvm.MethodName)) ∈ WS := ws_c4 128 rfl rfl
theorem wd_x892 : (Jvm.Cond.selects "BitDeskLaw$Desk" ({ cls := "BitDeskLaw$Desk", name := "differ", desc := "([[Z[[Z)I" } : Jvm.MethodName) ({ cls := "BitDeskLaw$Desk", name := "differ", desc := "([[Z[[Z)I" } : Jvm.MethodName)) ∈ WS := ws_c4 129 rfl rfl
theorem lk_X7_93 : LkV RX7 93 jX7_differ 2 := ⟨⟨wd_x1101, ⟨rfl, (by rw [cwd_nil rfl]; exact wd_x893)⟩, wd_x51, ⟨by decide +kernel, by decide +kernel⟩, by decide +kernel⟩, wd_x891, wd_x892⟩
theorem wd_x1205 : (Jvm.Cond.methodLink "java/lang/AbstractStringBuilder" (3 : Nat) ({ cls := "java/lang/Object", name := "<init>", desc := "()V" } : Jvm.MethodName)) ∈ WS := ws_c5 202 rfl rfl
theorem wd_x662 : (Jvm.Cond.fieldLink "java/lang/AbstractStringBuilder" (18 : Nat) "java/lang/String" "COMPACT_STRINGS" "Z") ∈ WS := ws_c3 139 rfl rfl
theorem wd_x1206 : (Jvm.Cond.fieldLink "java/lang/AbstractStringBuilder" (15 : Nat) "java/lang/AbstractStringBuilder" "value" "[B") ∈ WS := ws_c5 203 rfl rfl
theorem fp_J5_15 : FP RJ5 15 9 0 (.array .byte) false := ⟨RJ4, TJ4, 4, tyJ4, "java/lang/AbstractStringBuilder", rfl, by decide, rfl, ⟨(Or.inl rfl), fun h => nomatch h⟩, (Or.inl wd_x1206), inW9, tyJ4_ok, nmJ4, rfl, tyJ4_ok 0 (by decide), rfl⟩
theorem wd_x1207 : (Jvm.Cond.fieldLink "java/lang/AbstractStringBuilder" (22 : Nat) "java/lang/AbstractStringBuilder" "coder" "B") ∈ WS := ws_c5 204 rfl rfl
theorem fp_J5_22 : FP RJ5 22 9 1 (.byte) false := ⟨RJ4, TJ4, 4, tyJ4, "java/lang/AbstractStringBuilder", rfl, by decide, rfl, ⟨(Or.inl rfl), fun h => nomatch h⟩, (Or.inl wd_x1207), inW9, tyJ4_ok, nmJ4, rfl, tyJ4_ok 1 (by decide), rfl⟩
theorem wd_x1209 : (Jvm.Cond.fieldLink "java/lang/AbstractStringBuilder" (79 : Nat) "java/lang/AbstractStringBuilder" "count" "I") ∈ WS := ws_c5 206 rfl rfl
theorem fk_J5_79 : FK RJ5 79 9 3 (.int) := ⟨RJ4, TJ4, 4, "java/lang/AbstractStringBuilder", rfl, by decide, rfl, (Or.inl rfl), (Or.inl wd_x1209), inW9⟩
theorem fk_J5_15 : FK RJ5 15 9 0 (.array .byte) := ⟨RJ4, TJ4, 4, "java/lang/AbstractStringBuilder", rfl, by decide, rfl, (Or.inl rfl), (Or.inl wd_x1206), inW9⟩
theorem fk_J5_22 : FK RJ5 22 9 1 (.byte) := ⟨RJ4, TJ4, 4, "java/lang/AbstractStringBuilder", rfl, by decide, rfl, (Or.inl rfl), (Or.inl wd_x1207), inW9⟩
theorem wd_x633 : (Jvm.Cond.code ({ cls := "java/lang/AbstractStringBuilder", name := "newCapacity", desc := "(I)I" } : Jvm.MethodName) prog_12_method_10_code (6 : Nat) (Option.some Jvm.ClassFile.FieldType.int)) ∈ WS := ws_c3 110 rfl rfl
theorem wd_x630 : (Jvm.Cond.methodLink "java/lang/AbstractStringBuilder" (104 : Nat) ({ cls := "java/lang/AbstractStringBuilder", name := "newCapacity", desc := "(I)I" } : Jvm.MethodName)) ∈ WS := ws_c3 107 rfl rfl
theorem wd_x632 : (Jvm.Cond.instanceMethod ({ cls := "java/lang/AbstractStringBuilder", name := "newCapacity", desc := "(I)I" } : Jvm.MethodName)) ∈ WS := ws_c3 109 rfl rfl
theorem lk_J5_104 : LkP RJ5 104 jJ5_newCapacity_0f7a4 1 "java/lang/StringBuilder" := ⟨⟨wd_x630, ⟨rfl, (by rw [cwd_nil rfl]; exact wd_x633)⟩, wd_x58, ⟨by decide +kernel, by decide +kernel⟩, by decide +kernel⟩, wd_x632, Or.inr (by decide +kernel)⟩
theorem wd_x647 : (Jvm.Cond.code ({ cls := "java/util/Arrays", name := "copyOf", desc := "([BI)[B" } : Jvm.MethodName) prog_37_method_121_code (3 : Nat) (Option.some (Jvm.ClassFile.FieldType.array Jvm.ClassFile.FieldType.byte))) ∈ WS := ws_c3 124 rfl rfl
theorem wd_x645 : (Jvm.Cond.methodLink "java/lang/AbstractStringBuilder" (108 : Nat) ({ cls := "java/util/Arrays", name := "copyOf", desc := "([BI)[B" } : Jvm.MethodName)) ∈ WS := ws_c3 122 rfl rfl
theorem wd_x646 : (Jvm.Cond.static ({ cls := "java/util/Arrays", name := "copyOf", desc := "([BI)[B" } : Jvm.MethodName)) ∈ WS := ws_c3 123 rfl rfl
theorem lk_J5_108 : LkS RJ5 108 jJ7_copyOf_9075b 2 := ⟨⟨wd_x645, ⟨rfl, (by rw [cwd_nil rfl]; exact wd_x647)⟩, wd_x64, ⟨by decide +kernel, by decide +kernel⟩, by decide +kernel⟩, wd_x646⟩
theorem wd_x636 : (Jvm.Cond.code ({ cls := "jdk/internal/util/ArraysSupport", name := "newLength", desc := "(III)I" } : Jvm.MethodName) prog_43_method_27_code (4 : Nat) (Option.some Jvm.ClassFile.FieldType.int)) ∈ WS := ws_c3 113 rfl rfl
theorem wd_x634 : (Jvm.Cond.methodLink "java/lang/AbstractStringBuilder" (114 : Nat) ({ cls := "jdk/internal/util/ArraysSupport", name := "newLength", desc := "(III)I" } : Jvm.MethodName)) ∈ WS := ws_c3 111 rfl rfl
theorem wd_x635 : (Jvm.Cond.static ({ cls := "jdk/internal/util/ArraysSupport", name := "newLength", desc := "(III)I" } : Jvm.MethodName)) ∈ WS := ws_c3 112 rfl rfl
theorem lk_J5_114 : LkS RJ5 114 jJ8_newLength_cabcc 3 := ⟨⟨wd_x634, ⟨rfl, (by rw [cwd_nil rfl]; exact wd_x636)⟩, wd_x62, ⟨by decide +kernel, by decide +kernel⟩, by decide +kernel⟩, wd_x635⟩
theorem wd_x644 : (Jvm.Cond.constant "java/lang/AbstractStringBuilder" (39 : Nat) (2147483647 : Int32)) ∈ WS := ws_c3 121 rfl rfl
theorem wd_x678 : (Jvm.Cond.methodLink "java/lang/AbstractStringBuilder" (32 : Nat) ({ cls := "java/lang/String", name := "length", desc := "()I" } : Jvm.MethodName)) ∈ WS := ws_c3 155 rfl rfl
theorem lk_J5_32 : LkV RJ5 32 jJ0_length_8abf5 0 := ⟨⟨wd_x678, ⟨rfl, (by rw [cwd_nil rfl]; exact wd_372)⟩, wd_103, ⟨by decide +kernel, by decide +kernel⟩, by decide +kernel⟩, wd_370, wd_371⟩
theorem wd_x629 : (Jvm.Cond.code ({ cls := "java/lang/AbstractStringBuilder", name := "ensureCapacityInternal", desc := "(I)V" } : Jvm.MethodName) prog_12_method_9_code (3 : Nat) (Option.none : Option Jvm.ClassFile.FieldType)) ∈ WS := ws_c3 106 rfl rfl
theorem wd_x626 : (Jvm.Cond.methodLink "java/lang/AbstractStringBuilder" (100 : Nat) ({ cls := "java/lang/AbstractStringBuilder", name := "ensureCapacityInternal", desc := "(I)V" } : Jvm.MethodName)) ∈ WS := ws_c3 103 rfl rfl
theorem wd_x628 : (Jvm.Cond.instanceMethod ({ cls := "java/lang/AbstractStringBuilder", name := "ensureCapacityInternal", desc := "(I)V" } : Jvm.MethodName)) ∈ WS := ws_c3 105 rfl rfl
theorem lk_J5_100 : LkP RJ5 100 jJ5_ensureCapacityInternal_d00df 1 "java/lang/StringBuilder" := ⟨⟨wd_x626, ⟨rfl, (by rw [cwd_nil rfl]; exact wd_x629)⟩, wd_x58, ⟨by decide +kernel, by decide +kernel⟩, by decide +kernel⟩, wd_x628, Or.inr (by decide +kernel)⟩
theorem wd_x682 : (Jvm.Cond.code ({ cls := "java/lang/AbstractStringBuilder", name := "putStringAt", desc := "(ILjava/lang/String;)V" } : Jvm.MethodName) prog_12_method_73_code (3 : Nat) (Option.none : Option Jvm.ClassFile.FieldType)) ∈ WS := ws_c3 159 rfl rfl
theorem wd_x679 : (Jvm.Cond.methodLink "java/lang/AbstractStringBuilder" (208 : Nat) ({ cls := "java/lang/AbstractStringBuilder", name := "putStringAt", desc := "(ILjava/lang/String;)V" } : Jvm.MethodName)) ∈ WS := ws_c3 156 rfl rfl
theorem wd_x681 : (Jvm.Cond.instanceMethod ({ cls := "java/lang/AbstractStringBuilder", name := "putStringAt", desc := "(ILjava/lang/String;)V" } : Jvm.MethodName)) ∈ WS := ws_c3 158 rfl rfl
theorem lk_J5_208 : LkP RJ5 208 jJ5_putStringAt_47b60 2 "java/lang/StringBuilder" := ⟨⟨wd_x679, ⟨rfl, (by rw [cwd_nil rfl]; exact wd_x682)⟩, wd_x58, ⟨by decide +kernel, by decide +kernel⟩, by decide +kernel⟩, wd_x681, Or.inr (by decide +kernel)⟩
theorem fp_J5_79 : FP RJ5 79 9 3 (.int) false := ⟨RJ4, TJ4, 4, tyJ4, "java/lang/AbstractStringBuilder", rfl, by decide, rfl, ⟨(Or.inl rfl), fun h => nomatch h⟩, (Or.inl wd_x1209), inW9, tyJ4_ok, nmJ4, rfl, tyJ4_ok 3 (by decide), rfl⟩
theorem wd_x661 : (Jvm.Cond.code ({ cls := "java/lang/AbstractStringBuilder", name := "isLatin1", desc := "()Z" } : Jvm.MethodName) prog_12_method_68_code (1 : Nat) (Option.some Jvm.ClassFile.FieldType.boolean)) ∈ WS := ws_c3 138 rfl rfl
theorem wd_x657 : (Jvm.Cond.methodLink "java/lang/AbstractStringBuilder" (83 : Nat) ({ cls := "java/lang/AbstractStringBuilder", name := "isLatin1", desc := "()Z" } : Jvm.MethodName)) ∈ WS := ws_c3 134 rfl rfl
theorem wd_x658 : (Jvm.Cond.instanceMethod ({ cls := "java/lang/AbstractStringBuilder", name := "isLatin1", desc := "()Z" } : Jvm.MethodName)) ∈ WS := ws_c3 135 rfl rfl
theorem wd_x660 : (Jvm.Cond.selects "java/lang/StringBuilder" ({ cls := "java/lang/AbstractStringBuilder", name := "isLatin1", desc := "()Z" } : Jvm.MethodName) ({ cls := "java/lang/AbstractStringBuilder", name := "isLatin1", desc := "()Z" } : Jvm.MethodName)) ∈ WS := ws_c3 137 rfl rfl
theorem lk_J5_83 : LkP RJ5 83 jJ5_isLatin1_aae02 0 "java/lang/StringBuilder" := ⟨⟨wd_x657, ⟨rfl, (by rw [cwd_nil rfl]; exact wd_x661)⟩, wd_x58, ⟨by decide +kernel, by decide +kernel⟩, by decide +kernel⟩, wd_x658, Or.inl wd_x660⟩
theorem wd_x755 : (Jvm.Cond.code ({ cls := "java/lang/StringLatin1", name := "canEncode", desc := "(C)Z" } : Jvm.MethodName) prog_28_method_3_code (1 : Nat) (Option.some Jvm.ClassFile.FieldType.boolean)) ∈ WS := ws_c3 232 rfl rfl
theorem wd_x753 : (Jvm.Cond.methodLink "java/lang/AbstractStringBuilder" (191 : Nat) ({ cls := "java/lang/StringLatin1", name := "canEncode", desc := "(C)Z" } : Jvm.MethodName)) ∈ WS := ws_c3 230 rfl rfl
theorem wd_x754 : (Jvm.Cond.static ({ cls := "java/lang/StringLatin1", name := "canEncode", desc := "(C)Z" } : Jvm.MethodName)) ∈ WS := ws_c3 231 rfl rfl
theorem lk_J5_191 : LkS RJ5 191 jJ1_canEncode_fc78d 1 := ⟨⟨wd_x753, ⟨rfl, (by rw [cwd_nil rfl]; exact wd_x755)⟩, wd_104, ⟨by decide +kernel, by decide +kernel⟩, by decide +kernel⟩, wd_x754⟩
theorem wd_x729 : (Jvm.Cond.code ({ cls := "java/lang/Integer", name := "stringSize", desc := "(I)I" } : Jvm.MethodName) prog_20_method_13_code (4 : Nat) (Option.some Jvm.ClassFile.FieldType.int)) ∈ WS := ws_c3 206 rfl rfl
theorem wd_x727 : (Jvm.Cond.methodLink "java/lang/AbstractStringBuilder" (245 : Nat) ({ cls := "java/lang/Integer", name := "stringSize", desc := "(I)I" } : Jvm.MethodName)) ∈ WS := ws_c3 204 rfl rfl
theorem wd_x728 : (Jvm.Cond.static ({ cls := "java/lang/Integer", name := "stringSize", desc := "(I)I" } : Jvm.MethodName)) ∈ WS := ws_c3 205 rfl rfl
theorem lk_J5_245 : LkS RJ5 245 jJ6_stringSize_0f7a4 1 := ⟨⟨wd_x727, ⟨rfl, (by rw [cwd_nil rfl]; exact wd_x729)⟩, wd_114, ⟨by decide +kernel, by decide +kernel⟩, by decide +kernel⟩, wd_x728⟩
theorem wd_x732 : (Jvm.Cond.code ({ cls := "java/lang/Integer", name := "getChars", desc := "(II[B)I" } : Jvm.MethodName) prog_20_method_12_code (7 : Nat) (Option.some Jvm.ClassFile.FieldType.int)) ∈ WS := ws_c3 209 rfl rfl
theorem wd_x730 : (Jvm.Cond.methodLink "java/lang/AbstractStringBuilder" (248 : Nat) ({ cls := "java/lang/Integer", name := "getChars", desc := "(II[B)I" } : Jvm.MethodName)) ∈ WS := ws_c3 207 rfl rfl
theorem wd_x731 : (Jvm.Cond.static ({ cls := "java/lang/Integer", name := "getChars", desc := "(II[B)I" } : Jvm.MethodName)) ∈ WS := ws_c3 208 rfl rfl
theorem lk_J5_248 : LkS RJ5 248 jJ6_getChars_ba4f3 3 := ⟨⟨wd_x730, ⟨rfl, (by rw [cwd_nil rfl]; exact wd_x732)⟩, wd_114, ⟨by decide +kernel, by decide +kernel⟩, by decide +kernel⟩, wd_x731⟩
theorem wd_376 : (Jvm.Cond.code ({ cls := "java/lang/String", name := "coder", desc := "()B" } : Jvm.MethodName) prog_26_method_152_code (1 : Nat) (Option.some Jvm.ClassFile.FieldType.byte)) ∈ WS := ws_c2 171 rfl rfl
theorem wd_x687 : (Jvm.Cond.methodLink "java/lang/AbstractStringBuilder" (40 : Nat) ({ cls := "java/lang/String", name := "coder", desc := "()B" } : Jvm.MethodName)) ∈ WS := ws_c3 164 rfl rfl
theorem wd_374 : (Jvm.Cond.instanceMethod ({ cls := "java/lang/String", name := "coder", desc := "()B" } : Jvm.MethodName)) ∈ WS := ws_c2 169 rfl rfl
theorem wd_375 : (Jvm.Cond.selects "java/lang/String" ({ cls := "java/lang/String", name := "coder", desc := "()B" } : Jvm.MethodName) ({ cls := "java/lang/String", name := "coder", desc := "()B" } : Jvm.MethodName)) ∈ WS := ws_c2 170 rfl rfl
theorem lk_J5_40 : LkV RJ5 40 jJ0_coder_7d493 0 := ⟨⟨wd_x687, ⟨rfl, (by rw [cwd_nil rfl]; exact wd_376)⟩, wd_103, ⟨by decide +kernel, by decide +kernel⟩, by decide +kernel⟩, wd_374, wd_375⟩
theorem wd_x686 : (Jvm.Cond.code ({ cls := "java/lang/AbstractStringBuilder", name := "inflateIfNeededFor", desc := "(Ljava/lang/String;)V" } : Jvm.MethodName) prog_12_method_71_code (2 : Nat) (Option.none : Option Jvm.ClassFile.FieldType)) ∈ WS := ws_c3 163 rfl rfl
theorem wd_x683 : (Jvm.Cond.methodLink "java/lang/AbstractStringBuilder" (397 : Nat) ({ cls := "java/lang/AbstractStringBuilder", name := "inflateIfNeededFor", desc := "(Ljava/lang/String;)V" } : Jvm.MethodName)) ∈ WS := ws_c3 160 rfl rfl
theorem wd_x685 : (Jvm.Cond.instanceMethod ({ cls := "java/lang/AbstractStringBuilder", name := "inflateIfNeededFor", desc := "(Ljava/lang/String;)V" } : Jvm.MethodName)) ∈ WS := ws_c3 162 rfl rfl
theorem lk_J5_397 : LkP RJ5 397 jJ5_inflateIfNeededFor_a7421 1 "java/lang/StringBuilder" := ⟨⟨wd_x683, ⟨rfl, (by rw [cwd_nil rfl]; exact wd_x686)⟩, wd_x58, ⟨by decide +kernel, by decide +kernel⟩, by decide +kernel⟩, wd_x685, Or.inr (by decide +kernel)⟩
theorem wd_x717 : (Jvm.Cond.code ({ cls := "java/lang/String", name := "getBytes", desc := "([BIB)V" } : Jvm.MethodName) prog_26_method_147_code (4 : Nat) (Option.none : Option Jvm.ClassFile.FieldType)) ∈ WS := ws_c3 194 rfl rfl
theorem wd_x714 : (Jvm.Cond.methodLink "java/lang/AbstractStringBuilder" (399 : Nat) ({ cls := "java/lang/String", name := "getBytes", desc := "([BIB)V" } : Jvm.MethodName)) ∈ WS := ws_c3 191 rfl rfl
theorem wd_x715 : (Jvm.Cond.instanceMethod ({ cls := "java/lang/String", name := "getBytes", desc := "([BIB)V" } : Jvm.MethodName)) ∈ WS := ws_c3 192 rfl rfl
theorem wd_x716 : (Jvm.Cond.selects "java/lang/String" ({ cls := "java/lang/String", name := "getBytes", desc := "([BIB)V" } : Jvm.MethodName) ({ cls := "java/lang/String", name := "getBytes", desc := "([BIB)V" } : Jvm.MethodName)) ∈ WS := ws_c3 193 rfl rfl
theorem lk_J5_399 : LkV RJ5 399 jJ0_getBytes_840e7 3 := ⟨⟨wd_x714, ⟨rfl, (by rw [cwd_nil rfl]; exact wd_x717)⟩, wd_103, ⟨by decide +kernel, by decide +kernel⟩, by decide +kernel⟩, wd_x715, wd_x716⟩
theorem wd_x733 : (Jvm.Cond.fieldLink "java/lang/Integer" (83 : Nat) "java/lang/Integer" "DigitOnes" "[B") ∈ WS := ws_c3 210 rfl rfl
theorem wd_x735 : (Jvm.Cond.fieldLink "java/lang/Integer" (87 : Nat) "java/lang/Integer" "DigitTens" "[B") ∈ WS := ws_c3 212 rfl rfl
theorem wd_x1068 : (Jvm.Cond.constant "java/lang/Integer" (264 : Nat) (65536 : Int32)) ∈ WS := ws_c5 65 rfl rfl
theorem wd_684 : (Jvm.Cond.constant "java/lang/Integer" (265 : Nat) (1431655765 : Int32)) ∈ WS := ws_c4 168 rfl rfl
theorem wd_685 : (Jvm.Cond.constant "java/lang/Integer" (266 : Nat) (858993459 : Int32)) ∈ WS := ws_c4 169 rfl rfl
theorem wd_686 : (Jvm.Cond.constant "java/lang/Integer" (267 : Nat) (252645135 : Int32)) ∈ WS := ws_c4 170 rfl rfl
theorem wd_x1067 : (Jvm.Cond.code ({ cls := "java/lang/Integer", name := "numberOfTrailingZeros", desc := "(I)I" } : Jvm.MethodName) prog_20_method_48_code (2 : Nat) (Option.some Jvm.ClassFile.FieldType.int)) ∈ WS := ws_c5 64 rfl rfl
theorem wd_x1065 : (Jvm.Cond.methodLink "java/lang/Long" (311 : Nat) ({ cls := "java/lang/Integer", name := "numberOfTrailingZeros", desc := "(I)I" } : Jvm.MethodName)) ∈ WS := ws_c5 62 rfl rfl
theorem wd_x1066 : (Jvm.Cond.static ({ cls := "java/lang/Integer", name := "numberOfTrailingZeros", desc := "(I)I" } : Jvm.MethodName)) ∈ WS := ws_c5 63 rfl rfl
theorem lk_J13_311 : LkS RJ13 311 jJ6_numberOfTrailingZeros_0f7a4 1 := ⟨⟨wd_x1065, ⟨rfl, (by rw [cwd_nil rfl]; exact wd_x1067)⟩, wd_114, ⟨by decide +kernel, by decide +kernel⟩, by decide +kernel⟩, wd_x1066⟩
theorem wd_x1229 : (Jvm.Cond.code ({ cls := "java/lang/String", name := "<init>", desc := "(Ljava/lang/AbstractStringBuilder;Ljava/lang/Void;)V" } : Jvm.MethodName) prog_26_method_150_code (5 : Nat) (Option.none : Option Jvm.ClassFile.FieldType)) ∈ WS := ws_c5 226 rfl rfl
theorem wd_x1227 : (Jvm.Cond.methodLink "java/lang/String" (489 : Nat) ({ cls := "java/lang/String", name := "<init>", desc := "(Ljava/lang/AbstractStringBuilder;Ljava/lang/Void;)V" } : Jvm.MethodName)) ∈ WS := ws_c5 224 rfl rfl
theorem wd_x1228 : (Jvm.Cond.instanceMethod ({ cls := "java/lang/String", name := "<init>", desc := "(Ljava/lang/AbstractStringBuilder;Ljava/lang/Void;)V" } : Jvm.MethodName)) ∈ WS := ws_c5 225 rfl rfl
theorem lk_J0_489 : LkI RJ0 489 jJ0_init_db425 2 := ⟨⟨wd_x1227, ⟨rfl, (by rw [cwd_nil rfl]; exact wd_x1229)⟩, wd_103, ⟨by decide +kernel, by decide +kernel⟩, by decide +kernel⟩, wd_x1228, rfl, rfl⟩
theorem wd_1786 : (Jvm.Cond.fieldLink "java/lang/String" (9 : Nat) "java/lang/String" "value" "[B") ∈ WS := ws_c6 29 rfl rfl
theorem fk_J0_9 : FK RJ0 9 8 0 (.array .byte) := ⟨RJ0, TJ0, 4, "java/lang/String", rfl, by decide, rfl, (Or.inl rfl), (Or.inl wd_1786), inW8⟩
theorem wd_373 : (Jvm.Cond.methodLink "java/lang/String" (335 : Nat) ({ cls := "java/lang/String", name := "coder", desc := "()B" } : Jvm.MethodName)) ∈ WS := ws_c2 168 rfl rfl
theorem lk_J0_335 : LkV RJ0 335 jJ0_coder_7d493 0 := ⟨⟨wd_373, ⟨rfl, (by rw [cwd_nil rfl]; exact wd_376)⟩, wd_103, ⟨by decide +kernel, by decide +kernel⟩, by decide +kernel⟩, wd_374, wd_375⟩
theorem wd_386 : (Jvm.Cond.code ({ cls := "java/lang/String", name := "isLatin1", desc := "()Z" } : Jvm.MethodName) prog_26_method_154_code (1 : Nat) (Option.some Jvm.ClassFile.FieldType.boolean)) ∈ WS := ws_c2 181 rfl rfl
theorem wd_383 : (Jvm.Cond.methodLink "java/lang/String" (492 : Nat) ({ cls := "java/lang/String", name := "isLatin1", desc := "()Z" } : Jvm.MethodName)) ∈ WS := ws_c2 178 rfl rfl
theorem wd_384 : (Jvm.Cond.instanceMethod ({ cls := "java/lang/String", name := "isLatin1", desc := "()Z" } : Jvm.MethodName)) ∈ WS := ws_c2 179 rfl rfl
theorem wd_385 : (Jvm.Cond.selects "java/lang/String" ({ cls := "java/lang/String", name := "isLatin1", desc := "()Z" } : Jvm.MethodName) ({ cls := "java/lang/String", name := "isLatin1", desc := "()Z" } : Jvm.MethodName)) ∈ WS := ws_c2 180 rfl rfl
theorem lk_J0_492 : LkV RJ0 492 jJ0_isLatin1_aae02 0 := ⟨⟨wd_383, ⟨rfl, (by rw [cwd_nil rfl]; exact wd_386)⟩, wd_103, ⟨by decide +kernel, by decide +kernel⟩, by decide +kernel⟩, wd_384, wd_385⟩
theorem wd_389 : (Jvm.Cond.code ({ cls := "java/lang/StringLatin1", name := "charAt", desc := "([BI)C" } : Jvm.MethodName) prog_28_method_2_code (2 : Nat) (Option.some Jvm.ClassFile.FieldType.char)) ∈ WS := ws_c2 184 rfl rfl
theorem wd_387 : (Jvm.Cond.methodLink "java/lang/String" (495 : Nat) ({ cls := "java/lang/StringLatin1", name := "charAt", desc := "([BI)C" } : Jvm.MethodName)) ∈ WS := ws_c2 182 rfl rfl
theorem wd_388 : (Jvm.Cond.static ({ cls := "java/lang/StringLatin1", name := "charAt", desc := "([BI)C" } : Jvm.MethodName)) ∈ WS := ws_c2 183 rfl rfl
theorem lk_J0_495 : LkS RJ0 495 jJ1_charAt_3b067 2 := ⟨⟨wd_387, ⟨rfl, (by rw [cwd_nil rfl]; exact wd_389)⟩, wd_104, ⟨by decide +kernel, by decide +kernel⟩, by decide +kernel⟩, wd_388⟩
theorem wd_x718 : (Jvm.Cond.methodLink "java/lang/String" (212 : Nat) ({ cls := "java/lang/System", name := "arraycopy", desc := "(Ljava/lang/Object;ILjava/lang/Object;II)V" } : Jvm.MethodName)) ∈ WS := ws_c3 195 rfl rfl
theorem wd_x1230 : (Jvm.Cond.methodLink "java/lang/String" (1 : Nat) ({ cls := "java/lang/Object", name := "<init>", desc := "()V" } : Jvm.MethodName)) ∈ WS := ws_c5 227 rfl rfl
theorem wd_x1235 : (Jvm.Cond.code ({ cls := "java/lang/AbstractStringBuilder", name := "getValue", desc := "()[B" } : Jvm.MethodName) prog_12_method_64_code (1 : Nat) (Option.some (Jvm.ClassFile.FieldType.array Jvm.ClassFile.FieldType.byte))) ∈ WS := ws_c5 232 rfl rfl
theorem wd_x1231 : (Jvm.Cond.methodLink "java/lang/String" (552 : Nat) ({ cls := "java/lang/AbstractStringBuilder", name := "getValue", desc := "()[B" } : Jvm.MethodName)) ∈ WS := ws_c5 228 rfl rfl
theorem wd_x1232 : (Jvm.Cond.instanceMethod ({ cls := "java/lang/AbstractStringBuilder", name := "getValue", desc := "()[B" } : Jvm.MethodName)) ∈ WS := ws_c5 229 rfl rfl
theorem wd_x1234 : (Jvm.Cond.selects "java/lang/StringBuilder" ({ cls := "java/lang/AbstractStringBuilder", name := "getValue", desc := "()[B" } : Jvm.MethodName) ({ cls := "java/lang/AbstractStringBuilder", name := "getValue", desc := "()[B" } : Jvm.MethodName)) ∈ WS := ws_c5 231 rfl rfl
theorem lk_J0_552 : LkP RJ0 552 jJ5_getValue_6d5f1 0 "java/lang/StringBuilder" := ⟨⟨wd_x1231, ⟨rfl, (by rw [cwd_nil rfl]; exact wd_x1235)⟩, wd_x58, ⟨by decide +kernel, by decide +kernel⟩, by decide +kernel⟩, wd_x1232, Or.inl wd_x1234⟩
theorem wd_x1241 : (Jvm.Cond.code ({ cls := "java/lang/StringBuilder", name := "length", desc := "()I" } : Jvm.MethodName) prog_27_method_93_code (1 : Nat) (Option.some Jvm.ClassFile.FieldType.int)) ∈ WS := ws_c5 238 rfl rfl
theorem wd_x1236 : (Jvm.Cond.methodLink "java/lang/String" (549 : Nat) ({ cls := "java/lang/AbstractStringBuilder", name := "length", desc := "()I" } : Jvm.MethodName)) ∈ WS := ws_c5 233 rfl rfl
theorem wd_x1238 : (Jvm.Cond.sameMethod "java/lang/AbstractStringBuilder" "java/lang/AbstractStringBuilder" "length" "()I") ∈ WS := ws_c5 235 rfl rfl
theorem wd_x1237 : (Jvm.Cond.instanceMethod ({ cls := "java/lang/AbstractStringBuilder", name := "length", desc := "()I" } : Jvm.MethodName)) ∈ WS := ws_c5 234 rfl rfl
theorem wd_x1243 : (Jvm.Cond.code ({ cls := "java/lang/AbstractStringBuilder", name := "length", desc := "()I" } : Jvm.MethodName) prog_12_method_6_code (1 : Nat) (Option.some Jvm.ClassFile.FieldType.int)) ∈ WS := ws_c6 0 rfl rfl
theorem wd_x1239 : (Jvm.Cond.selects "java/lang/StringBuilder" ({ cls := "java/lang/AbstractStringBuilder", name := "length", desc := "()I" } : Jvm.MethodName) ({ cls := "java/lang/StringBuilder", name := "length", desc := "()I" } : Jvm.MethodName)) ∈ WS := ws_c5 236 rfl rfl
theorem wd_x1240 : (Jvm.Cond.instanceMethod ({ cls := "java/lang/StringBuilder", name := "length", desc := "()I" } : Jvm.MethodName)) ∈ WS := ws_c5 237 rfl rfl
theorem lk_J0_549 : LkU RJ0 549 yJ5_length_8abf5 jJ4_length_8abf5 0 "java/lang/StringBuilder" := ⟨⟨rfl, (by rw [cwd_nil rfl]; exact wd_x1241)⟩, wd_x59, ⟨by decide +kernel, by decide +kernel⟩, by decide +kernel, wd_x1236, wd_x1238, ⟨wd_x1237, _, _, _, wd_x1243⟩, wd_x1239, wd_x1240⟩
theorem wd_x1244 : (Jvm.Cond.methodLink "java/lang/String" (1047 : Nat) ({ cls := "java/lang/AbstractStringBuilder", name := "isLatin1", desc := "()Z" } : Jvm.MethodName)) ∈ WS := ws_c6 1 rfl rfl
theorem lk_J0_1047 : LkP RJ0 1047 jJ5_isLatin1_aae02 0 "java/lang/StringBuilder" := ⟨⟨wd_x1244, ⟨rfl, (by rw [cwd_nil rfl]; exact wd_x661)⟩, wd_x58, ⟨by decide +kernel, by decide +kernel⟩, by decide +kernel⟩, wd_x658, Or.inl wd_x660⟩
theorem wd_1787 : (Jvm.Cond.fieldLink "java/lang/String" (15 : Nat) "java/lang/String" "coder" "B") ∈ WS := ws_c6 30 rfl rfl
theorem fp_J0_15 : FP RJ0 15 8 1 (.byte) true := ⟨RJ0, TJ0, 4, tyJ0, "java/lang/String", rfl, by decide, rfl, ⟨(Or.inl rfl), fun h => ⟨rfl, rfl⟩⟩, (Or.inl wd_1787), inW8, tyJ0_ok, nmJ0, rfl, tyJ0_ok 1 (by decide), rfl⟩
theorem wd_x1247 : (Jvm.Cond.code ({ cls := "java/util/Arrays", name := "copyOfRange", desc := "([BII)[B" } : Jvm.MethodName) prog_37_method_132_code (3 : Nat) (Option.some (Jvm.ClassFile.FieldType.array Jvm.ClassFile.FieldType.byte))) ∈ WS := ws_c6 4 rfl rfl
theorem wd_x1245 : (Jvm.Cond.methodLink "java/lang/String" (54 : Nat) ({ cls := "java/util/Arrays", name := "copyOfRange", desc := "([BII)[B" } : Jvm.MethodName)) ∈ WS := ws_c6 2 rfl rfl
theorem wd_x1246 : (Jvm.Cond.static ({ cls := "java/util/Arrays", name := "copyOfRange", desc := "([BII)[B" } : Jvm.MethodName)) ∈ WS := ws_c6 3 rfl rfl
theorem lk_J0_54 : LkS RJ0 54 jJ7_copyOfRange_39247 3 := ⟨⟨wd_x1245, ⟨rfl, (by rw [cwd_nil rfl]; exact wd_x1247)⟩, wd_x64, ⟨by decide +kernel, by decide +kernel⟩, by decide +kernel⟩, wd_x1246⟩
theorem fp_J0_9 : FP RJ0 9 8 0 (.array .byte) true := ⟨RJ0, TJ0, 4, tyJ0, "java/lang/String", rfl, by decide, rfl, ⟨(Or.inl rfl), fun h => ⟨rfl, rfl⟩⟩, (Or.inl wd_1786), inW8, tyJ0_ok, nmJ0, rfl, tyJ0_ok 0 (by decide), rfl⟩
theorem wd_377 : (Jvm.Cond.fieldLink "java/lang/String" (38 : Nat) "java/lang/String" "COMPACT_STRINGS" "Z") ∈ WS := ws_c2 172 rfl rfl
theorem wd_x1208 : (Jvm.Cond.fieldLink "java/lang/String" (1048 : Nat) "java/lang/AbstractStringBuilder" "maybeLatin1" "Z") ∈ WS := ws_c5 205 rfl rfl
theorem fk_J0_1048 : FK RJ0 1048 9 2 (.boolean) := ⟨RJ4, TJ4, 4, "java/lang/AbstractStringBuilder", rfl, by decide, rfl, (Or.inl rfl), (Or.inl wd_x1208), inW9⟩
theorem fk_J0_15 : FK RJ0 15 8 1 (.byte) := ⟨RJ0, TJ0, 4, "java/lang/String", rfl, by decide, rfl, (Or.inl rfl), (Or.inl wd_1787), inW8⟩
theorem wd_393 : (Jvm.Cond.fieldLink "java/lang/String" (1053 : Nat) "jdk/internal/util/Preconditions" "SIOOBE_FORMATTER" "Ljava/util/function/BiFunction;") ∈ WS := ws_c2 188 rfl rfl
theorem wd_397 : (Jvm.Cond.code ({ cls := "jdk/internal/util/Preconditions", name := "checkIndex", desc := "(IILjava/util/function/BiFunction;)I" } : Jvm.MethodName) prog_44_method_11_code (3 : Nat) (Option.some Jvm.ClassFile.FieldType.int)) ∈ WS := ws_c2 192 rfl rfl
theorem wd_395 : (Jvm.Cond.methodLink "java/lang/String" (1059 : Nat) ({ cls := "jdk/internal/util/Preconditions", name := "checkIndex", desc := "(IILjava/util/function/BiFunction;)I" } : Jvm.MethodName)) ∈ WS := ws_c2 190 rfl rfl
theorem wd_396 : (Jvm.Cond.static ({ cls := "jdk/internal/util/Preconditions", name := "checkIndex", desc := "(IILjava/util/function/BiFunction;)I" } : Jvm.MethodName)) ∈ WS := ws_c2 191 rfl rfl
theorem lk_J0_1059 : LkS RJ0 1059 jJ3_checkIndex_8e157 3 := ⟨⟨wd_395, ⟨rfl, (by rw [cwd_nil rfl]; exact wd_397)⟩, wd_105, ⟨by decide +kernel, by decide +kernel⟩, by decide +kernel⟩, wd_396⟩
theorem wd_x1204 : (Jvm.Cond.code ({ cls := "java/lang/AbstractStringBuilder", name := "<init>", desc := "(I)V" } : Jvm.MethodName) prog_12_method_2_code (2 : Nat) (Option.none : Option Jvm.ClassFile.FieldType)) ∈ WS := ws_c5 201 rfl rfl
theorem wd_x1202 : (Jvm.Cond.methodLink "java/lang/StringBuilder" (1 : Nat) ({ cls := "java/lang/AbstractStringBuilder", name := "<init>", desc := "(I)V" } : Jvm.MethodName)) ∈ WS := ws_c5 199 rfl rfl
theorem wd_x1203 : (Jvm.Cond.instanceMethod ({ cls := "java/lang/AbstractStringBuilder", name := "<init>", desc := "(I)V" } : Jvm.MethodName)) ∈ WS := ws_c5 200 rfl rfl
theorem lk_J4_1 : LkI RJ4 1 jJ5_init_d00df 1 := ⟨⟨wd_x1202, ⟨rfl, (by rw [cwd_nil rfl]; exact wd_x1204)⟩, wd_x58, ⟨by decide +kernel, by decide +kernel⟩, by decide +kernel⟩, wd_x1203, rfl, rfl⟩
theorem wd_x621 : (Jvm.Cond.code ({ cls := "java/lang/AbstractStringBuilder", name := "append", desc := "(Ljava/lang/String;)Ljava/lang/AbstractStringBuilder;" } : Jvm.MethodName) prog_12_method_22_code (3 : Nat) (Option.some (Jvm.ClassFile.FieldType.object "java/lang/AbstractStringBuilder"))) ∈ WS := ws_c3 98 rfl rfl
theorem wd_x618 : (Jvm.Cond.methodLink "java/lang/StringBuilder" (29 : Nat) ({ cls := "java/lang/AbstractStringBuilder", name := "append", desc := "(Ljava/lang/String;)Ljava/lang/AbstractStringBuilder;" } : Jvm.MethodName)) ∈ WS := ws_c3 95 rfl rfl
theorem wd_x1309 : (Jvm.Cond.sameMethod "java/lang/AbstractStringBuilder" "java/lang/AbstractStringBuilder" "append" "(Ljava/lang/String;)Ljava/lang/AbstractStringBuilder;") ∈ WS := ws_c6 66 rfl rfl
theorem wd_x619 : (Jvm.Cond.superclass "java/lang/StringBuilder" "java/lang/AbstractStringBuilder") ∈ WS := ws_c3 96 rfl rfl
theorem wd_x620 : (Jvm.Cond.instanceMethod ({ cls := "java/lang/AbstractStringBuilder", name := "append", desc := "(Ljava/lang/String;)Ljava/lang/AbstractStringBuilder;" } : Jvm.MethodName)) ∈ WS := ws_c3 97 rfl rfl
theorem lk_J4_29 : LkSU RJ4 29 jJ5_append_cf1ce 1 := ⟨⟨rfl, (by rw [cwd_nil rfl]; exact wd_x621)⟩, wd_x618, wd_x1309, wd_x619, wd_x620, wd_x58, by decide, by decide +kernel⟩
theorem wd_x752 : (Jvm.Cond.code ({ cls := "java/lang/AbstractStringBuilder", name := "append", desc := "(C)Ljava/lang/AbstractStringBuilder;" } : Jvm.MethodName) prog_12_method_31_code (2 : Nat) (Option.some (Jvm.ClassFile.FieldType.object "java/lang/AbstractStringBuilder"))) ∈ WS := ws_c3 229 rfl rfl
theorem wd_x750 : (Jvm.Cond.methodLink "java/lang/StringBuilder" (50 : Nat) ({ cls := "java/lang/AbstractStringBuilder", name := "append", desc := "(C)Ljava/lang/AbstractStringBuilder;" } : Jvm.MethodName)) ∈ WS := ws_c3 227 rfl rfl
theorem wd_x1317 : (Jvm.Cond.sameMethod "java/lang/AbstractStringBuilder" "java/lang/AbstractStringBuilder" "append" "(C)Ljava/lang/AbstractStringBuilder;") ∈ WS := ws_c6 74 rfl rfl
theorem wd_x751 : (Jvm.Cond.instanceMethod ({ cls := "java/lang/AbstractStringBuilder", name := "append", desc := "(C)Ljava/lang/AbstractStringBuilder;" } : Jvm.MethodName)) ∈ WS := ws_c3 228 rfl rfl
theorem lk_J4_50 : LkSU RJ4 50 jJ5_append_3fe6f 1 := ⟨⟨rfl, (by rw [cwd_nil rfl]; exact wd_x752)⟩, wd_x750, wd_x1317, wd_x619, wd_x751, wd_x58, by decide, by decide +kernel⟩
theorem wd_x726 : (Jvm.Cond.code ({ cls := "java/lang/AbstractStringBuilder", name := "append", desc := "(I)Ljava/lang/AbstractStringBuilder;" } : Jvm.MethodName) prog_12_method_32_code (4 : Nat) (Option.some (Jvm.ClassFile.FieldType.object "java/lang/AbstractStringBuilder"))) ∈ WS := ws_c3 203 rfl rfl
theorem wd_x724 : (Jvm.Cond.methodLink "java/lang/StringBuilder" (53 : Nat) ({ cls := "java/lang/AbstractStringBuilder", name := "append", desc := "(I)Ljava/lang/AbstractStringBuilder;" } : Jvm.MethodName)) ∈ WS := ws_c3 201 rfl rfl
theorem wd_x1316 : (Jvm.Cond.sameMethod "java/lang/AbstractStringBuilder" "java/lang/AbstractStringBuilder" "append" "(I)Ljava/lang/AbstractStringBuilder;") ∈ WS := ws_c6 73 rfl rfl
theorem wd_x725 : (Jvm.Cond.instanceMethod ({ cls := "java/lang/AbstractStringBuilder", name := "append", desc := "(I)Ljava/lang/AbstractStringBuilder;" } : Jvm.MethodName)) ∈ WS := ws_c3 202 rfl rfl
theorem lk_J4_53 : LkSU RJ4 53 jJ5_append_c97b9 1 := ⟨⟨rfl, (by rw [cwd_nil rfl]; exact wd_x726)⟩, wd_x724, wd_x1316, wd_x619, wd_x725, wd_x58, by decide, by decide +kernel⟩
theorem wd_x1222 : (Jvm.Cond.classLink "java/lang/StringBuilder" (18 : Nat) "java/lang/String") ∈ WS := ws_c5 219 rfl rfl
theorem wd_x1223 : (Jvm.Cond.instantiable "java/lang/String" (4 : Nat)) ∈ WS := ws_c5 220 rfl rfl
theorem wd_x1226 : (Jvm.Cond.code ({ cls := "java/lang/String", name := "<init>", desc := "(Ljava/lang/StringBuilder;)V" } : Jvm.MethodName) prog_26_method_53_code (2 : Nat) (Option.none : Option Jvm.ClassFile.FieldType)) ∈ WS := ws_c5 223 rfl rfl
theorem wd_x1224 : (Jvm.Cond.methodLink "java/lang/StringBuilder" (137 : Nat) ({ cls := "java/lang/String", name := "<init>", desc := "(Ljava/lang/StringBuilder;)V" } : Jvm.MethodName)) ∈ WS := ws_c5 221 rfl rfl
theorem wd_x1225 : (Jvm.Cond.instanceMethod ({ cls := "java/lang/String", name := "<init>", desc := "(Ljava/lang/StringBuilder;)V" } : Jvm.MethodName)) ∈ WS := ws_c5 222 rfl rfl
theorem lk_J4_137 : LkI RJ4 137 jJ0_init_81219 1 := ⟨⟨wd_x1224, ⟨rfl, (by rw [cwd_nil rfl]; exact wd_x1226)⟩, wd_103, ⟨by decide +kernel, by decide +kernel⟩, by decide +kernel⟩, wd_x1225, rfl, rfl⟩
theorem wd_x1242 : (Jvm.Cond.methodLink "java/lang/StringBuilder" (343 : Nat) ({ cls := "java/lang/AbstractStringBuilder", name := "length", desc := "()I" } : Jvm.MethodName)) ∈ WS := ws_c5 239 rfl rfl
theorem lk_J4_343 : LkSU RJ4 343 jJ5_length_8abf5 0 := ⟨⟨rfl, (by rw [cwd_nil rfl]; exact wd_x1243)⟩, wd_x1242, wd_x1238, wd_x619, wd_x1237, wd_x58, by decide, by decide +kernel⟩
theorem wd_392 : (Jvm.Cond.code ({ cls := "java/lang/String", name := "checkIndex", desc := "(II)V" } : Jvm.MethodName) prog_26_method_155_code (2 : Nat) (Option.none : Option Jvm.ClassFile.FieldType)) ∈ WS := ws_c2 187 rfl rfl
theorem wd_390 : (Jvm.Cond.methodLink "java/lang/StringLatin1" (9 : Nat) ({ cls := "java/lang/String", name := "checkIndex", desc := "(II)V" } : Jvm.MethodName)) ∈ WS := ws_c2 185 rfl rfl
theorem wd_391 : (Jvm.Cond.static ({ cls := "java/lang/String", name := "checkIndex", desc := "(II)V" } : Jvm.MethodName)) ∈ WS := ws_c2 186 rfl rfl
theorem lk_J1_9 : LkS RJ1 9 jJ0_checkIndex_df160 2 := ⟨⟨wd_390, ⟨rfl, (by rw [cwd_nil rfl]; exact wd_392)⟩, wd_103, ⟨by decide +kernel, by decide +kernel⟩, by decide +kernel⟩, wd_391⟩
theorem wd_x1293 : (Jvm.Cond.methodLink "java/util/AbstractCollection" (1 : Nat) ({ cls := "java/lang/Object", name := "<init>", desc := "()V" } : Jvm.MethodName)) ∈ WS := ws_c6 50 rfl rfl
theorem wd_x1292 : (Jvm.Cond.code ({ cls := "java/util/AbstractCollection", name := "<init>", desc := "()V" } : Jvm.MethodName) prog_34_method_1_code (1 : Nat) (Option.none : Option Jvm.ClassFile.FieldType)) ∈ WS := ws_c6 49 rfl rfl
theorem wd_x1290 : (Jvm.Cond.methodLink "java/util/AbstractList" (1 : Nat) ({ cls := "java/util/AbstractCollection", name := "<init>", desc := "()V" } : Jvm.MethodName)) ∈ WS := ws_c6 47 rfl rfl
theorem wd_x1291 : (Jvm.Cond.instanceMethod ({ cls := "java/util/AbstractCollection", name := "<init>", desc := "()V" } : Jvm.MethodName)) ∈ WS := ws_c6 48 rfl rfl
theorem lk_Jxc12de_1 : LkI RJxc12de 1 jJxa1e45_init_da8c8 0 := ⟨⟨wd_x1290, ⟨rfl, (by rw [cwd_nil rfl]; exact wd_x1292)⟩, wd_x69, ⟨by decide +kernel, by decide +kernel⟩, by decide +kernel⟩, wd_x1291, rfl, rfl⟩
theorem wd_x1296 : (Jvm.Cond.fieldLink "java/util/AbstractList" (7 : Nat) "java/util/AbstractList" "modCount" "I") ∈ WS := ws_c6 53 rfl rfl
theorem fp_Jxc12de_7 : FP RJxc12de 7 10 0 (.int) false := ⟨RJx4a65c, TJx4a65c, 3, tyJx4a65c, "java/util/AbstractList", rfl, by decide, rfl, ⟨(Or.inl rfl), fun h => nomatch h⟩, (Or.inl wd_x1296), inW10, tyJx4a65c_ok, nmJx4a65c, rfl, tyJx4a65c_ok 0 (by decide), rfl⟩
theorem wd_x1289 : (Jvm.Cond.code ({ cls := "java/util/AbstractList", name := "<init>", desc := "()V" } : Jvm.MethodName) prog_35_method_1_code (1 : Nat) (Option.none : Option Jvm.ClassFile.FieldType)) ∈ WS := ws_c6 46 rfl rfl
theorem wd_x1287 : (Jvm.Cond.methodLink "java/util/ArrayList" (1 : Nat) ({ cls := "java/util/AbstractList", name := "<init>", desc := "()V" } : Jvm.MethodName)) ∈ WS := ws_c6 44 rfl rfl
theorem wd_x1288 : (Jvm.Cond.instanceMethod ({ cls := "java/util/AbstractList", name := "<init>", desc := "()V" } : Jvm.MethodName)) ∈ WS := ws_c6 45 rfl rfl
theorem lk_Jx4a65c_1 : LkI RJx4a65c 1 jJxc12de_init_da8c8 0 := ⟨⟨wd_x1287, ⟨rfl, (by rw [cwd_nil rfl]; exact wd_x1289)⟩, wd_x70, ⟨by decide +kernel, by decide +kernel⟩, by decide +kernel⟩, wd_x1288, rfl, rfl⟩
theorem wd_x1146 : (Jvm.Cond.fieldLink "java/util/ArrayList" (39 : Nat) "java/util/ArrayList" "DEFAULTCAPACITY_EMPTY_ELEMENTDATA" "[Ljava/lang/Object;") ∈ WS := ws_c5 143 rfl rfl
theorem wd_x1294 : (Jvm.Cond.fieldLink "java/util/ArrayList" (9 : Nat) "java/util/ArrayList" "elementData" "[Ljava/lang/Object;") ∈ WS := ws_c6 51 rfl rfl
theorem fp_Jx4a65c_9 : FP RJx4a65c 9 10 1 (.array (.object "java/lang/Object")) false := ⟨RJx4a65c, TJx4a65c, 3, tyJx4a65c, "java/util/ArrayList", rfl, by decide, rfl, ⟨(Or.inl rfl), fun h => nomatch h⟩, (Or.inl wd_x1294), inW10, tyJx4a65c_ok, nmJx4a65c, rfl, tyJx4a65c_ok 1 (by decide), rfl⟩
theorem fk_Jx4a65c_9 : FK RJx4a65c 9 10 1 (.array (.object "java/lang/Object")) := ⟨RJx4a65c, TJx4a65c, 3, "java/util/ArrayList", rfl, by decide, rfl, (Or.inl rfl), (Or.inl wd_x1294), inW10⟩
theorem wd_x1148 : (Jvm.Cond.methodLink "java/util/ArrayList" (73 : Nat) ({ cls := "jdk/internal/util/ArraysSupport", name := "newLength", desc := "(III)I" } : Jvm.MethodName)) ∈ WS := ws_c5 145 rfl rfl
theorem lk_Jx4a65c_73 : LkS RJx4a65c 73 jJ8_newLength_cabcc 3 := ⟨⟨wd_x1148, ⟨rfl, (by rw [cwd_nil rfl]; exact wd_x636)⟩, wd_x62, ⟨by decide +kernel, by decide +kernel⟩, by decide +kernel⟩, wd_x635⟩
theorem wd_1628 : (Jvm.Cond.code ({ cls := "java/lang/Math", name := "max", desc := "(II)I" } : Jvm.MethodName) prog_23_method_65_code (2 : Nat) (Option.some Jvm.ClassFile.FieldType.int)) ∈ WS := ws_c3 116 rfl rfl
theorem wd_x1175 : (Jvm.Cond.methodLink "java/util/ArrayList" (79 : Nat) ({ cls := "java/lang/Math", name := "max", desc := "(II)I" } : Jvm.MethodName)) ∈ WS := ws_c5 172 rfl rfl
theorem wd_1627 : (Jvm.Cond.static ({ cls := "java/lang/Math", name := "max", desc := "(II)I" } : Jvm.MethodName)) ∈ WS := ws_c3 115 rfl rfl
theorem lk_Jx4a65c_79 : LkS RJx4a65c 79 jJ9_max_7cf53 2 := ⟨⟨wd_x1175, ⟨rfl, (by rw [cwd_nil rfl]; exact wd_1628)⟩, wd_107, ⟨by decide +kernel, by decide +kernel⟩, by decide +kernel⟩, wd_1627⟩
theorem wd_x1176 : (Jvm.Cond.classLink "java/util/ArrayList" (7 : Nat) "java/lang/Object") ∈ WS := ws_c5 173 rfl rfl
theorem wd_x1295 : (Jvm.Cond.fieldLink "java/util/ArrayList" (48 : Nat) "java/util/ArrayList" "size" "I") ∈ WS := ws_c6 52 rfl rfl
theorem fk_Jx4a65c_48 : FK RJx4a65c 48 10 2 (.int) := ⟨RJx4a65c, TJx4a65c, 3, "java/util/ArrayList", rfl, by decide, rfl, (Or.inl rfl), (Or.inl wd_x1295), inW10⟩
theorem wd_x1145 : (Jvm.Cond.code ({ cls := "java/util/ArrayList", name := "grow", desc := "(I)[Ljava/lang/Object;" } : Jvm.MethodName) prog_36_method_6_code (4 : Nat) (Option.some (Jvm.ClassFile.FieldType.array (Jvm.ClassFile.FieldType.object "java/lang/Object")))) ∈ WS := ws_c5 142 rfl rfl
theorem wd_x1142 : (Jvm.Cond.methodLink "java/util/ArrayList" (69 : Nat) ({ cls := "java/util/ArrayList", name := "grow", desc := "(I)[Ljava/lang/Object;" } : Jvm.MethodName)) ∈ WS := ws_c5 139 rfl rfl
theorem wd_x1144 : (Jvm.Cond.instanceMethod ({ cls := "java/util/ArrayList", name := "grow", desc := "(I)[Ljava/lang/Object;" } : Jvm.MethodName)) ∈ WS := ws_c5 141 rfl rfl
theorem wd_x42 : (Jvm.Cond.selects "java/util/ArrayList" (⟨"java/util/ArrayList", "grow", "(I)[Ljava/lang/Object;"⟩ : Jvm.MethodName) (⟨"java/util/ArrayList", "grow", "(I)[Ljava/lang/Object;"⟩ : Jvm.MethodName)) ∈ WS := ws_c0 42 rfl rfl
theorem lk_Jx4a65c_69 : LkV RJx4a65c 69 jJx4a65c_grow_92f84 1 := ⟨⟨wd_x1142, ⟨rfl, (by rw [cwd_nil rfl]; exact wd_x1145)⟩, wd_x71, ⟨by decide +kernel, by decide +kernel⟩, by decide +kernel⟩, wd_x1144, wd_x42⟩
theorem wd_x1141 : (Jvm.Cond.code ({ cls := "java/util/ArrayList", name := "grow", desc := "()[Ljava/lang/Object;" } : Jvm.MethodName) prog_36_method_7_code (1 : Nat) (Option.some (Jvm.ClassFile.FieldType.array (Jvm.ClassFile.FieldType.object "java/lang/Object")))) ∈ WS := ws_c5 138 rfl rfl
theorem wd_x1138 : (Jvm.Cond.methodLink "java/util/ArrayList" (129 : Nat) ({ cls := "java/util/ArrayList", name := "grow", desc := "()[Ljava/lang/Object;" } : Jvm.MethodName)) ∈ WS := ws_c5 135 rfl rfl
theorem wd_x1140 : (Jvm.Cond.instanceMethod ({ cls := "java/util/ArrayList", name := "grow", desc := "()[Ljava/lang/Object;" } : Jvm.MethodName)) ∈ WS := ws_c5 137 rfl rfl
theorem wd_x41 : (Jvm.Cond.selects "java/util/ArrayList" (⟨"java/util/ArrayList", "grow", "()[Ljava/lang/Object;"⟩ : Jvm.MethodName) (⟨"java/util/ArrayList", "grow", "()[Ljava/lang/Object;"⟩ : Jvm.MethodName)) ∈ WS := ws_c0 41 rfl rfl
theorem lk_Jx4a65c_129 : LkV RJx4a65c 129 jJx4a65c_grow_d5877 0 := ⟨⟨wd_x1138, ⟨rfl, (by rw [cwd_nil rfl]; exact wd_x1141)⟩, wd_x71, ⟨by decide +kernel, by decide +kernel⟩, by decide +kernel⟩, wd_x1140, wd_x41⟩
theorem fp_Jx4a65c_48 : FP RJx4a65c 48 10 2 (.int) false := ⟨RJx4a65c, TJx4a65c, 3, tyJx4a65c, "java/util/ArrayList", rfl, by decide, rfl, ⟨(Or.inl rfl), fun h => nomatch h⟩, (Or.inl wd_x1295), inW10, tyJx4a65c_ok, nmJx4a65c, rfl, tyJx4a65c_ok 2 (by decide), rfl⟩
theorem wd_x1298 : (Jvm.Cond.sameField "java/util/ArrayList" "java/util/AbstractList" "modCount" "I") ∈ WS := ws_c6 55 rfl rfl
theorem wd_x1297 : (Jvm.Cond.fieldLink "java/util/ArrayList" (63 : Nat) "java/util/ArrayList" "modCount" "I") ∈ WS := ws_c6 54 rfl rfl
theorem fk_Jx4a65c_63 : FK RJx4a65c 63 10 0 (.int) := ⟨RJx4a65c, TJx4a65c, 3, "java/util/ArrayList", rfl, by decide, rfl, (Or.inr wd_x1298), (Or.inl wd_x1297), inW10⟩
theorem fp_Jx4a65c_63 : FP RJx4a65c 63 10 0 (.int) false := ⟨RJx4a65c, TJx4a65c, 3, tyJx4a65c, "java/util/ArrayList", rfl, by decide, rfl, ⟨(Or.inr wd_x1298), fun h => nomatch h⟩, (Or.inl wd_x1297), inW10, tyJx4a65c_ok, nmJx4a65c, rfl, tyJx4a65c_ok 0 (by decide), rfl⟩
theorem wd_x1137 : (Jvm.Cond.code ({ cls := "java/util/ArrayList", name := "add", desc := "(Ljava/lang/Object;[Ljava/lang/Object;I)V" } : Jvm.MethodName) prog_36_method_24_code (4 : Nat) (Option.none : Option Jvm.ClassFile.FieldType)) ∈ WS := ws_c5 134 rfl rfl
theorem wd_x1134 : (Jvm.Cond.methodLink "java/util/ArrayList" (131 : Nat) ({ cls := "java/util/ArrayList", name := "add", desc := "(Ljava/lang/Object;[Ljava/lang/Object;I)V" } : Jvm.MethodName)) ∈ WS := ws_c5 131 rfl rfl
theorem wd_x1136 : (Jvm.Cond.instanceMethod ({ cls := "java/util/ArrayList", name := "add", desc := "(Ljava/lang/Object;[Ljava/lang/Object;I)V" } : Jvm.MethodName)) ∈ WS := ws_c5 133 rfl rfl
theorem wd_x40 : (Jvm.Cond.selects "java/util/ArrayList" (⟨"java/util/ArrayList", "add", "(Ljava/lang/Object;[Ljava/lang/Object;I)V"⟩ : Jvm.MethodName) (⟨"java/util/ArrayList", "add", "(Ljava/lang/Object;[Ljava/lang/Object;I)V"⟩ : Jvm.MethodName)) ∈ WS := ws_c0 40 rfl rfl
theorem lk_Jx4a65c_131 : LkV RJx4a65c 131 jJx4a65c_add_72be8 3 := ⟨⟨wd_x1134, ⟨rfl, (by rw [cwd_nil rfl]; exact wd_x1137)⟩, wd_x71, ⟨by decide +kernel, by decide +kernel⟩, by decide +kernel⟩, wd_x1136, wd_x40⟩
theorem wd_x856 : (Jvm.Cond.code ({ cls := "java/util/Objects", name := "checkIndex", desc := "(II)I" } : Jvm.MethodName) prog_40_method_17_code (2 : Nat) (Option.some Jvm.ClassFile.FieldType.int)) ∈ WS := ws_c4 93 rfl rfl
theorem wd_x854 : (Jvm.Cond.methodLink "java/util/ArrayList" (118 : Nat) ({ cls := "java/util/Objects", name := "checkIndex", desc := "(II)I" } : Jvm.MethodName)) ∈ WS := ws_c4 91 rfl rfl
theorem wd_x855 : (Jvm.Cond.static ({ cls := "java/util/Objects", name := "checkIndex", desc := "(II)I" } : Jvm.MethodName)) ∈ WS := ws_c4 92 rfl rfl
theorem lk_Jx4a65c_118 : LkS RJx4a65c 118 jJ15_checkIndex_7cf53 2 := ⟨⟨wd_x854, ⟨rfl, (by rw [cwd_nil rfl]; exact wd_x856)⟩, wd_x72, ⟨by decide +kernel, by decide +kernel⟩, by decide +kernel⟩, wd_x855⟩
theorem wd_x862 : (Jvm.Cond.code ({ cls := "java/util/ArrayList", name := "fastRemove", desc := "([Ljava/lang/Object;I)V" } : Jvm.MethodName) prog_36_method_39_code (4 : Nat) (Option.none : Option Jvm.ClassFile.FieldType)) ∈ WS := ws_c4 99 rfl rfl
theorem wd_x858 : (Jvm.Cond.methodLink "java/util/ArrayList" (144 : Nat) ({ cls := "java/util/ArrayList", name := "fastRemove", desc := "([Ljava/lang/Object;I)V" } : Jvm.MethodName)) ∈ WS := ws_c4 95 rfl rfl
theorem wd_x860 : (Jvm.Cond.instanceMethod ({ cls := "java/util/ArrayList", name := "fastRemove", desc := "([Ljava/lang/Object;I)V" } : Jvm.MethodName)) ∈ WS := ws_c4 97 rfl rfl
theorem wd_x25 : (Jvm.Cond.selects "java/util/ArrayList" (⟨"java/util/ArrayList", "fastRemove", "([Ljava/lang/Object;I)V"⟩ : Jvm.MethodName) (⟨"java/util/ArrayList", "fastRemove", "([Ljava/lang/Object;I)V"⟩ : Jvm.MethodName)) ∈ WS := ws_c0 25 rfl rfl
theorem lk_Jx4a65c_144 : LkV RJx4a65c 144 jJx4a65c_fastRemove_b59b0 2 := ⟨⟨wd_x858, ⟨rfl, (by rw [cwd_nil rfl]; exact wd_x862)⟩, wd_x71, ⟨by decide +kernel, by decide +kernel⟩, by decide +kernel⟩, wd_x860, wd_x25⟩
theorem wd_x863 : (Jvm.Cond.methodLink "java/util/ArrayList" (112 : Nat) ({ cls := "java/lang/System", name := "arraycopy", desc := "(Ljava/lang/Object;ILjava/lang/Object;II)V" } : Jvm.MethodName)) ∈ WS := ws_c4 100 rfl rfl
theorem wd_x648 : (Jvm.Cond.methodLink "java/util/Arrays" (310 : Nat) ({ cls := "[B", name := "clone", desc := "()Ljava/lang/Object;" } : Jvm.MethodName)) ∈ WS := ws_c3 125 rfl rfl
theorem wd_x649 : (Jvm.Cond.sameMethod "[B" "java/lang/Object" "clone" "()Ljava/lang/Object;") ∈ WS := ws_c3 126 rfl rfl
theorem wd_x652 : (Jvm.Cond.selects "[B" ({ cls := "[B", name := "clone", desc := "()Ljava/lang/Object;" } : Jvm.MethodName) ({ cls := "java/lang/Object", name := "clone", desc := "()Ljava/lang/Object;" } : Jvm.MethodName)) ∈ WS := ws_c3 129 rfl rfl
theorem wd_x654 : (Jvm.Cond.classLink "java/util/Arrays" (311 : Nat) "[B") ∈ WS := ws_c3 131 rfl rfl
theorem wd_x655 : (Jvm.Cond.methodLink "java/util/Arrays" (304 : Nat) ({ cls := "java/lang/Math", name := "min", desc := "(II)I" } : Jvm.MethodName)) ∈ WS := ws_c3 132 rfl rfl
theorem lk_J7_304 : LkS RJ7 304 jJ9_min_7cf53 2 := ⟨⟨wd_x655, ⟨rfl, (by rw [cwd_nil rfl]; exact wd_431)⟩, wd_107, ⟨by decide +kernel, by decide +kernel⟩, by decide +kernel⟩, wd_430⟩
theorem wd_x656 : (Jvm.Cond.methodLink "java/util/Arrays" (150 : Nat) ({ cls := "java/lang/System", name := "arraycopy", desc := "(Ljava/lang/Object;ILjava/lang/Object;II)V" } : Jvm.MethodName)) ∈ WS := ws_c3 133 rfl rfl
theorem wd_x1254 : (Jvm.Cond.classLink "java/util/Arrays" (43 : Nat) "java/lang/IllegalArgumentException") ∈ WS := ws_c6 11 rfl rfl
theorem wd_x1255 : (Jvm.Cond.classLink "java/util/Arrays" (45 : Nat) "java/lang/StringBuilder") ∈ WS := ws_c6 12 rfl rfl
theorem wd_x1198 : (Jvm.Cond.instantiable "java/lang/StringBuilder" (4 : Nat)) ∈ WS := ws_c5 195 rfl rfl
theorem wd_x1201 : (Jvm.Cond.code ({ cls := "java/lang/StringBuilder", name := "<init>", desc := "()V" } : Jvm.MethodName) prog_27_method_1_code (1 : Nat) (Option.none : Option Jvm.ClassFile.FieldType)) ∈ WS := ws_c5 198 rfl rfl
theorem wd_x1256 : (Jvm.Cond.methodLink "java/util/Arrays" (47 : Nat) ({ cls := "java/lang/StringBuilder", name := "<init>", desc := "()V" } : Jvm.MethodName)) ∈ WS := ws_c6 13 rfl rfl
theorem wd_x1200 : (Jvm.Cond.instanceMethod ({ cls := "java/lang/StringBuilder", name := "<init>", desc := "()V" } : Jvm.MethodName)) ∈ WS := ws_c5 197 rfl rfl
theorem lk_J7_47 : LkI RJ7 47 jJ4_init_da8c8 0 := ⟨⟨wd_x1256, ⟨rfl, (by rw [cwd_nil rfl]; exact wd_x1201)⟩, wd_x59, ⟨by decide +kernel, by decide +kernel⟩, by decide +kernel⟩, wd_x1200, rfl, rfl⟩
theorem wd_x723 : (Jvm.Cond.code ({ cls := "java/lang/StringBuilder", name := "append", desc := "(I)Ljava/lang/StringBuilder;" } : Jvm.MethodName) prog_27_method_15_code (2 : Nat) (Option.some (Jvm.ClassFile.FieldType.object "java/lang/StringBuilder"))) ∈ WS := ws_c3 200 rfl rfl
theorem wd_x1257 : (Jvm.Cond.methodLink "java/util/Arrays" (54 : Nat) ({ cls := "java/lang/StringBuilder", name := "append", desc := "(I)Ljava/lang/StringBuilder;" } : Jvm.MethodName)) ∈ WS := ws_c6 14 rfl rfl
theorem wd_x721 : (Jvm.Cond.instanceMethod ({ cls := "java/lang/StringBuilder", name := "append", desc := "(I)Ljava/lang/StringBuilder;" } : Jvm.MethodName)) ∈ WS := ws_c3 198 rfl rfl
theorem wd_x722 : (Jvm.Cond.selects "java/lang/StringBuilder" ({ cls := "java/lang/StringBuilder", name := "append", desc := "(I)Ljava/lang/StringBuilder;" } : Jvm.MethodName) ({ cls := "java/lang/StringBuilder", name := "append", desc := "(I)Ljava/lang/StringBuilder;" } : Jvm.MethodName)) ∈ WS := ws_c3 199 rfl rfl
theorem lk_J7_54 : LkV RJ7 54 jJ4_append_bf812 1 := ⟨⟨wd_x1257, ⟨rfl, (by rw [cwd_nil rfl]; exact wd_x723)⟩, wd_x59, ⟨by decide +kernel, by decide +kernel⟩, by decide +kernel⟩, wd_x721, wd_x722⟩
theorem wd_x617 : (Jvm.Cond.code ({ cls := "java/lang/StringBuilder", name := "append", desc := "(Ljava/lang/String;)Ljava/lang/StringBuilder;" } : Jvm.MethodName) prog_27_method_7_code (2 : Nat) (Option.some (Jvm.ClassFile.FieldType.object "java/lang/StringBuilder"))) ∈ WS := ws_c3 94 rfl rfl
theorem wd_x1259 : (Jvm.Cond.methodLink "java/util/Arrays" (50 : Nat) ({ cls := "java/lang/StringBuilder", name := "append", desc := "(Ljava/lang/String;)Ljava/lang/StringBuilder;" } : Jvm.MethodName)) ∈ WS := ws_c6 16 rfl rfl
theorem wd_x615 : (Jvm.Cond.instanceMethod ({ cls := "java/lang/StringBuilder", name := "append", desc := "(Ljava/lang/String;)Ljava/lang/StringBuilder;" } : Jvm.MethodName)) ∈ WS := ws_c3 92 rfl rfl
theorem wd_x616 : (Jvm.Cond.selects "java/lang/StringBuilder" ({ cls := "java/lang/StringBuilder", name := "append", desc := "(Ljava/lang/String;)Ljava/lang/StringBuilder;" } : Jvm.MethodName) ({ cls := "java/lang/StringBuilder", name := "append", desc := "(Ljava/lang/String;)Ljava/lang/StringBuilder;" } : Jvm.MethodName)) ∈ WS := ws_c3 93 rfl rfl
theorem lk_J7_50 : LkV RJ7 50 jJ4_append_15ec4 1 := ⟨⟨wd_x1259, ⟨rfl, (by rw [cwd_nil rfl]; exact wd_x617)⟩, wd_x59, ⟨by decide +kernel, by decide +kernel⟩, by decide +kernel⟩, wd_x615, wd_x616⟩
theorem wd_x1221 : (Jvm.Cond.code ({ cls := "java/lang/StringBuilder", name := "toString", desc := "()Ljava/lang/String;" } : Jvm.MethodName) prog_27_method_42_code (1 : Nat) (Option.some (Jvm.ClassFile.FieldType.object "java/lang/String"))) ∈ WS := ws_c5 218 rfl rfl
theorem wd_x1260 : (Jvm.Cond.methodLink "java/util/Arrays" (61 : Nat) ({ cls := "java/lang/StringBuilder", name := "toString", desc := "()Ljava/lang/String;" } : Jvm.MethodName)) ∈ WS := ws_c6 17 rfl rfl
theorem wd_x1219 : (Jvm.Cond.instanceMethod ({ cls := "java/lang/StringBuilder", name := "toString", desc := "()Ljava/lang/String;" } : Jvm.MethodName)) ∈ WS := ws_c5 216 rfl rfl
theorem wd_x1220 : (Jvm.Cond.selects "java/lang/StringBuilder" ({ cls := "java/lang/StringBuilder", name := "toString", desc := "()Ljava/lang/String;" } : Jvm.MethodName) ({ cls := "java/lang/StringBuilder", name := "toString", desc := "()Ljava/lang/String;" } : Jvm.MethodName)) ∈ WS := ws_c5 217 rfl rfl
theorem lk_J7_61 : LkV RJ7 61 jJ4_toString_0e30d 0 := ⟨⟨wd_x1260, ⟨rfl, (by rw [cwd_nil rfl]; exact wd_x1221)⟩, wd_x59, ⟨by decide +kernel, by decide +kernel⟩, by decide +kernel⟩, wd_x1219, wd_x1220⟩
theorem wd_x1250 : (Jvm.Cond.code ({ cls := "java/util/Arrays", name := "copyOfRangeByte", desc := "([BII)[B" } : Jvm.MethodName) prog_37_method_133_code (5 : Nat) (Option.some (Jvm.ClassFile.FieldType.array Jvm.ClassFile.FieldType.byte))) ∈ WS := ws_c6 7 rfl rfl
theorem wd_x1248 : (Jvm.Cond.methodLink "java/util/Arrays" (339 : Nat) ({ cls := "java/util/Arrays", name := "copyOfRangeByte", desc := "([BII)[B" } : Jvm.MethodName)) ∈ WS := ws_c6 5 rfl rfl
theorem wd_x1249 : (Jvm.Cond.static ({ cls := "java/util/Arrays", name := "copyOfRangeByte", desc := "([BII)[B" } : Jvm.MethodName)) ∈ WS := ws_c6 6 rfl rfl
theorem lk_J7_339 : LkS RJ7 339 jJ7_copyOfRangeByte_39247 3 := ⟨⟨wd_x1248, ⟨rfl, (by rw [cwd_nil rfl]; exact wd_x1250)⟩, wd_x64, ⟨by decide +kernel, by decide +kernel⟩, by decide +kernel⟩, wd_x1249⟩
theorem wd_x1253 : (Jvm.Cond.code ({ cls := "java/util/Arrays", name := "checkLength", desc := "(II)V" } : Jvm.MethodName) prog_37_method_131_code (2 : Nat) (Option.none : Option Jvm.ClassFile.FieldType)) ∈ WS := ws_c6 10 rfl rfl
theorem wd_x1251 : (Jvm.Cond.methodLink "java/util/Arrays" (343 : Nat) ({ cls := "java/util/Arrays", name := "checkLength", desc := "(II)V" } : Jvm.MethodName)) ∈ WS := ws_c6 8 rfl rfl
theorem wd_x1252 : (Jvm.Cond.static ({ cls := "java/util/Arrays", name := "checkLength", desc := "(II)V" } : Jvm.MethodName)) ∈ WS := ws_c6 9 rfl rfl
theorem lk_J7_343 : LkS RJ7 343 jJ7_checkLength_df160 2 := ⟨⟨wd_x1251, ⟨rfl, (by rw [cwd_nil rfl]; exact wd_x1253)⟩, wd_x64, ⟨by decide +kernel, by decide +kernel⟩, by decide +kernel⟩, wd_x1252⟩
theorem wd_x857 : (Jvm.Cond.methodLink "java/util/Objects" (105 : Nat) ({ cls := "jdk/internal/util/Preconditions", name := "checkIndex", desc := "(IILjava/util/function/BiFunction;)I" } : Jvm.MethodName)) ∈ WS := ws_c4 94 rfl rfl
theorem lk_J15_105 : LkS RJ15 105 jJ3_checkIndex_8e157 3 := ⟨⟨wd_x857, ⟨rfl, (by rw [cwd_nil rfl]; exact wd_397)⟩, wd_105, ⟨by decide +kernel, by decide +kernel⟩, by decide +kernel⟩, wd_396⟩
theorem wd_x637 : (Jvm.Cond.methodLink "jdk/internal/util/ArraysSupport" (194 : Nat) ({ cls := "java/lang/Math", name := "max", desc := "(II)I" } : Jvm.MethodName)) ∈ WS := ws_c3 114 rfl rfl
theorem lk_J8_194 : LkS RJ8 194 jJ9_max_7cf53 2 := ⟨⟨wd_x637, ⟨rfl, (by rw [cwd_nil rfl]; exact wd_1628)⟩, wd_107, ⟨by decide +kernel, by decide +kernel⟩, by decide +kernel⟩, wd_1627⟩
theorem wd_x640 : (Jvm.Cond.constant "jdk/internal/util/ArraysSupport" (200 : Nat) (2147483639 : Int32)) ∈ WS := ws_c3 117 rfl rfl
theorem wd_x443 : (Jvm.Cond.constant "BitDeskLaw" (7 : Nat) (2147483647 : Int32)) ∈ WS := ws_c2 160 rfl rfl
theorem wd_x447 : (Jvm.Cond.methodLink "BitDeskLaw" (8 : Nat) ({ cls := "java/lang/String", name := "length", desc := "()I" } : Jvm.MethodName)) ∈ WS := ws_c2 164 rfl rfl
theorem lk_L_8 : LkV RL 8 jJ0_length_8abf5 0 := ⟨⟨wd_x447, ⟨rfl, (by rw [cwd_nil rfl]; exact wd_372)⟩, wd_103, ⟨by decide +kernel, by decide +kernel⟩, by decide +kernel⟩, wd_370, wd_371⟩
theorem wd_x457 : (Jvm.Cond.methodLink "BitDeskLaw" (14 : Nat) ({ cls := "java/lang/String", name := "charAt", desc := "(I)C" } : Jvm.MethodName)) ∈ WS := ws_c2 174 rfl rfl
theorem lk_L_14 : LkV RL 14 jJ0_charAt_5068e 1 := ⟨⟨wd_x457, ⟨rfl, (by rw [cwd_nil rfl]; exact wd_382)⟩, wd_103, ⟨by decide +kernel, by decide +kernel⟩, by decide +kernel⟩, wd_380, wd_381⟩
theorem wd_338 : (Jvm.Cond.code ({ cls := "BitDesk", name := "append", desc := "(J)I" } : Jvm.MethodName) prog_1_method_2_code (3 : Nat) (Option.some Jvm.ClassFile.FieldType.int)) ∈ WS := ws_c2 215 rfl rfl
theorem wd_x495 : (Jvm.Cond.methodLink "BitDeskLaw" (18 : Nat) ({ cls := "BitDesk", name := "append", desc := "(J)I" } : Jvm.MethodName)) ∈ WS := ws_c2 212 rfl rfl
theorem wd_336 : (Jvm.Cond.instanceMethod ({ cls := "BitDesk", name := "append", desc := "(J)I" } : Jvm.MethodName)) ∈ WS := ws_c2 213 rfl rfl
theorem wd_337 : (Jvm.Cond.selects "BitDesk" ({ cls := "BitDesk", name := "append", desc := "(J)I" } : Jvm.MethodName) ({ cls := "BitDesk", name := "append", desc := "(J)I" } : Jvm.MethodName)) ∈ WS := ws_c2 214 rfl rfl
theorem lk_L_18 : LkV RL 18 jX6_append 1 := ⟨⟨wd_x495, ⟨rfl, (by rw [cwd_nil rfl]; exact wd_338)⟩, wd_95, ⟨by decide +kernel, by decide +kernel⟩, by decide +kernel⟩, wd_336, wd_337⟩
theorem wd_347 : (Jvm.Cond.code ({ cls := "BitDesk", name := "load", desc := "()I" } : Jvm.MethodName) prog_1_method_3_code (1 : Nat) (Option.some Jvm.ClassFile.FieldType.int)) ∈ WS := ws_c2 224 rfl rfl
theorem wd_x504 : (Jvm.Cond.methodLink "BitDeskLaw" (24 : Nat) ({ cls := "BitDesk", name := "load", desc := "()I" } : Jvm.MethodName)) ∈ WS := ws_c2 221 rfl rfl
theorem wd_345 : (Jvm.Cond.instanceMethod ({ cls := "BitDesk", name := "load", desc := "()I" } : Jvm.MethodName)) ∈ WS := ws_c2 222 rfl rfl
theorem wd_346 : (Jvm.Cond.selects "BitDesk" ({ cls := "BitDesk", name := "load", desc := "()I" } : Jvm.MethodName) ({ cls := "BitDesk", name := "load", desc := "()I" } : Jvm.MethodName)) ∈ WS := ws_c2 223 rfl rfl
theorem lk_L_24 : LkV RL 24 jX6_load 0 := ⟨⟨wd_x504, ⟨rfl, (by rw [cwd_nil rfl]; exact wd_347)⟩, wd_95, ⟨by decide +kernel, by decide +kernel⟩, by decide +kernel⟩, wd_345, wd_346⟩
theorem wd_x442 : (Jvm.Cond.code ({ cls := "BitDeskLaw", name := "at", desc := "([II)I" } : Jvm.MethodName) method_2_code (2 : Nat) (Option.some Jvm.ClassFile.FieldType.int)) ∈ WS := ws_c2 159 rfl rfl
theorem wd_x440 : (Jvm.Cond.methodLink "BitDeskLaw" (27 : Nat) ({ cls := "BitDeskLaw", name := "at", desc := "([II)I" } : Jvm.MethodName)) ∈ WS := ws_c2 157 rfl rfl
theorem wd_x441 : (Jvm.Cond.static ({ cls := "BitDeskLaw", name := "at", desc := "([II)I" } : Jvm.MethodName)) ∈ WS := ws_c2 158 rfl rfl
theorem lk_L_27 : LkS RL 27 jL_at 2 := ⟨⟨wd_x440, ⟨rfl, (by rw [cwd_nil rfl]; exact wd_x442)⟩, wd_94, ⟨by decide +kernel, by decide +kernel⟩, by decide +kernel⟩, wd_x441⟩
theorem wd_x400 : (Jvm.Cond.classLink "BitDeskLaw" (33 : Nat) "BitDeskLaw$Desk") ∈ WS := ws_c2 117 rfl rfl
theorem wd_x402 : (Jvm.Cond.methodLink "BitDeskLaw" (35 : Nat) ({ cls := "BitDeskLaw$Desk", name := "<init>", desc := "(I)V" } : Jvm.MethodName)) ∈ WS := ws_c2 119 rfl rfl
theorem lk_L_35 : LkI RL 35 jX7_init 1 := ⟨⟨wd_x402, ⟨rfl, (by rw [cwd_nil rfl]; exact wd_x404)⟩, wd_x51, ⟨by decide +kernel, by decide +kernel⟩, by decide +kernel⟩, wd_x403, rfl, rfl⟩
theorem wd_x614 : (Jvm.Cond.methodLink "BitDeskLaw" (40 : Nat) ({ cls := "java/lang/StringBuilder", name := "append", desc := "(Ljava/lang/String;)Ljava/lang/StringBuilder;" } : Jvm.MethodName)) ∈ WS := ws_c3 91 rfl rfl
theorem lk_L_40 : LkV RL 40 jJ4_append_15ec4 1 := ⟨⟨wd_x614, ⟨rfl, (by rw [cwd_nil rfl]; exact wd_x617)⟩, wd_x59, ⟨by decide +kernel, by decide +kernel⟩, by decide +kernel⟩, wd_x615, wd_x616⟩
theorem wd_x412 : (Jvm.Cond.fieldLink "BitDeskLaw" (45 : Nat) "BitDeskLaw$Desk" "size" "I") ∈ WS := ws_c2 129 rfl rfl
theorem fk_L_45 : FK RL 45 7 0 (.int) := ⟨RX7, TX7, 7, "BitDeskLaw$Desk", rfl, by decide, rfl, (Or.inl rfl), (Or.inl wd_x412), inW7⟩
theorem wd_x720 : (Jvm.Cond.methodLink "BitDeskLaw" (49 : Nat) ({ cls := "java/lang/StringBuilder", name := "append", desc := "(I)Ljava/lang/StringBuilder;" } : Jvm.MethodName)) ∈ WS := ws_c3 197 rfl rfl
theorem lk_L_49 : LkV RL 49 jJ4_append_bf812 1 := ⟨⟨wd_x720, ⟨rfl, (by rw [cwd_nil rfl]; exact wd_x723)⟩, wd_x59, ⟨by decide +kernel, by decide +kernel⟩, by decide +kernel⟩, wd_x721, wd_x722⟩
theorem wd_x420 : (Jvm.Cond.fieldLink "BitDeskLaw" (52 : Nat) "BitDeskLaw$Desk" "slots" "[[[Z") ∈ WS := ws_c2 137 rfl rfl
theorem fk_L_52 : FK RL 52 7 4 (.array (.array (.array .boolean))) := ⟨RX7, TX7, 7, "BitDeskLaw$Desk", rfl, by decide, rfl, (Or.inl rfl), (Or.inl wd_x420), inW7⟩
theorem wd_x749 : (Jvm.Cond.code ({ cls := "java/lang/StringBuilder", name := "append", desc := "(C)Ljava/lang/StringBuilder;" } : Jvm.MethodName) prog_27_method_14_code (2 : Nat) (Option.some (Jvm.ClassFile.FieldType.object "java/lang/StringBuilder"))) ∈ WS := ws_c3 226 rfl rfl
theorem wd_x746 : (Jvm.Cond.methodLink "BitDeskLaw" (58 : Nat) ({ cls := "java/lang/StringBuilder", name := "append", desc := "(C)Ljava/lang/StringBuilder;" } : Jvm.MethodName)) ∈ WS := ws_c3 223 rfl rfl
theorem wd_x747 : (Jvm.Cond.instanceMethod ({ cls := "java/lang/StringBuilder", name := "append", desc := "(C)Ljava/lang/StringBuilder;" } : Jvm.MethodName)) ∈ WS := ws_c3 224 rfl rfl
theorem wd_x748 : (Jvm.Cond.selects "java/lang/StringBuilder" ({ cls := "java/lang/StringBuilder", name := "append", desc := "(C)Ljava/lang/StringBuilder;" } : Jvm.MethodName) ({ cls := "java/lang/StringBuilder", name := "append", desc := "(C)Ljava/lang/StringBuilder;" } : Jvm.MethodName)) ∈ WS := ws_c3 225 rfl rfl
theorem lk_L_58 : LkV RL 58 jJ4_append_cf468 1 := ⟨⟨wd_x746, ⟨rfl, (by rw [cwd_nil rfl]; exact wd_x749)⟩, wd_x59, ⟨by decide +kernel, by decide +kernel⟩, by decide +kernel⟩, wd_x747, wd_x748⟩
theorem wd_x760 : (Jvm.Cond.constant "BitDeskLaw" (63 : Nat) (65536 : Int32)) ∈ WS := ws_c3 237 rfl rfl
theorem wd_x761 : (Jvm.Cond.classLink "BitDeskLaw" (9 : Nat) "java/lang/String") ∈ WS := ws_c3 238 rfl rfl
theorem wd_x422 : (Jvm.Cond.fieldLink "BitDeskLaw" (74 : Nat) "BitDeskLaw$Desk" "kept" "[Z") ∈ WS := ws_c2 139 rfl rfl
theorem fk_L_74 : FK RL 74 7 5 (.array .boolean) := ⟨RX7, TX7, 7, "BitDeskLaw$Desk", rfl, by decide, rfl, (Or.inl rfl), (Or.inl wd_x422), inW7⟩
theorem wd_x414 : (Jvm.Cond.fieldLink "BitDeskLaw" (80 : Nat) "BitDeskLaw$Desk" "block" "I") ∈ WS := ws_c2 131 rfl rfl
theorem fp_L_80 : FP RL 80 7 1 (.int) false := ⟨RX7, TX7, 7, tyX7, "BitDeskLaw$Desk", rfl, by decide, rfl, ⟨(Or.inl rfl), fun h => nomatch h⟩, (Or.inl wd_x414), inW7, tyX7_ok, nmX7, rfl, tyX7_ok 1 (by decide), rfl⟩
theorem fk_L_80 : FK RL 80 7 1 (.int) := ⟨RX7, TX7, 7, "BitDeskLaw$Desk", rfl, by decide, rfl, (Or.inl rfl), (Or.inl wd_x414), inW7⟩
theorem wd_x770 : (Jvm.Cond.methodLink "BitDeskLaw" (85 : Nat) ({ cls := "BitDeskLaw$Desk", name := "anew", desc := "(I)V" } : Jvm.MethodName)) ∈ WS := ws_c4 7 rfl rfl
theorem lk_L_85 : LkV RL 85 jX7_anew 1 := ⟨⟨wd_x770, ⟨rfl, (by rw [cwd_nil rfl]; exact wd_x773)⟩, wd_x51, ⟨by decide +kernel, by decide +kernel⟩, by decide +kernel⟩, wd_x771, wd_x772⟩
theorem wd_1177 : (Jvm.Cond.code ({ cls := "BitDesk", name := "kept", desc := "(II)I" } : Jvm.MethodName) prog_1_method_53_code (4 : Nat) (Option.some Jvm.ClassFile.FieldType.int)) ∈ WS := ws_c4 21 rfl rfl
theorem wd_x781 : (Jvm.Cond.methodLink "BitDeskLaw" (88 : Nat) ({ cls := "BitDesk", name := "kept", desc := "(II)I" } : Jvm.MethodName)) ∈ WS := ws_c4 18 rfl rfl
theorem wd_1175 : (Jvm.Cond.instanceMethod ({ cls := "BitDesk", name := "kept", desc := "(II)I" } : Jvm.MethodName)) ∈ WS := ws_c4 19 rfl rfl
theorem wd_1176 : (Jvm.Cond.selects "BitDesk" ({ cls := "BitDesk", name := "kept", desc := "(II)I" } : Jvm.MethodName) ({ cls := "BitDesk", name := "kept", desc := "(II)I" } : Jvm.MethodName)) ∈ WS := ws_c4 20 rfl rfl
theorem lk_L_88 : LkV RL 88 jX6_kept 2 := ⟨⟨wd_x781, ⟨rfl, (by rw [cwd_nil rfl]; exact wd_1177)⟩, wd_95, ⟨by decide +kernel, by decide +kernel⟩, by decide +kernel⟩, wd_1175, wd_1176⟩
theorem wd_x424 : (Jvm.Cond.fieldLink "BitDeskLaw" (91 : Nat) "BitDeskLaw$Desk" "numbers" "[[I") ∈ WS := ws_c2 141 rfl rfl
theorem fk_L_91 : FK RL 91 7 6 (.array (.array .int)) := ⟨RX7, TX7, 7, "BitDeskLaw$Desk", rfl, by decide, rfl, (Or.inl rfl), (Or.inl wd_x424), inW7⟩
theorem wd_668 : (Jvm.Cond.code ({ cls := "BitDesk", name := "row", desc := "(II)J" } : Jvm.MethodName) prog_1_method_8_code (3 : Nat) (Option.some Jvm.ClassFile.FieldType.long)) ∈ WS := ws_c4 45 rfl rfl
theorem wd_x805 : (Jvm.Cond.methodLink "BitDeskLaw" (95 : Nat) ({ cls := "BitDesk", name := "row", desc := "(II)J" } : Jvm.MethodName)) ∈ WS := ws_c4 42 rfl rfl
theorem wd_666 : (Jvm.Cond.instanceMethod ({ cls := "BitDesk", name := "row", desc := "(II)J" } : Jvm.MethodName)) ∈ WS := ws_c4 43 rfl rfl
theorem wd_667 : (Jvm.Cond.selects "BitDesk" ({ cls := "BitDesk", name := "row", desc := "(II)J" } : Jvm.MethodName) ({ cls := "BitDesk", name := "row", desc := "(II)J" } : Jvm.MethodName)) ∈ WS := ws_c4 44 rfl rfl
theorem lk_L_95 : LkV RL 95 jX6_row 2 := ⟨⟨wd_x805, ⟨rfl, (by rw [cwd_nil rfl]; exact wd_668)⟩, wd_95, ⟨by decide +kernel, by decide +kernel⟩, by decide +kernel⟩, wd_666, wd_667⟩
theorem wd_x829 : (Jvm.Cond.code ({ cls := "BitDeskLaw$Desk", name := "row", desc := "([[ZI)J" } : Jvm.MethodName) prog_9_method_10_code (6 : Nat) (Option.some Jvm.ClassFile.FieldType.long)) ∈ WS := ws_c4 66 rfl rfl
theorem wd_x826 : (Jvm.Cond.methodLink "BitDeskLaw" (99 : Nat) ({ cls := "BitDeskLaw$Desk", name := "row", desc := "([[ZI)J" } : Jvm.MethodName)) ∈ WS := ws_c4 63 rfl rfl
theorem wd_x827 : (Jvm.Cond.instanceMethod ({ cls := "BitDeskLaw$Desk", name := "row", desc := "([[ZI)J" } : Jvm.MethodName)) ∈ WS := ws_c4 64 rfl rfl
theorem wd_x828 : (Jvm.Cond.selects "BitDeskLaw$Desk" ({ cls := "BitDeskLaw$Desk", name := "row", desc := "([[ZI)J" } : Jvm.MethodName) ({ cls := "BitDeskLaw$Desk", name := "row", desc := "([[ZI)J" } : Jvm.MethodName)) ∈ WS := ws_c4 65 rfl rfl
theorem lk_L_99 : LkV RL 99 jX7_row 2 := ⟨⟨wd_x826, ⟨rfl, (by rw [cwd_nil rfl]; exact wd_x829)⟩, wd_x51, ⟨by decide +kernel, by decide +kernel⟩, by decide +kernel⟩, wd_x827, wd_x828⟩
theorem wd_539 : (Jvm.Cond.code ({ cls := "BitDesk", name := "count", desc := "(I)I" } : Jvm.MethodName) prog_1_method_6_code (2 : Nat) (Option.some Jvm.ClassFile.FieldType.int)) ∈ WS := ws_c4 70 rfl rfl
theorem wd_x830 : (Jvm.Cond.methodLink "BitDeskLaw" (102 : Nat) ({ cls := "BitDesk", name := "count", desc := "(I)I" } : Jvm.MethodName)) ∈ WS := ws_c4 67 rfl rfl
theorem wd_537 : (Jvm.Cond.instanceMethod ({ cls := "BitDesk", name := "count", desc := "(I)I" } : Jvm.MethodName)) ∈ WS := ws_c4 68 rfl rfl
theorem wd_538 : (Jvm.Cond.selects "BitDesk" ({ cls := "BitDesk", name := "count", desc := "(I)I" } : Jvm.MethodName) ({ cls := "BitDesk", name := "count", desc := "(I)I" } : Jvm.MethodName)) ∈ WS := ws_c4 69 rfl rfl
theorem lk_L_102 : LkV RL 102 jX6_count 1 := ⟨⟨wd_x830, ⟨rfl, (by rw [cwd_nil rfl]; exact wd_539)⟩, wd_95, ⟨by decide +kernel, by decide +kernel⟩, by decide +kernel⟩, wd_537, wd_538⟩
theorem wd_1184 : (Jvm.Cond.code ({ cls := "BitDesk", name := "work", desc := "(I)I" } : Jvm.MethodName) prog_1_method_54_code (2 : Nat) (Option.some Jvm.ClassFile.FieldType.int)) ∈ WS := ws_c4 78 rfl rfl
theorem wd_x838 : (Jvm.Cond.methodLink "BitDeskLaw" (106 : Nat) ({ cls := "BitDesk", name := "work", desc := "(I)I" } : Jvm.MethodName)) ∈ WS := ws_c4 75 rfl rfl
theorem wd_1182 : (Jvm.Cond.instanceMethod ({ cls := "BitDesk", name := "work", desc := "(I)I" } : Jvm.MethodName)) ∈ WS := ws_c4 76 rfl rfl
theorem wd_1183 : (Jvm.Cond.selects "BitDesk" ({ cls := "BitDesk", name := "work", desc := "(I)I" } : Jvm.MethodName) ({ cls := "BitDesk", name := "work", desc := "(I)I" } : Jvm.MethodName)) ∈ WS := ws_c4 77 rfl rfl
theorem lk_L_106 : LkV RL 106 jX6_work 1 := ⟨⟨wd_x838, ⟨rfl, (by rw [cwd_nil rfl]; exact wd_1184)⟩, wd_95, ⟨by decide +kernel, by decide +kernel⟩, by decide +kernel⟩, wd_1182, wd_1183⟩
theorem wd_x416 : (Jvm.Cond.fieldLink "BitDeskLaw" (109 : Nat) "BitDeskLaw$Desk" "made" "I") ∈ WS := ws_c2 133 rfl rfl
theorem fk_L_109 : FK RL 109 7 2 (.int) := ⟨RX7, TX7, 7, "BitDeskLaw$Desk", rfl, by decide, rfl, (Or.inl rfl), (Or.inl wd_x416), inW7⟩
theorem wd_x418 : (Jvm.Cond.fieldLink "BitDeskLaw" (112 : Nat) "BitDeskLaw$Desk" "taken" "I") ∈ WS := ws_c2 135 rfl rfl
theorem fk_L_112 : FK RL 112 7 3 (.int) := ⟨RX7, TX7, 7, "BitDeskLaw$Desk", rfl, by decide, rfl, (Or.inl rfl), (Or.inl wd_x418), inW7⟩
theorem wd_x845 : (Jvm.Cond.constant "BitDeskLaw" (115 : Nat) (131072 : Int32)) ∈ WS := ws_c4 82 rfl rfl
theorem wd_x849 : (Jvm.Cond.code ({ cls := "java/util/ArrayList", name := "size", desc := "()I" } : Jvm.MethodName) prog_36_method_8_code (1 : Nat) (Option.some Jvm.ClassFile.FieldType.int)) ∈ WS := ws_c4 86 rfl rfl
theorem wd_x846 : (Jvm.Cond.methodLink "BitDeskLaw" (116 : Nat) ({ cls := "java/util/ArrayList", name := "size", desc := "()I" } : Jvm.MethodName)) ∈ WS := ws_c4 83 rfl rfl
theorem wd_x847 : (Jvm.Cond.instanceMethod ({ cls := "java/util/ArrayList", name := "size", desc := "()I" } : Jvm.MethodName)) ∈ WS := ws_c4 84 rfl rfl
theorem wd_x848 : (Jvm.Cond.selects "java/util/ArrayList" ({ cls := "java/util/ArrayList", name := "size", desc := "()I" } : Jvm.MethodName) ({ cls := "java/util/ArrayList", name := "size", desc := "()I" } : Jvm.MethodName)) ∈ WS := ws_c4 85 rfl rfl
theorem lk_L_116 : LkV RL 116 jJx4a65c_size_8abf5 0 := ⟨⟨wd_x846, ⟨rfl, (by rw [cwd_nil rfl]; exact wd_x849)⟩, wd_x71, ⟨by decide +kernel, by decide +kernel⟩, by decide +kernel⟩, wd_x847, wd_x848⟩
theorem wd_x853 : (Jvm.Cond.code ({ cls := "java/util/ArrayList", name := "remove", desc := "(I)Ljava/lang/Object;" } : Jvm.MethodName) prog_36_method_29_code (4 : Nat) (Option.some (Jvm.ClassFile.FieldType.object "java/lang/Object"))) ∈ WS := ws_c4 90 rfl rfl
theorem wd_x850 : (Jvm.Cond.methodLink "BitDeskLaw" (120 : Nat) ({ cls := "java/util/ArrayList", name := "remove", desc := "(I)Ljava/lang/Object;" } : Jvm.MethodName)) ∈ WS := ws_c4 87 rfl rfl
theorem wd_x851 : (Jvm.Cond.instanceMethod ({ cls := "java/util/ArrayList", name := "remove", desc := "(I)Ljava/lang/Object;" } : Jvm.MethodName)) ∈ WS := ws_c4 88 rfl rfl
theorem wd_x852 : (Jvm.Cond.selects "java/util/ArrayList" ({ cls := "java/util/ArrayList", name := "remove", desc := "(I)Ljava/lang/Object;" } : Jvm.MethodName) ({ cls := "java/util/ArrayList", name := "remove", desc := "(I)Ljava/lang/Object;" } : Jvm.MethodName)) ∈ WS := ws_c4 89 rfl rfl
theorem lk_L_120 : LkV RL 120 jJx4a65c_remove_915e3 1 := ⟨⟨wd_x850, ⟨rfl, (by rw [cwd_nil rfl]; exact wd_x853)⟩, wd_x71, ⟨by decide +kernel, by decide +kernel⟩, by decide +kernel⟩, wd_x851, wd_x852⟩
theorem wd_531 : (Jvm.Cond.code ({ cls := "BitDesk", name := "undo", desc := "()I" } : Jvm.MethodName) prog_1_method_57_code (1 : Nat) (Option.some Jvm.ClassFile.FieldType.int)) ∈ WS := ws_c2 22 rfl rfl
theorem wd_x302 : (Jvm.Cond.methodLink "BitDeskLaw" (124 : Nat) ({ cls := "BitDesk", name := "undo", desc := "()I" } : Jvm.MethodName)) ∈ WS := ws_c2 19 rfl rfl
theorem wd_529 : (Jvm.Cond.instanceMethod ({ cls := "BitDesk", name := "undo", desc := "()I" } : Jvm.MethodName)) ∈ WS := ws_c2 20 rfl rfl
theorem wd_530 : (Jvm.Cond.selects "BitDesk" ({ cls := "BitDesk", name := "undo", desc := "()I" } : Jvm.MethodName) ({ cls := "BitDesk", name := "undo", desc := "()I" } : Jvm.MethodName)) ∈ WS := ws_c2 21 rfl rfl
theorem lk_L_124 : LkV RL 124 jX6_undo 0 := ⟨⟨wd_x302, ⟨rfl, (by rw [cwd_nil rfl]; exact wd_531)⟩, wd_95, ⟨by decide +kernel, by decide +kernel⟩, by decide +kernel⟩, wd_529, wd_530⟩
theorem wd_x867 : (Jvm.Cond.code ({ cls := "BitDeskLaw$Desk", name := "copy", desc := "()LBitDeskLaw$Desk;" } : Jvm.MethodName) prog_9_method_2_code (4 : Nat) (Option.some (Jvm.ClassFile.FieldType.object "BitDeskLaw$Desk"))) ∈ WS := ws_c4 104 rfl rfl
theorem wd_x864 : (Jvm.Cond.methodLink "BitDeskLaw" (127 : Nat) ({ cls := "BitDeskLaw$Desk", name := "copy", desc := "()LBitDeskLaw$Desk;" } : Jvm.MethodName)) ∈ WS := ws_c4 101 rfl rfl
theorem wd_x865 : (Jvm.Cond.instanceMethod ({ cls := "BitDeskLaw$Desk", name := "copy", desc := "()LBitDeskLaw$Desk;" } : Jvm.MethodName)) ∈ WS := ws_c4 102 rfl rfl
theorem wd_x866 : (Jvm.Cond.selects "BitDeskLaw$Desk" ({ cls := "BitDeskLaw$Desk", name := "copy", desc := "()LBitDeskLaw$Desk;" } : Jvm.MethodName) ({ cls := "BitDeskLaw$Desk", name := "copy", desc := "()LBitDeskLaw$Desk;" } : Jvm.MethodName)) ∈ WS := ws_c4 103 rfl rfl
theorem lk_L_127 : LkV RL 127 jX7_copy 0 := ⟨⟨wd_x864, ⟨rfl, (by rw [cwd_nil rfl]; exact wd_x867)⟩, wd_x51, ⟨by decide +kernel, by decide +kernel⟩, by decide +kernel⟩, wd_x865, wd_x866⟩
theorem wd_x880 : (Jvm.Cond.methodLink "BitDeskLaw" (131 : Nat) ({ cls := "BitDeskLaw$Desk", name := "closure", desc := "([[Z)[[Z" } : Jvm.MethodName)) ∈ WS := ws_c4 117 rfl rfl
theorem lk_L_131 : LkV RL 131 jX7_closure 1 := ⟨⟨wd_x880, ⟨rfl, (by rw [cwd_nil rfl]; exact wd_x883)⟩, wd_x51, ⟨by decide +kernel, by decide +kernel⟩, by decide +kernel⟩, wd_x881, wd_x882⟩
theorem wd_x889 : (Jvm.Cond.methodLink "BitDeskLaw" (135 : Nat) ({ cls := "BitDeskLaw$Desk", name := "look", desc := "(II)V" } : Jvm.MethodName)) ∈ WS := ws_c4 126 rfl rfl
theorem lk_L_135 : LkV RL 135 jX7_look 2 := ⟨⟨wd_x889, ⟨rfl, (by rw [cwd_nil rfl]; exact wd_x777)⟩, wd_x51, ⟨by decide +kernel, by decide +kernel⟩, by decide +kernel⟩, wd_x775, wd_x776⟩
theorem wd_x890 : (Jvm.Cond.methodLink "BitDeskLaw" (139 : Nat) ({ cls := "BitDeskLaw$Desk", name := "differ", desc := "([[Z[[Z)I" } : Jvm.MethodName)) ∈ WS := ws_c4 127 rfl rfl
theorem lk_L_139 : LkV RL 139 jX7_differ 2 := ⟨⟨wd_x890, ⟨rfl, (by rw [cwd_nil rfl]; exact wd_x893)⟩, wd_x51, ⟨by decide +kernel, by decide +kernel⟩, by decide +kernel⟩, wd_x891, wd_x892⟩
theorem wd_1014 : (Jvm.Cond.code ({ cls := "BitDesk", name := "put", desc := "(IIIZ)I" } : Jvm.MethodName) prog_1_method_40_code (8 : Nat) (Option.some Jvm.ClassFile.FieldType.int)) ∈ WS := ws_c4 134 rfl rfl
theorem wd_x894 : (Jvm.Cond.methodLink "BitDeskLaw" (143 : Nat) ({ cls := "BitDesk", name := "put", desc := "(IIIZ)I" } : Jvm.MethodName)) ∈ WS := ws_c4 131 rfl rfl
theorem wd_1012 : (Jvm.Cond.instanceMethod ({ cls := "BitDesk", name := "put", desc := "(IIIZ)I" } : Jvm.MethodName)) ∈ WS := ws_c4 132 rfl rfl
theorem wd_1013 : (Jvm.Cond.selects "BitDesk" ({ cls := "BitDesk", name := "put", desc := "(IIIZ)I" } : Jvm.MethodName) ({ cls := "BitDesk", name := "put", desc := "(IIIZ)I" } : Jvm.MethodName)) ∈ WS := ws_c4 133 rfl rfl
theorem lk_L_143 : LkV RL 143 jX6_put 4 := ⟨⟨wd_x894, ⟨rfl, (by rw [cwd_nil rfl]; exact wd_1014)⟩, wd_95, ⟨by decide +kernel, by decide +kernel⟩, by decide +kernel⟩, wd_1012, wd_1013⟩
theorem wd_1036 : (Jvm.Cond.code ({ cls := "BitDesk", name := "setRow", desc := "(IIJ)I" } : Jvm.MethodName) prog_1_method_41_code (7 : Nat) (Option.some Jvm.ClassFile.FieldType.int)) ∈ WS := ws_c4 193 rfl rfl
theorem wd_x953 : (Jvm.Cond.methodLink "BitDeskLaw" (147 : Nat) ({ cls := "BitDesk", name := "setRow", desc := "(IIJ)I" } : Jvm.MethodName)) ∈ WS := ws_c4 190 rfl rfl
theorem wd_1034 : (Jvm.Cond.instanceMethod ({ cls := "BitDesk", name := "setRow", desc := "(IIJ)I" } : Jvm.MethodName)) ∈ WS := ws_c4 191 rfl rfl
theorem wd_1035 : (Jvm.Cond.selects "BitDesk" ({ cls := "BitDesk", name := "setRow", desc := "(IIJ)I" } : Jvm.MethodName) ({ cls := "BitDesk", name := "setRow", desc := "(IIJ)I" } : Jvm.MethodName)) ∈ WS := ws_c4 192 rfl rfl
theorem lk_L_147 : LkV RL 147 jX6_setRow 3 := ⟨⟨wd_x953, ⟨rfl, (by rw [cwd_nil rfl]; exact wd_1036)⟩, wd_95, ⟨by decide +kernel, by decide +kernel⟩, by decide +kernel⟩, wd_1034, wd_1035⟩
theorem wd_x963 : (Jvm.Cond.methodLink "BitDeskLaw" (151 : Nat) ({ cls := "BitDeskLaw$Desk", name := "fresh", desc := "()[[Z" } : Jvm.MethodName)) ∈ WS := ws_c4 200 rfl rfl
theorem lk_L_151 : LkV RL 151 jX7_fresh 0 := ⟨⟨wd_x963, ⟨rfl, (by rw [cwd_nil rfl]; exact wd_x887)⟩, wd_x51, ⟨by decide +kernel, by decide +kernel⟩, by decide +kernel⟩, wd_x885, wd_x886⟩
theorem wd_x967 : (Jvm.Cond.code ({ cls := "BitDeskLaw$Desk", name := "set", desc := "(I[[Z)V" } : Jvm.MethodName) prog_9_method_5_code (3 : Nat) (Option.none : Option Jvm.ClassFile.FieldType)) ∈ WS := ws_c4 204 rfl rfl
theorem wd_x964 : (Jvm.Cond.methodLink "BitDeskLaw" (155 : Nat) ({ cls := "BitDeskLaw$Desk", name := "set", desc := "(I[[Z)V" } : Jvm.MethodName)) ∈ WS := ws_c4 201 rfl rfl
theorem wd_x965 : (Jvm.Cond.instanceMethod ({ cls := "BitDeskLaw$Desk", name := "set", desc := "(I[[Z)V" } : Jvm.MethodName)) ∈ WS := ws_c4 202 rfl rfl
theorem wd_x966 : (Jvm.Cond.selects "BitDeskLaw$Desk" ({ cls := "BitDeskLaw$Desk", name := "set", desc := "(I[[Z)V" } : Jvm.MethodName) ({ cls := "BitDeskLaw$Desk", name := "set", desc := "(I[[Z)V" } : Jvm.MethodName)) ∈ WS := ws_c4 203 rfl rfl
theorem lk_L_155 : LkV RL 155 jX7_set 2 := ⟨⟨wd_x964, ⟨rfl, (by rw [cwd_nil rfl]; exact wd_x967)⟩, wd_x51, ⟨by decide +kernel, by decide +kernel⟩, by decide +kernel⟩, wd_x965, wd_x966⟩
theorem wd_x972 : (Jvm.Cond.code ({ cls := "BitDeskLaw$Desk", name := "ones", desc := "([[Z)I" } : Jvm.MethodName) prog_9_method_8_code (11 : Nat) (Option.some Jvm.ClassFile.FieldType.int)) ∈ WS := ws_c4 209 rfl rfl
theorem wd_x969 : (Jvm.Cond.methodLink "BitDeskLaw" (159 : Nat) ({ cls := "BitDeskLaw$Desk", name := "ones", desc := "([[Z)I" } : Jvm.MethodName)) ∈ WS := ws_c4 206 rfl rfl
theorem wd_x970 : (Jvm.Cond.instanceMethod ({ cls := "BitDeskLaw$Desk", name := "ones", desc := "([[Z)I" } : Jvm.MethodName)) ∈ WS := ws_c4 207 rfl rfl
theorem wd_x971 : (Jvm.Cond.selects "BitDeskLaw$Desk" ({ cls := "BitDeskLaw$Desk", name := "ones", desc := "([[Z)I" } : Jvm.MethodName) ({ cls := "BitDeskLaw$Desk", name := "ones", desc := "([[Z)I" } : Jvm.MethodName)) ∈ WS := ws_c4 208 rfl rfl
theorem lk_L_159 : LkV RL 159 jX7_ones 1 := ⟨⟨wd_x969, ⟨rfl, (by rw [cwd_nil rfl]; exact wd_x972)⟩, wd_x51, ⟨by decide +kernel, by decide +kernel⟩, by decide +kernel⟩, wd_x970, wd_x971⟩
theorem wd_1048 : (Jvm.Cond.code ({ cls := "BitDesk", name := "copy", desc := "(II)I" } : Jvm.MethodName) prog_1_method_42_code (3 : Nat) (Option.some Jvm.ClassFile.FieldType.int)) ∈ WS := ws_c4 213 rfl rfl
theorem wd_x973 : (Jvm.Cond.methodLink "BitDeskLaw" (162 : Nat) ({ cls := "BitDesk", name := "copy", desc := "(II)I" } : Jvm.MethodName)) ∈ WS := ws_c4 210 rfl rfl
theorem wd_1046 : (Jvm.Cond.instanceMethod ({ cls := "BitDesk", name := "copy", desc := "(II)I" } : Jvm.MethodName)) ∈ WS := ws_c4 211 rfl rfl
theorem wd_1047 : (Jvm.Cond.selects "BitDesk" ({ cls := "BitDesk", name := "copy", desc := "(II)I" } : Jvm.MethodName) ({ cls := "BitDesk", name := "copy", desc := "(II)I" } : Jvm.MethodName)) ∈ WS := ws_c4 212 rfl rfl
theorem lk_L_162 : LkV RL 162 jX6_copy 2 := ⟨⟨wd_x973, ⟨rfl, (by rw [cwd_nil rfl]; exact wd_1048)⟩, wd_95, ⟨by decide +kernel, by decide +kernel⟩, by decide +kernel⟩, wd_1046, wd_1047⟩
theorem wd_1059 : (Jvm.Cond.code ({ cls := "BitDesk", name := "transpose", desc := "(II)I" } : Jvm.MethodName) prog_1_method_43_code (4 : Nat) (Option.some Jvm.ClassFile.FieldType.int)) ∈ WS := ws_c4 225 rfl rfl
theorem wd_x985 : (Jvm.Cond.methodLink "BitDeskLaw" (164 : Nat) ({ cls := "BitDesk", name := "transpose", desc := "(II)I" } : Jvm.MethodName)) ∈ WS := ws_c4 222 rfl rfl
theorem wd_1057 : (Jvm.Cond.instanceMethod ({ cls := "BitDesk", name := "transpose", desc := "(II)I" } : Jvm.MethodName)) ∈ WS := ws_c4 223 rfl rfl
theorem wd_1058 : (Jvm.Cond.selects "BitDesk" ({ cls := "BitDesk", name := "transpose", desc := "(II)I" } : Jvm.MethodName) ({ cls := "BitDesk", name := "transpose", desc := "(II)I" } : Jvm.MethodName)) ∈ WS := ws_c4 224 rfl rfl
theorem lk_L_164 : LkV RL 164 jX6_transpose 2 := ⟨⟨wd_x985, ⟨rfl, (by rw [cwd_nil rfl]; exact wd_1059)⟩, wd_95, ⟨by decide +kernel, by decide +kernel⟩, by decide +kernel⟩, wd_1057, wd_1058⟩
theorem wd_x990 : (Jvm.Cond.constant "BitDeskLaw" (167 : Nat) (262144 : Int32)) ∈ WS := ws_c4 227 rfl rfl
theorem wd_1066 : (Jvm.Cond.code ({ cls := "BitDesk", name := "combine", desc := "(IIII)I" } : Jvm.MethodName) prog_1_method_44_code (6 : Nat) (Option.some Jvm.ClassFile.FieldType.int)) ∈ WS := ws_c4 231 rfl rfl
theorem wd_x991 : (Jvm.Cond.methodLink "BitDeskLaw" (168 : Nat) ({ cls := "BitDesk", name := "combine", desc := "(IIII)I" } : Jvm.MethodName)) ∈ WS := ws_c4 228 rfl rfl
theorem wd_1064 : (Jvm.Cond.instanceMethod ({ cls := "BitDesk", name := "combine", desc := "(IIII)I" } : Jvm.MethodName)) ∈ WS := ws_c4 229 rfl rfl
theorem wd_1065 : (Jvm.Cond.selects "BitDesk" ({ cls := "BitDesk", name := "combine", desc := "(IIII)I" } : Jvm.MethodName) ({ cls := "BitDesk", name := "combine", desc := "(IIII)I" } : Jvm.MethodName)) ∈ WS := ws_c4 230 rfl rfl
theorem lk_L_168 : LkV RL 168 jX6_combine 4 := ⟨⟨wd_x991, ⟨rfl, (by rw [cwd_nil rfl]; exact wd_1066)⟩, wd_95, ⟨by decide +kernel, by decide +kernel⟩, by decide +kernel⟩, wd_1064, wd_1065⟩
theorem wd_x998 : (Jvm.Cond.methodLink "BitDeskLaw" (172 : Nat) ({ cls := "BitDeskLaw$Desk", name := "product", desc := "([[Z[[ZZ)[[Z" } : Jvm.MethodName)) ∈ WS := ws_c4 235 rfl rfl
theorem lk_L_172 : LkV RL 172 jX7_product 3 := ⟨⟨wd_x998, ⟨rfl, (by rw [cwd_nil rfl]; exact wd_x1001)⟩, wd_x51, ⟨by decide +kernel, by decide +kernel⟩, by decide +kernel⟩, wd_x999, wd_x1000⟩
theorem wd_1076 : (Jvm.Cond.code ({ cls := "BitDesk", name := "product", desc := "(IIIZ)I" } : Jvm.MethodName) prog_1_method_45_code (5 : Nat) (Option.some Jvm.ClassFile.FieldType.int)) ∈ WS := ws_c5 3 rfl rfl
theorem wd_x1003 : (Jvm.Cond.methodLink "BitDeskLaw" (176 : Nat) ({ cls := "BitDesk", name := "product", desc := "(IIIZ)I" } : Jvm.MethodName)) ∈ WS := ws_c5 0 rfl rfl
theorem wd_1074 : (Jvm.Cond.instanceMethod ({ cls := "BitDesk", name := "product", desc := "(IIIZ)I" } : Jvm.MethodName)) ∈ WS := ws_c5 1 rfl rfl
theorem wd_1075 : (Jvm.Cond.selects "BitDesk" ({ cls := "BitDesk", name := "product", desc := "(IIIZ)I" } : Jvm.MethodName) ({ cls := "BitDesk", name := "product", desc := "(IIIZ)I" } : Jvm.MethodName)) ∈ WS := ws_c5 2 rfl rfl
theorem lk_L_176 : LkV RL 176 jX6_product 4 := ⟨⟨wd_x1003, ⟨rfl, (by rw [cwd_nil rfl]; exact wd_1076)⟩, wd_95, ⟨by decide +kernel, by decide +kernel⟩, by decide +kernel⟩, wd_1074, wd_1075⟩
theorem wd_x1033 : (Jvm.Cond.methodLink "BitDeskLaw" (178 : Nat) ({ cls := "BitDeskLaw$Desk", name := "power", desc := "([[ZIZ)[[Z" } : Jvm.MethodName)) ∈ WS := ws_c5 30 rfl rfl
theorem lk_L_178 : LkV RL 178 jX7_power 3 := ⟨⟨wd_x1033, ⟨rfl, (by rw [cwd_nil rfl]; exact wd_x1036)⟩, wd_x51, ⟨by decide +kernel, by decide +kernel⟩, by decide +kernel⟩, wd_x1034, wd_x1035⟩
theorem wd_1109 : (Jvm.Cond.code ({ cls := "BitDesk", name := "power", desc := "(IIIZ)I" } : Jvm.MethodName) prog_1_method_46_code (6 : Nat) (Option.some Jvm.ClassFile.FieldType.int)) ∈ WS := ws_c5 43 rfl rfl
theorem wd_x1043 : (Jvm.Cond.methodLink "BitDeskLaw" (182 : Nat) ({ cls := "BitDesk", name := "power", desc := "(IIIZ)I" } : Jvm.MethodName)) ∈ WS := ws_c5 40 rfl rfl
theorem wd_1107 : (Jvm.Cond.instanceMethod ({ cls := "BitDesk", name := "power", desc := "(IIIZ)I" } : Jvm.MethodName)) ∈ WS := ws_c5 41 rfl rfl
theorem wd_1108 : (Jvm.Cond.selects "BitDesk" ({ cls := "BitDesk", name := "power", desc := "(IIIZ)I" } : Jvm.MethodName) ({ cls := "BitDesk", name := "power", desc := "(IIIZ)I" } : Jvm.MethodName)) ∈ WS := ws_c5 42 rfl rfl
theorem lk_L_182 : LkV RL 182 jX6_power 4 := ⟨⟨wd_x1043, ⟨rfl, (by rw [cwd_nil rfl]; exact wd_1109)⟩, wd_95, ⟨by decide +kernel, by decide +kernel⟩, by decide +kernel⟩, wd_1107, wd_1108⟩
theorem wd_x1057 : (Jvm.Cond.code ({ cls := "BitDeskLaw$Desk", name := "inverse", desc := "([[Z)[[Z" } : Jvm.MethodName) prog_9_method_16_code (7 : Nat) (Option.some (Jvm.ClassFile.FieldType.array (Jvm.ClassFile.FieldType.array Jvm.ClassFile.FieldType.boolean)))) ∈ WS := ws_c5 54 rfl rfl
theorem wd_x1054 : (Jvm.Cond.methodLink "BitDeskLaw" (184 : Nat) ({ cls := "BitDeskLaw$Desk", name := "inverse", desc := "([[Z)[[Z" } : Jvm.MethodName)) ∈ WS := ws_c5 51 rfl rfl
theorem wd_x1055 : (Jvm.Cond.instanceMethod ({ cls := "BitDeskLaw$Desk", name := "inverse", desc := "([[Z)[[Z" } : Jvm.MethodName)) ∈ WS := ws_c5 52 rfl rfl
theorem wd_x1056 : (Jvm.Cond.selects "BitDeskLaw$Desk" ({ cls := "BitDeskLaw$Desk", name := "inverse", desc := "([[Z)[[Z" } : Jvm.MethodName) ({ cls := "BitDeskLaw$Desk", name := "inverse", desc := "([[Z)[[Z" } : Jvm.MethodName)) ∈ WS := ws_c5 53 rfl rfl
theorem lk_L_184 : LkV RL 184 jX7_inverse 1 := ⟨⟨wd_x1054, ⟨rfl, (by rw [cwd_nil rfl]; exact wd_x1057)⟩, wd_x51, ⟨by decide +kernel, by decide +kernel⟩, by decide +kernel⟩, wd_x1055, wd_x1056⟩
theorem wd_1123 : (Jvm.Cond.code ({ cls := "BitDesk", name := "invert", desc := "(II)I" } : Jvm.MethodName) prog_1_method_47_code (3 : Nat) (Option.some Jvm.ClassFile.FieldType.int)) ∈ WS := ws_c5 70 rfl rfl
theorem wd_x1070 : (Jvm.Cond.methodLink "BitDeskLaw" (187 : Nat) ({ cls := "BitDesk", name := "invert", desc := "(II)I" } : Jvm.MethodName)) ∈ WS := ws_c5 67 rfl rfl
theorem wd_1121 : (Jvm.Cond.instanceMethod ({ cls := "BitDesk", name := "invert", desc := "(II)I" } : Jvm.MethodName)) ∈ WS := ws_c5 68 rfl rfl
theorem wd_1122 : (Jvm.Cond.selects "BitDesk" ({ cls := "BitDesk", name := "invert", desc := "(II)I" } : Jvm.MethodName) ({ cls := "BitDesk", name := "invert", desc := "(II)I" } : Jvm.MethodName)) ∈ WS := ws_c5 69 rfl rfl
theorem lk_L_187 : LkV RL 187 jX6_invert 2 := ⟨⟨wd_x1070, ⟨rfl, (by rw [cwd_nil rfl]; exact wd_1123)⟩, wd_95, ⟨by decide +kernel, by decide +kernel⟩, by decide +kernel⟩, wd_1121, wd_1122⟩
theorem wd_x1099 : (Jvm.Cond.code ({ cls := "BitDeskLaw$Desk", name := "reduced", desc := "([[Z)[[Z" } : Jvm.MethodName) prog_9_method_17_code (6 : Nat) (Option.some (Jvm.ClassFile.FieldType.array (Jvm.ClassFile.FieldType.array Jvm.ClassFile.FieldType.boolean)))) ∈ WS := ws_c5 96 rfl rfl
theorem wd_x1096 : (Jvm.Cond.methodLink "BitDeskLaw" (190 : Nat) ({ cls := "BitDeskLaw$Desk", name := "reduced", desc := "([[Z)[[Z" } : Jvm.MethodName)) ∈ WS := ws_c5 93 rfl rfl
theorem wd_x1097 : (Jvm.Cond.instanceMethod ({ cls := "BitDeskLaw$Desk", name := "reduced", desc := "([[Z)[[Z" } : Jvm.MethodName)) ∈ WS := ws_c5 94 rfl rfl
theorem wd_x1098 : (Jvm.Cond.selects "BitDeskLaw$Desk" ({ cls := "BitDeskLaw$Desk", name := "reduced", desc := "([[Z)[[Z" } : Jvm.MethodName) ({ cls := "BitDeskLaw$Desk", name := "reduced", desc := "([[Z)[[Z" } : Jvm.MethodName)) ∈ WS := ws_c5 95 rfl rfl
theorem lk_L_190 : LkV RL 190 jX7_reduced 1 := ⟨⟨wd_x1096, ⟨rfl, (by rw [cwd_nil rfl]; exact wd_x1099)⟩, wd_x51, ⟨by decide +kernel, by decide +kernel⟩, by decide +kernel⟩, wd_x1097, wd_x1098⟩
theorem wd_1134 : (Jvm.Cond.code ({ cls := "BitDesk", name := "close", desc := "(II)I" } : Jvm.MethodName) prog_1_method_48_code (3 : Nat) (Option.some Jvm.ClassFile.FieldType.int)) ∈ WS := ws_c5 102 rfl rfl
theorem wd_x1102 : (Jvm.Cond.methodLink "BitDeskLaw" (193 : Nat) ({ cls := "BitDesk", name := "close", desc := "(II)I" } : Jvm.MethodName)) ∈ WS := ws_c5 99 rfl rfl
theorem wd_1132 : (Jvm.Cond.instanceMethod ({ cls := "BitDesk", name := "close", desc := "(II)I" } : Jvm.MethodName)) ∈ WS := ws_c5 100 rfl rfl
theorem wd_1133 : (Jvm.Cond.selects "BitDesk" ({ cls := "BitDesk", name := "close", desc := "(II)I" } : Jvm.MethodName) ({ cls := "BitDesk", name := "close", desc := "(II)I" } : Jvm.MethodName)) ∈ WS := ws_c5 101 rfl rfl
theorem lk_L_193 : LkV RL 193 jX6_close 2 := ⟨⟨wd_x1102, ⟨rfl, (by rw [cwd_nil rfl]; exact wd_1134)⟩, wd_95, ⟨by decide +kernel, by decide +kernel⟩, by decide +kernel⟩, wd_1132, wd_1133⟩
theorem wd_1141 : (Jvm.Cond.code ({ cls := "BitDesk", name := "reduce", desc := "(II)I" } : Jvm.MethodName) prog_1_method_49_code (4 : Nat) (Option.some Jvm.ClassFile.FieldType.int)) ∈ WS := ws_c5 106 rfl rfl
theorem wd_x1106 : (Jvm.Cond.methodLink "BitDeskLaw" (196 : Nat) ({ cls := "BitDesk", name := "reduce", desc := "(II)I" } : Jvm.MethodName)) ∈ WS := ws_c5 103 rfl rfl
theorem wd_1139 : (Jvm.Cond.instanceMethod ({ cls := "BitDesk", name := "reduce", desc := "(II)I" } : Jvm.MethodName)) ∈ WS := ws_c5 104 rfl rfl
theorem wd_1140 : (Jvm.Cond.selects "BitDesk" ({ cls := "BitDesk", name := "reduce", desc := "(II)I" } : Jvm.MethodName) ({ cls := "BitDesk", name := "reduce", desc := "(II)I" } : Jvm.MethodName)) ∈ WS := ws_c5 105 rfl rfl
theorem lk_L_196 : LkV RL 196 jX6_reduce 2 := ⟨⟨wd_x1106, ⟨rfl, (by rw [cwd_nil rfl]; exact wd_1141)⟩, wd_95, ⟨by decide +kernel, by decide +kernel⟩, by decide +kernel⟩, wd_1139, wd_1140⟩
theorem wd_1153 : (Jvm.Cond.code ({ cls := "BitDesk", name := "exchange", desc := "(III)I" } : Jvm.MethodName) prog_1_method_50_code (8 : Nat) (Option.some Jvm.ClassFile.FieldType.int)) ∈ WS := ws_c5 115 rfl rfl
theorem wd_x1115 : (Jvm.Cond.methodLink "BitDeskLaw" (199 : Nat) ({ cls := "BitDesk", name := "exchange", desc := "(III)I" } : Jvm.MethodName)) ∈ WS := ws_c5 112 rfl rfl
theorem wd_1151 : (Jvm.Cond.instanceMethod ({ cls := "BitDesk", name := "exchange", desc := "(III)I" } : Jvm.MethodName)) ∈ WS := ws_c5 113 rfl rfl
theorem wd_1152 : (Jvm.Cond.selects "BitDesk" ({ cls := "BitDesk", name := "exchange", desc := "(III)I" } : Jvm.MethodName) ({ cls := "BitDesk", name := "exchange", desc := "(III)I" } : Jvm.MethodName)) ∈ WS := ws_c5 114 rfl rfl
theorem lk_L_199 : LkV RL 199 jX6_exchange 3 := ⟨⟨wd_x1115, ⟨rfl, (by rw [cwd_nil rfl]; exact wd_1153)⟩, wd_95, ⟨by decide +kernel, by decide +kernel⟩, by decide +kernel⟩, wd_1151, wd_1152⟩
theorem wd_1163 : (Jvm.Cond.code ({ cls := "BitDesk", name := "keep", desc := "(IZ)I" } : Jvm.MethodName) prog_1_method_51_code (4 : Nat) (Option.some Jvm.ClassFile.FieldType.int)) ∈ WS := ws_c5 122 rfl rfl
theorem wd_x1122 : (Jvm.Cond.methodLink "BitDeskLaw" (203 : Nat) ({ cls := "BitDesk", name := "keep", desc := "(IZ)I" } : Jvm.MethodName)) ∈ WS := ws_c5 119 rfl rfl
theorem wd_1161 : (Jvm.Cond.instanceMethod ({ cls := "BitDesk", name := "keep", desc := "(IZ)I" } : Jvm.MethodName)) ∈ WS := ws_c5 120 rfl rfl
theorem wd_1162 : (Jvm.Cond.selects "BitDesk" ({ cls := "BitDesk", name := "keep", desc := "(IZ)I" } : Jvm.MethodName) ({ cls := "BitDesk", name := "keep", desc := "(IZ)I" } : Jvm.MethodName)) ∈ WS := ws_c5 121 rfl rfl
theorem lk_L_203 : LkV RL 203 jX6_keep 2 := ⟨⟨wd_x1122, ⟨rfl, (by rw [cwd_nil rfl]; exact wd_1163)⟩, wd_95, ⟨by decide +kernel, by decide +kernel⟩, by decide +kernel⟩, wd_1161, wd_1162⟩
theorem wd_1170 : (Jvm.Cond.code ({ cls := "BitDesk", name := "setBlock", desc := "(I)I" } : Jvm.MethodName) prog_1_method_52_code (3 : Nat) (Option.some Jvm.ClassFile.FieldType.int)) ∈ WS := ws_c5 126 rfl rfl
theorem wd_x1126 : (Jvm.Cond.methodLink "BitDeskLaw" (207 : Nat) ({ cls := "BitDesk", name := "setBlock", desc := "(I)I" } : Jvm.MethodName)) ∈ WS := ws_c5 123 rfl rfl
theorem wd_1168 : (Jvm.Cond.instanceMethod ({ cls := "BitDesk", name := "setBlock", desc := "(I)I" } : Jvm.MethodName)) ∈ WS := ws_c5 124 rfl rfl
theorem wd_1169 : (Jvm.Cond.selects "BitDesk" ({ cls := "BitDesk", name := "setBlock", desc := "(I)I" } : Jvm.MethodName) ({ cls := "BitDesk", name := "setBlock", desc := "(I)I" } : Jvm.MethodName)) ∈ WS := ws_c5 125 rfl rfl
theorem lk_L_207 : LkV RL 207 jX6_setBlock 1 := ⟨⟨wd_x1126, ⟨rfl, (by rw [cwd_nil rfl]; exact wd_1170)⟩, wd_95, ⟨by decide +kernel, by decide +kernel⟩, by decide +kernel⟩, wd_1168, wd_1169⟩
theorem wd_x1133 : (Jvm.Cond.code ({ cls := "java/util/ArrayList", name := "add", desc := "(Ljava/lang/Object;)Z" } : Jvm.MethodName) prog_36_method_25_code (2 : Nat) (Option.some Jvm.ClassFile.FieldType.boolean)) ∈ WS := ws_c5 130 rfl rfl
theorem wd_x1130 : (Jvm.Cond.methodLink "BitDeskLaw" (210 : Nat) ({ cls := "java/util/ArrayList", name := "add", desc := "(Ljava/lang/Object;)Z" } : Jvm.MethodName)) ∈ WS := ws_c5 127 rfl rfl
theorem wd_x1131 : (Jvm.Cond.instanceMethod ({ cls := "java/util/ArrayList", name := "add", desc := "(Ljava/lang/Object;)Z" } : Jvm.MethodName)) ∈ WS := ws_c5 128 rfl rfl
theorem wd_x1132 : (Jvm.Cond.selects "java/util/ArrayList" ({ cls := "java/util/ArrayList", name := "add", desc := "(Ljava/lang/Object;)Z" } : Jvm.MethodName) ({ cls := "java/util/ArrayList", name := "add", desc := "(Ljava/lang/Object;)Z" } : Jvm.MethodName)) ∈ WS := ws_c5 129 rfl rfl
theorem lk_L_210 : LkV RL 210 jJx4a65c_add_9ea2d 1 := ⟨⟨wd_x1130, ⟨rfl, (by rw [cwd_nil rfl]; exact wd_x1133)⟩, wd_x71, ⟨by decide +kernel, by decide +kernel⟩, by decide +kernel⟩, wd_x1131, wd_x1132⟩
theorem wd_621 : (Jvm.Cond.code ({ cls := "BitDesk", name := "bit", desc := "(III)I" } : Jvm.MethodName) prog_1_method_7_code (4 : Nat) (Option.some Jvm.ClassFile.FieldType.int)) ∈ WS := ws_c5 182 rfl rfl
theorem wd_x1182 : (Jvm.Cond.methodLink "BitDeskLaw" (214 : Nat) ({ cls := "BitDesk", name := "bit", desc := "(III)I" } : Jvm.MethodName)) ∈ WS := ws_c5 179 rfl rfl
theorem wd_619 : (Jvm.Cond.instanceMethod ({ cls := "BitDesk", name := "bit", desc := "(III)I" } : Jvm.MethodName)) ∈ WS := ws_c5 180 rfl rfl
theorem wd_620 : (Jvm.Cond.selects "BitDesk" ({ cls := "BitDesk", name := "bit", desc := "(III)I" } : Jvm.MethodName) ({ cls := "BitDesk", name := "bit", desc := "(III)I" } : Jvm.MethodName)) ∈ WS := ws_c5 181 rfl rfl
theorem lk_L_214 : LkV RL 214 jX6_bit 3 := ⟨⟨wd_x1182, ⟨rfl, (by rw [cwd_nil rfl]; exact wd_621)⟩, wd_95, ⟨by decide +kernel, by decide +kernel⟩, by decide +kernel⟩, wd_619, wd_620⟩
theorem wd_679 : (Jvm.Cond.code ({ cls := "BitDesk", name := "rank", desc := "(III)I" } : Jvm.MethodName) prog_1_method_9_code (4 : Nat) (Option.some Jvm.ClassFile.FieldType.int)) ∈ WS := ws_c5 193 rfl rfl
theorem wd_x1193 : (Jvm.Cond.methodLink "BitDeskLaw" (221 : Nat) ({ cls := "BitDesk", name := "rank", desc := "(III)I" } : Jvm.MethodName)) ∈ WS := ws_c5 190 rfl rfl
theorem wd_677 : (Jvm.Cond.instanceMethod ({ cls := "BitDesk", name := "rank", desc := "(III)I" } : Jvm.MethodName)) ∈ WS := ws_c5 191 rfl rfl
theorem wd_678 : (Jvm.Cond.selects "BitDesk" ({ cls := "BitDesk", name := "rank", desc := "(III)I" } : Jvm.MethodName) ({ cls := "BitDesk", name := "rank", desc := "(III)I" } : Jvm.MethodName)) ∈ WS := ws_c5 192 rfl rfl
theorem lk_L_221 : LkV RL 221 jX6_rank 3 := ⟨⟨wd_x1193, ⟨rfl, (by rw [cwd_nil rfl]; exact wd_679)⟩, wd_95, ⟨by decide +kernel, by decide +kernel⟩, by decide +kernel⟩, wd_677, wd_678⟩
theorem wd_x74 : (Jvm.Cond.classLink "BitDeskLaw" (19 : Nat) "BitDesk") ∈ WS := ws_c1 31 rfl rfl
theorem wd_116 : (Jvm.Cond.instantiable "BitDesk" (15 : Nat)) ∈ WS := ws_c1 32 rfl rfl
theorem wd_119 : (Jvm.Cond.code ({ cls := "BitDesk", name := "<init>", desc := "()V" } : Jvm.MethodName) prog_1_method_1_code (2 : Nat) (Option.none : Option Jvm.ClassFile.FieldType)) ∈ WS := ws_c1 35 rfl rfl
theorem wd_x76 : (Jvm.Cond.methodLink "BitDeskLaw" (224 : Nat) ({ cls := "BitDesk", name := "<init>", desc := "()V" } : Jvm.MethodName)) ∈ WS := ws_c1 33 rfl rfl
theorem wd_118 : (Jvm.Cond.instanceMethod ({ cls := "BitDesk", name := "<init>", desc := "()V" } : Jvm.MethodName)) ∈ WS := ws_c1 34 rfl rfl
theorem lk_L_224 : LkI RL 224 jX6_init 0 := ⟨⟨wd_x76, ⟨rfl, (by rw [cwd_nil rfl]; exact wd_119)⟩, wd_95, ⟨by decide +kernel, by decide +kernel⟩, by decide +kernel⟩, wd_118, rfl, rfl⟩
theorem wd_x780 : (Jvm.Cond.code ({ cls := "BitDeskLaw", name := "isSame", desc := "(LBitDesk;LBitDeskLaw$Desk;)Z" } : Jvm.MethodName) method_5_code (5 : Nat) (Option.some Jvm.ClassFile.FieldType.boolean)) ∈ WS := ws_c4 17 rfl rfl
theorem wd_x778 : (Jvm.Cond.methodLink "BitDeskLaw" (225 : Nat) ({ cls := "BitDeskLaw", name := "isSame", desc := "(LBitDesk;LBitDeskLaw$Desk;)Z" } : Jvm.MethodName)) ∈ WS := ws_c4 15 rfl rfl
theorem wd_x779 : (Jvm.Cond.static ({ cls := "BitDeskLaw", name := "isSame", desc := "(LBitDesk;LBitDeskLaw$Desk;)Z" } : Jvm.MethodName)) ∈ WS := ws_c4 16 rfl rfl
theorem lk_L_225 : LkS RL 225 jL_isSame 2 := ⟨⟨wd_x778, ⟨rfl, (by rw [cwd_nil rfl]; exact wd_x780)⟩, wd_94, ⟨by decide +kernel, by decide +kernel⟩, by decide +kernel⟩, wd_x779⟩
theorem wd_1205 : (Jvm.Cond.code ({ cls := "BitDesk", name := "restoreSnapshot", desc := "(I)I" } : Jvm.MethodName) prog_1_method_59_code (2 : Nat) (Option.some Jvm.ClassFile.FieldType.int)) ∈ WS := ws_c2 41 rfl rfl
theorem wd_x321 : (Jvm.Cond.methodLink "BitDeskLaw" (229 : Nat) ({ cls := "BitDesk", name := "restoreSnapshot", desc := "(I)I" } : Jvm.MethodName)) ∈ WS := ws_c2 38 rfl rfl
theorem wd_1203 : (Jvm.Cond.instanceMethod ({ cls := "BitDesk", name := "restoreSnapshot", desc := "(I)I" } : Jvm.MethodName)) ∈ WS := ws_c2 39 rfl rfl
theorem wd_1204 : (Jvm.Cond.selects "BitDesk" ({ cls := "BitDesk", name := "restoreSnapshot", desc := "(I)I" } : Jvm.MethodName) ({ cls := "BitDesk", name := "restoreSnapshot", desc := "(I)I" } : Jvm.MethodName)) ∈ WS := ws_c2 40 rfl rfl
theorem lk_L_229 : LkV RL 229 jX6_restoreSnapshot 1 := ⟨⟨wd_x321, ⟨rfl, (by rw [cwd_nil rfl]; exact wd_1205)⟩, wd_95, ⟨by decide +kernel, by decide +kernel⟩, by decide +kernel⟩, wd_1203, wd_1204⟩
theorem wd_x1197 : (Jvm.Cond.classLink "BitDeskLaw" (41 : Nat) "java/lang/StringBuilder") ∈ WS := ws_c5 194 rfl rfl
theorem wd_x1199 : (Jvm.Cond.methodLink "BitDeskLaw" (232 : Nat) ({ cls := "java/lang/StringBuilder", name := "<init>", desc := "()V" } : Jvm.MethodName)) ∈ WS := ws_c5 196 rfl rfl
theorem lk_L_232 : LkI RL 232 jJ4_init_da8c8 0 := ⟨⟨wd_x1199, ⟨rfl, (by rw [cwd_nil rfl]; exact wd_x1201)⟩, wd_x59, ⟨by decide +kernel, by decide +kernel⟩, by decide +kernel⟩, wd_x1200, rfl, rfl⟩
theorem wd_x612 : (Jvm.Cond.code ({ cls := "BitDeskLaw", name := "drawn", desc := "([IILjava/lang/StringBuilder;)LBitDeskLaw$Desk;" } : Jvm.MethodName) method_4_code (14 : Nat) (Option.some (Jvm.ClassFile.FieldType.object "BitDeskLaw$Desk"))) ∈ WS := ws_c3 89 rfl rfl
theorem wd_x610 : (Jvm.Cond.methodLink "BitDeskLaw" (233 : Nat) ({ cls := "BitDeskLaw", name := "drawn", desc := "([IILjava/lang/StringBuilder;)LBitDeskLaw$Desk;" } : Jvm.MethodName)) ∈ WS := ws_c3 87 rfl rfl
theorem wd_x611 : (Jvm.Cond.static ({ cls := "BitDeskLaw", name := "drawn", desc := "([IILjava/lang/StringBuilder;)LBitDeskLaw$Desk;" } : Jvm.MethodName)) ∈ WS := ws_c3 88 rfl rfl
theorem lk_L_233 : LkS RL 233 jL_drawn 3 := ⟨⟨wd_x610, ⟨rfl, (by rw [cwd_nil rfl]; exact wd_x612)⟩, wd_94, ⟨by decide +kernel, by decide +kernel⟩, by decide +kernel⟩, wd_x611⟩
theorem wd_x1218 : (Jvm.Cond.methodLink "BitDeskLaw" (237 : Nat) ({ cls := "java/lang/StringBuilder", name := "toString", desc := "()Ljava/lang/String;" } : Jvm.MethodName)) ∈ WS := ws_c5 215 rfl rfl
theorem lk_L_237 : LkV RL 237 jJ4_toString_0e30d 0 := ⟨⟨wd_x1218, ⟨rfl, (by rw [cwd_nil rfl]; exact wd_x1221)⟩, wd_x59, ⟨by decide +kernel, by decide +kernel⟩, by decide +kernel⟩, wd_x1219, wd_x1220⟩
theorem wd_x446 : (Jvm.Cond.code ({ cls := "BitDeskLaw", name := "load", desc := "(LBitDesk;Ljava/lang/String;)I" } : Jvm.MethodName) method_3_code (7 : Nat) (Option.some Jvm.ClassFile.FieldType.int)) ∈ WS := ws_c2 163 rfl rfl
theorem wd_x444 : (Jvm.Cond.methodLink "BitDeskLaw" (241 : Nat) ({ cls := "BitDeskLaw", name := "load", desc := "(LBitDesk;Ljava/lang/String;)I" } : Jvm.MethodName)) ∈ WS := ws_c2 161 rfl rfl
theorem wd_x445 : (Jvm.Cond.static ({ cls := "BitDeskLaw", name := "load", desc := "(LBitDesk;Ljava/lang/String;)I" } : Jvm.MethodName)) ∈ WS := ws_c2 162 rfl rfl
theorem lk_L_241 : LkS RL 241 jL_load 2 := ⟨⟨wd_x444, ⟨rfl, (by rw [cwd_nil rfl]; exact wd_x446)⟩, wd_94, ⟨by decide +kernel, by decide +kernel⟩, by decide +kernel⟩, wd_x445⟩
theorem wd_519 : (Jvm.Cond.code ({ cls := "BitDesk", name := "loadError", desc := "()I" } : Jvm.MethodName) prog_1_method_4_code (1 : Nat) (Option.some Jvm.ClassFile.FieldType.int)) ∈ WS := ws_c2 14 rfl rfl
theorem wd_x294 : (Jvm.Cond.methodLink "BitDeskLaw" (244 : Nat) ({ cls := "BitDesk", name := "loadError", desc := "()I" } : Jvm.MethodName)) ∈ WS := ws_c2 11 rfl rfl
theorem wd_517 : (Jvm.Cond.instanceMethod ({ cls := "BitDesk", name := "loadError", desc := "()I" } : Jvm.MethodName)) ∈ WS := ws_c2 12 rfl rfl
theorem wd_518 : (Jvm.Cond.selects "BitDesk" ({ cls := "BitDesk", name := "loadError", desc := "()I" } : Jvm.MethodName) ({ cls := "BitDesk", name := "loadError", desc := "()I" } : Jvm.MethodName)) ∈ WS := ws_c2 13 rfl rfl
theorem lk_L_244 : LkV RL 244 jX6_loadError 0 := ⟨⟨wd_x294, ⟨rfl, (by rw [cwd_nil rfl]; exact wd_519)⟩, wd_95, ⟨by decide +kernel, by decide +kernel⟩, by decide +kernel⟩, wd_517, wd_518⟩
theorem wd_523 : (Jvm.Cond.code ({ cls := "BitDesk", name := "loadStatement", desc := "()I" } : Jvm.MethodName) prog_1_method_5_code (1 : Nat) (Option.some Jvm.ClassFile.FieldType.int)) ∈ WS := ws_c2 18 rfl rfl
theorem wd_x298 : (Jvm.Cond.methodLink "BitDeskLaw" (247 : Nat) ({ cls := "BitDesk", name := "loadStatement", desc := "()I" } : Jvm.MethodName)) ∈ WS := ws_c2 15 rfl rfl
theorem wd_521 : (Jvm.Cond.instanceMethod ({ cls := "BitDesk", name := "loadStatement", desc := "()I" } : Jvm.MethodName)) ∈ WS := ws_c2 16 rfl rfl
theorem wd_522 : (Jvm.Cond.selects "BitDesk" ({ cls := "BitDesk", name := "loadStatement", desc := "()I" } : Jvm.MethodName) ({ cls := "BitDesk", name := "loadStatement", desc := "()I" } : Jvm.MethodName)) ∈ WS := ws_c2 17 rfl rfl
theorem lk_L_247 : LkV RL 247 jX6_loadStatement 0 := ⟨⟨wd_x298, ⟨rfl, (by rw [cwd_nil rfl]; exact wd_523)⟩, wd_95, ⟨by decide +kernel, by decide +kernel⟩, by decide +kernel⟩, wd_521, wd_522⟩
theorem wd_x1283 : (Jvm.Cond.classLink "BitDeskLaw" (117 : Nat) "java/util/ArrayList") ∈ WS := ws_c6 40 rfl rfl
theorem wd_x861 : (Jvm.Cond.instantiable "java/util/ArrayList" (3 : Nat)) ∈ WS := ws_c4 98 rfl rfl
theorem wd_x1286 : (Jvm.Cond.code ({ cls := "java/util/ArrayList", name := "<init>", desc := "()V" } : Jvm.MethodName) prog_36_method_2_code (1 : Nat) (Option.none : Option Jvm.ClassFile.FieldType)) ∈ WS := ws_c6 43 rfl rfl
theorem wd_x1284 : (Jvm.Cond.methodLink "BitDeskLaw" (250 : Nat) ({ cls := "java/util/ArrayList", name := "<init>", desc := "()V" } : Jvm.MethodName)) ∈ WS := ws_c6 41 rfl rfl
theorem wd_x1285 : (Jvm.Cond.instanceMethod ({ cls := "java/util/ArrayList", name := "<init>", desc := "()V" } : Jvm.MethodName)) ∈ WS := ws_c6 42 rfl rfl
theorem lk_L_250 : LkI RL 250 jJx4a65c_init_da8c8 0 := ⟨⟨wd_x1284, ⟨rfl, (by rw [cwd_nil rfl]; exact wd_x1286)⟩, wd_x71, ⟨by decide +kernel, by decide +kernel⟩, by decide +kernel⟩, wd_x1285, rfl, rfl⟩
theorem wd_x844 : (Jvm.Cond.code ({ cls := "BitDeskLaw", name := "act", desc := "(LBitDesk;[LBitDeskLaw$Desk;Ljava/util/ArrayList;I)Z" } : Jvm.MethodName) method_6_code (23 : Nat) (Option.some Jvm.ClassFile.FieldType.boolean)) ∈ WS := ws_c4 81 rfl rfl
theorem wd_x842 : (Jvm.Cond.methodLink "BitDeskLaw" (251 : Nat) ({ cls := "BitDeskLaw", name := "act", desc := "(LBitDesk;[LBitDeskLaw$Desk;Ljava/util/ArrayList;I)Z" } : Jvm.MethodName)) ∈ WS := ws_c4 79 rfl rfl
theorem wd_x843 : (Jvm.Cond.static ({ cls := "BitDeskLaw", name := "act", desc := "(LBitDesk;[LBitDeskLaw$Desk;Ljava/util/ArrayList;I)Z" } : Jvm.MethodName)) ∈ WS := ws_c4 80 rfl rfl
theorem lk_L_251 : LkS RL 251 jL_act 4 := ⟨⟨wd_x842, ⟨rfl, (by rw [cwd_nil rfl]; exact wd_x844)⟩, wd_94, ⟨by decide +kernel, by decide +kernel⟩, by decide +kernel⟩, wd_x843⟩
theorem wd_x1180 : (Jvm.Cond.codeWith ({ cls := "BitDeskLaw", name := "isNoBit", desc := "(LBitDesk;III)Z" } : Jvm.MethodName) method_7_code (5 : Nat) (Option.some Jvm.ClassFile.FieldType.boolean) [((0 : Nat), (8 : Nat), (11 : Nat), (217 : Nat))]) ∈ WS := ws_c5 177 rfl rfl
theorem wd_x1178 : (Jvm.Cond.methodLink "BitDeskLaw" (255 : Nat) ({ cls := "BitDeskLaw", name := "isNoBit", desc := "(LBitDesk;III)Z" } : Jvm.MethodName)) ∈ WS := ws_c5 175 rfl rfl
theorem wd_x1179 : (Jvm.Cond.static ({ cls := "BitDeskLaw", name := "isNoBit", desc := "(LBitDesk;III)Z" } : Jvm.MethodName)) ∈ WS := ws_c5 176 rfl rfl
theorem lk_L_255 : LkSX RL 255 jL_isNoBit 4 := ⟨wd_x1178, ⟨(by decide), (by rw [cwd_hh (by decide)]; exact wd_x1180)⟩, wd_94, ⟨by decide +kernel, by decide +kernel⟩, by decide +kernel, wd_x1179⟩
theorem wd_x1188 : (Jvm.Cond.codeWith ({ cls := "BitDeskLaw", name := "isNoPower", desc := "(LBitDesk;IIIZ)Z" } : Jvm.MethodName) method_8_code (6 : Nat) (Option.some Jvm.ClassFile.FieldType.boolean) [((0 : Nat), (9 : Nat), (12 : Nat), (217 : Nat)), ((0 : Nat), (9 : Nat), (17 : Nat), (219 : Nat))]) ∈ WS := ws_c5 185 rfl rfl
theorem wd_x1186 : (Jvm.Cond.methodLink "BitDeskLaw" (259 : Nat) ({ cls := "BitDeskLaw", name := "isNoPower", desc := "(LBitDesk;IIIZ)Z" } : Jvm.MethodName)) ∈ WS := ws_c5 183 rfl rfl
theorem wd_x1187 : (Jvm.Cond.static ({ cls := "BitDeskLaw", name := "isNoPower", desc := "(LBitDesk;IIIZ)Z" } : Jvm.MethodName)) ∈ WS := ws_c5 184 rfl rfl
theorem lk_L_259 : LkSX RL 259 jL_isNoPower 5 := ⟨wd_x1186, ⟨(by decide), (by rw [cwd_hh (by decide)]; exact wd_x1188)⟩, wd_94, ⟨by decide +kernel, by decide +kernel⟩, by decide +kernel, wd_x1187⟩
theorem wd_x1307 : (Jvm.Cond.constant "BitDeskLaw" (263 : Nat) (1000001 : Int32)) ∈ WS := ws_c6 64 rfl rfl
theorem wd_x1192 : (Jvm.Cond.codeWith ({ cls := "BitDeskLaw", name := "isNoRank", desc := "(LBitDesk;IIIZ)Z" } : Jvm.MethodName) method_9_code (6 : Nat) (Option.some Jvm.ClassFile.FieldType.boolean) [((0 : Nat), (8 : Nat), (11 : Nat), (217 : Nat)), ((0 : Nat), (8 : Nat), (16 : Nat), (219 : Nat))]) ∈ WS := ws_c5 189 rfl rfl
theorem wd_x1190 : (Jvm.Cond.methodLink "BitDeskLaw" (264 : Nat) ({ cls := "BitDeskLaw", name := "isNoRank", desc := "(LBitDesk;IIIZ)Z" } : Jvm.MethodName)) ∈ WS := ws_c5 187 rfl rfl
theorem wd_x1191 : (Jvm.Cond.static ({ cls := "BitDeskLaw", name := "isNoRank", desc := "(LBitDesk;IIIZ)Z" } : Jvm.MethodName)) ∈ WS := ws_c5 188 rfl rfl
theorem lk_L_264 : LkSX RL 264 jL_isNoRank 5 := ⟨wd_x1190, ⟨(by decide), (by rw [cwd_hh (by decide)]; exact wd_x1192)⟩, wd_94, ⟨by decide +kernel, by decide +kernel⟩, by decide +kernel, wd_x1191⟩
